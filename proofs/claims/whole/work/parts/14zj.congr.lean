/-! ===== the reference's answers depend on its own families alone ===== -/
/-- made of memories that agree, alike -/
def qM (p' p g' : Nat → Int → Int → Int) : Prop := wEq p' p ∧ ∀ (f : Nat) (o j : Int), (f < 50 ∨ 199 < f) → p' f o j = g' f o j
def qE (p' p : Int × (Nat → Int → Int → Int)) (g' : Nat → Int → Int → Int) : Prop := p'.1 = p.1 ∧ qM p'.2 p.2 g'
section QE
variable {g g' b b' : Nat → Int → Int → Int}
theorem qM_0 (h : wEq g' g) : qM g' g g' := ⟨h, fun _ _ _ _ => rfl⟩
theorem qM_u {f : Nat} {o j x y : Int} (h : qM b' b g') (e : x = y) (hf : ¬ (f < 50 ∨ 199 < f)) : qM (ax_u3 b' f o j x) (ax_u3 b f o j y) g' := ⟨wEq_u h.1 e, fun F o2 j2 z => by rw [ax_u3_n (fun y => by rw [y.1] at z; exact hf z)]; exact h.2 F o2 j2 z⟩
theorem qM_mv {A B : Nat} {m : Int} (h : qM b' b g') (hA : wRf A = true) (hB : ¬ (B < 50 ∨ 199 < B)) : qM (wMv b' A B m) (wMv b A B m) g' := by
  refine ⟨fun F hF => ?_, fun F o j z => ?_⟩
  · funext o j
    unfold wMv
    rw [h.1 A hA, h.1 F hF]
  · unfold wMv
    rw [if_neg (fun y => by rw [y.1] at z; exact hB z)]
    exact h.2 F o j z
theorem qM_cp {x y m : Int} (h : qM b' b g') : qM (wCp b' x y m) (wCp b x y m) g' := by
  refine ⟨fun F hF => ?_, fun F o j z => ?_⟩
  · funext o j
    unfold wCp
    rw [h.1 157 rfl, h.1 F hF]
  · unfold wCp
    rw [if_neg (by omega)]
    exact h.2 F o j z
theorem qM_zr {s m : Int} (h : qM b' b g') : qM (wZr b' s m) (wZr b s m) g' := by
  refine ⟨fun F hF => ?_, fun F o j z => ?_⟩
  · funext o j
    unfold wZr
    rw [h.1 F hF]
  · unfold wZr
    rw [if_neg (by omega)]
    exact h.2 F o j z
theorem qE_i {c : Prop} [Decidable c] {x y x' y' : Int × (Nat → Int → Int → Int)} (h1 : qE x' x g') (h2 : qE y' y g') : qE (if c then x' else y') (if c then x else y) g' := by
  by_cases q : c
  · rw [if_pos q, if_pos q]; exact h1
  · rw [if_neg q, if_neg q]; exact h2
theorem qM_i {c : Prop} [Decidable c] {x y x' y' : Nat → Int → Int → Int} (h1 : qM x' x g') (h2 : qM y' y g') : qM (if c then x' else y') (if c then x else y) g' := by
  by_cases q : c
  · rw [if_pos q, if_pos q]; exact h1
  · rw [if_neg q, if_neg q]; exact h2
theorem mFeed_q (x : Int) (h : wEq g' g) : qE (mFeed g' x) (mFeed g x) g' := by
  unfold mFeed
  rw [h 50 rfl]
  exact qE_i (qE_i ⟨rfl, qM_0 h⟩ ⟨rfl, qM_u (qM_u (qM_0 h) rfl (by omega)) rfl (by omega)⟩) ⟨rfl, qM_0 h⟩
theorem mForce_q (x : Int) (h : wEq g' g) : qE (mForce g' x) (mForce g x) g' := by
  unfold mForce
  rw [h 50 rfl]
  exact qE_i ⟨rfl, qM_u (qM_0 h) rfl (by omega)⟩ ⟨rfl, qM_0 h⟩
theorem mTold_e (a w : Int) (h : wEq g' g) : mTold g' a w = mTold g a w := by
  unfold mTold
  rw [h 50 rfl, h 103 rfl, h 104 rfl, h 105 rfl, h 106 rfl, h 107 rfl]
theorem mMost_e (w : Int) (h : wEq g' g) : mMost g' w = mMost g w := by
  unfold mMost
  rw [h 50 rfl]
theorem mSet_q (a w v : Int) (h : wEq g' g) : qE (mSet g' a w v) (mSet g a w v) g' := by
  unfold mSet
  rw [h 50 rfl, mTold_e a w h, mMost_e w h]
  exact qE_i ⟨rfl, qM_i (qM_u (qM_0 h) rfl (by omega)) (qM_i (qM_u (qM_0 h) rfl (by omega)) (qM_i (qM_u (qM_0 h) rfl (by omega)) (qM_u (qM_0 h) rfl (by omega))))⟩ ⟨rfl, qM_0 h⟩
theorem mAnt_q (k w s : Int) (h : wEq g' g) : qE (mAnt g' k w s) (mAnt g k w s) g' := by
  unfold mAnt
  rw [h 50 rfl]
  exact qE_i (qE_i ⟨rfl, qM_0 h⟩ ⟨rfl, qM_u (qM_u (qM_u (qM_u (qM_u (qM_u (qM_0 h) rfl (by omega)) rfl (by omega)) rfl (by omega)) rfl (by omega)) rfl (by omega)) rfl (by omega)⟩) ⟨rfl, qM_0 h⟩
theorem mCell_q (s i v : Int) (h : wEq g' g) : qE (mCell g' s i v) (mCell g s i v) g' := by
  unfold mCell
  rw [h 155 rfl, h 156 rfl]
  exact qE_i (qE_i ⟨rfl, qM_0 h⟩ (qE_i ⟨rfl, qM_u (qM_0 h) rfl (by omega)⟩ ⟨rfl, qM_0 h⟩)) ⟨rfl, qM_0 h⟩
theorem mImage_q (h : wEq g' g) : qM (mImage g') (mImage g) g' := by
  unfold mImage
  rw [h 50 rfl]
  exact qM_mv (qM_mv (qM_mv (qM_mv (qM_u (qM_u (qM_u (qM_u (qM_u (qM_0 h) rfl (by omega)) rfl (by omega)) rfl (by omega)) rfl (by omega)) rfl (by omega)) rfl (by omega)) rfl (by omega)) rfl (by omega)) rfl (by omega)
theorem mBack_q (h : wEq g' g) : qE (mBack g') (mBack g) g' := by
  unfold mBack mBackM
  rw [h 50 rfl]
  exact qE_i ⟨rfl, qM_0 h⟩ ⟨rfl, qM_mv (qM_mv (qM_mv (qM_mv (qM_u (qM_u (qM_u (qM_u (qM_0 h) rfl (by omega)) rfl (by omega)) rfl (by omega)) rfl (by omega)) rfl (by omega)) rfl (by omega)) rfl (by omega)) rfl (by omega)⟩
theorem mSheet_q (s t m : Int) (h : wEq g' g) : qE (mSheet g' s t m) (mSheet g s t m) g' := by
  unfold mSheet
  exact qE_i (qE_i ⟨rfl, qM_0 h⟩ ⟨rfl, qM_zr (qM_u (qM_u (qM_0 h) rfl (by omega)) rfl (by omega))⟩) ⟨rfl, qM_0 h⟩
theorem mCpy_e (s i u j m : Int) (h : wEq g' g) : mCpy g' s i u j m = mCpy g s i u j m := by
  unfold mCpy
  rw [h 155 rfl, h 156 rfl]
theorem mCpyM_q (s i u j m : Int) (h : wEq g' g) : qM (mCpyM g' s i u j m) (mCpyM g s i u j m) g' := by
  unfold mCpyM
  rw [mCpy_e s i u j m h]
  exact qM_i (qM_cp (qM_0 h)) (qM_0 h)
theorem mCount_e (w : Int) (h : wEq g' g) : mCount g' w = mCount g w := by
  unfold mCount
  rw [h 50 rfl]
theorem mTaken_e (a k : Int) (h : wEq g' g) : mTaken g' a k = mTaken g a k := by
  unfold mTaken
  rw [h 50 rfl, h 103 rfl, h 107 rfl]
theorem mPlank_q (w v : Int) (h : wEq g' g) : qE (mPlank g' w v) (mPlank g w v) g' := by
  unfold mPlank
  rw [h 50 rfl, h 104 rfl]
  refine qE_i (qE_i ?_ ⟨rfl, qM_0 h⟩) (qE_i ⟨rfl, qM_u (qM_0 h) rfl (by omega)⟩ ⟨rfl, qM_0 h⟩)
  exact @qE_i _ _ (Classical.propDecidable _) _ _ _ _ ⟨rfl, qM_u (qM_0 h) rfl (by omega)⟩ ⟨rfl, qM_0 h⟩
theorem qM_t {a a' c : Nat → Int → Int → Int} (h1 : qM a' a b') (h2 : qM b' c g') : qM a' a g' := ⟨h1.1, fun f o j z => (h1.2 f o j z).trans (h2.2 f o j z)⟩
theorem wAn_q (s x : Int) (h : wEq g' g) (k : Int) : (wAn g' s x k).1 = (wAn g s x k).1 ∧ (wAn g' s x k).2.1 = (wAn g s x k).2.1 ∧ qM (wAn g' s x k).2.2 (wAn g s x k).2.2 g' := by
  have key : ∀ k : Nat, (wAn g' s x k).1 = (wAn g s x k).1 ∧ (wAn g' s x k).2.1 = (wAn g s x k).2.1 ∧ qM (wAn g' s x k).2.2 (wAn g s x k).2.2 g' := fun k => by
    induction k with
    | zero => exact ⟨rfl, rfl, qM_0 h⟩
    | succ k ih =>
      have e : ∀ G : Nat → Int → Int → Int, wAn G s x ((k + 1 : Nat) : Int) = (fun k t => if t.1 ≠ 0 then t else if 0 ≤ x + 3 * k ∧ x + 3 * k + 2 < G 156 0 s then (0, t.2.1 + bI (0 ≤ (mAnt t.2.2 (G 157 0 (40 * s + (x + 3 * k))) (G 157 0 (40 * s + (x + 3 * k) + 1)) (G 157 0 (40 * s + (x + 3 * k) + 2))).1), (mAnt t.2.2 (G 157 0 (40 * s + (x + 3 * k))) (G 157 0 (40 * s + (x + 3 * k) + 1)) (G 157 0 (40 * s + (x + 3 * k) + 2))).2) else (1, t.2)) (k : Int) (wAn G s x (k : Int)) := fun G => by
        unfold wAn
        rw [show ((k + 1 : Nat) : Int) = (k : Int) + 1 by omega]
        exact wFI_s (by omega)
      rw [e g', e g]
      dsimp only
      obtain ⟨i1, i2, i3⟩ := ih
      rw [i1, i2, h 156 rfl, h 157 rfl]
      have hm := mAnt_q (g 157 0 (40 * s + (x + 3 * (k : Int)))) (g 157 0 (40 * s + (x + 3 * (k : Int)) + 1)) (g 157 0 (40 * s + (x + 3 * (k : Int)) + 2)) i3.1
      by_cases c1 : (wAn g s x (k : Int)).1 ≠ 0
      · rw [if_pos c1, if_pos c1]
        exact ⟨i1, i2, i3⟩
      · rw [if_neg c1, if_neg c1]
        by_cases c2 : 0 ≤ x + 3 * (k : Int) ∧ x + 3 * (k : Int) + 2 < g 156 0 s
        · rw [if_pos c2, if_pos c2]
          exact ⟨rfl, by dsimp only; rw [hm.1], hm.2.1, fun f o j z => (hm.2.2 f o j z).trans (i3.2 f o j z)⟩
        · rw [if_neg c2, if_neg c2]
          exact ⟨rfl, i2, i3⟩
  have e : ∀ G : Nat → Int → Int → Int, wAn G s x k = wAn G s x (k.toNat : Nat) := fun G => rfl
  rw [e g', e g]
  exact key _
theorem mAnts_q (s t x m : Int) (h : wEq g' g) : qE (mAnts g' s t x m) (mAnts g s t x m) g' := by
  obtain ⟨i1, i2, i3⟩ := wAn_q s x h m
  unfold mAnts
  rw [h 155 rfl, i1, i2]
  exact qE_i (qE_i ⟨rfl, qM_0 h⟩ (qE_i ⟨rfl, qM_0 h⟩ ⟨rfl, i3⟩)) ⟨rfl, qM_0 h⟩
end QE
