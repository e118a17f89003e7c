/-! ===== between the calls of the law ===== -/
theorem wRf_j {f : Nat} (h : f = 50 ∨ (99 < f ∧ f < 200 ∧ f ≠ 127 ∧ f ≠ 128)) : wRf f = true := by
  rcases h with rfl | ⟨h1, h2, h3, h4⟩
  · rfl
  · have e1 : Nat.blt 99 f = true := by rw [Nat.blt_eq]; exact h1
    have e2 : Nat.blt f 200 = true := by rw [Nat.blt_eq]; exact h2
    have e3 : (f == 127) = false := by simpa using h3
    have e4 : (f == 128) = false := by simpa using h4
    unfold wRf
    rw [e1, e2, e3, e4]
    simp
theorem wRf_k {f : Nat} (h : wRf f = true) : f = 50 ∨ (99 < f ∧ f < 200) := by
  by_cases c : f = 50
  · exact Or.inl c
  · have e0 : (f == 50) = false := by simpa using c
    unfold wRf at h
    rw [e0, Bool.false_or, Bool.and_eq_true, Bool.and_eq_true, Nat.blt_eq, Nat.blt_eq] at h
    exact Or.inr ⟨h.1, h.2.1⟩
/-- what the reference's reading rests on -/
def qKl (p g : Nat → Int → Int → Int) : Prop := ∀ (f : Nat) (o j : Int), (f = 118 ∨ f = 119 ∨ (f = 50 ∧ o = 0 ∧ j = 10)) → p f o j = g f o j
section LB
variable {P P1 : Nat → Int → Prop} {r r1 : Nat → Int → Int → Option (Nat × Int)} {n n1 : Nat → Int → Int} {g g1 g2 G h b : Nat → Int → Int → Int} {i L : Int}
theorem qKl_0 : qKl g g := fun _ _ _ _ => rfl
theorem qKl_u {f : Nat} {o j x : Int} (h : qKl b g) (hf : ¬ (f = 118 ∨ f = 119 ∨ (f = 50 ∧ o = 0 ∧ j = 10))) : qKl (ax_u3 b f o j x) g := fun F o2 j2 z => by rw [ax_u3_n (fun y => hf (by rw [← y.1, ← y.2.1, ← y.2.2]; exact z))]; exact h F o2 j2 z
theorem qKl_mv {A B : Nat} {m : Int} (h : qKl b g) (hB : B ≠ 118 ∧ B ≠ 119 ∧ B ≠ 50) : qKl (wMv b A B m) g := fun F o j z => by
  unfold wMv
  rw [if_neg (fun y => by omega)]
  exact h F o j z
theorem qKl_cp {x y m : Int} (h : qKl b g) : qKl (wCp b x y m) g := fun F o j z => by
  unfold wCp
  rw [if_neg (fun y => by omega)]
  exact h F o j z
theorem qKl_zr {s m : Int} (h : qKl b g) : qKl (wZr b s m) g := fun F o j z => by
  unfold wZr
  rw [if_neg (fun y => by omega)]
  exact h F o j z
theorem qKl_i {c : Prop} [Decidable c] {x y : Nat → Int → Int → Int} (h1 : qKl x g) (h2 : qKl y g) : qKl (if c then x else y) g := by
  by_cases q : c
  · rw [if_pos q]; exact h1
  · rw [if_neg q]; exact h2
theorem qKl_p {c : Prop} [Decidable c] {x y : Int × (Nat → Int → Int → Int)} (h1 : qKl x.2 g) (h2 : qKl y.2 g) : qKl (if c then x else y).2 g := by
  by_cases q : c
  · rw [if_pos q]; exact h1
  · rw [if_neg q]; exact h2
theorem mFeed_l (x : Int) : qKl (mFeed g x).2 g := by
  unfold mFeed
  exact qKl_p (qKl_p qKl_0 (qKl_u (qKl_u qKl_0 (by omega)) (by omega))) qKl_0
theorem mForce_l (x : Int) : qKl (mForce g x).2 g := by
  unfold mForce
  exact qKl_p (qKl_u qKl_0 (by omega)) qKl_0
theorem mSet_l (a w v : Int) : qKl (mSet g a w v).2 g := by
  unfold mSet
  exact qKl_p (qKl_i (qKl_u qKl_0 (by omega)) (qKl_i (qKl_u qKl_0 (by omega)) (qKl_i (qKl_u qKl_0 (by omega)) (qKl_u qKl_0 (by omega))))) qKl_0
theorem mAnt_l (k w s : Int) : qKl (mAnt g k w s).2 g := by
  unfold mAnt
  exact qKl_p (qKl_p qKl_0 (qKl_u (qKl_u (qKl_u (qKl_u (qKl_u (qKl_u qKl_0 (by omega)) (by omega)) (by omega)) (by omega)) (by omega)) (by omega))) qKl_0
theorem mCell_l (s i v : Int) : qKl (mCell g s i v).2 g := by
  unfold mCell
  exact qKl_p (qKl_p qKl_0 (qKl_p (qKl_u qKl_0 (by omega)) qKl_0)) qKl_0
theorem mImage_l : qKl (mImage g) g := by
  unfold mImage
  exact qKl_mv (qKl_mv (qKl_mv (qKl_mv (qKl_u (qKl_u (qKl_u (qKl_u (qKl_u qKl_0 (by omega)) (by omega)) (by omega)) (by omega)) (by omega)) (by decide)) (by decide)) (by decide)) (by decide)
theorem mBack_l : qKl (mBack g).2 g := by
  unfold mBack mBackM
  exact qKl_p qKl_0 (qKl_mv (qKl_mv (qKl_mv (qKl_mv (qKl_u (qKl_u (qKl_u (qKl_u qKl_0 (by omega)) (by omega)) (by omega)) (by omega)) (by decide)) (by decide)) (by decide)) (by decide))
theorem mSheet_l (s t m : Int) : qKl (mSheet g s t m).2 g := by
  unfold mSheet
  exact qKl_p (qKl_p qKl_0 (qKl_zr (qKl_u (qKl_u qKl_0 (by omega)) (by omega)))) qKl_0
theorem mCpyM_l (s i u j m : Int) : qKl (mCpyM g s i u j m) g := by
  unfold mCpyM
  exact qKl_i (qKl_cp qKl_0) qKl_0
theorem mPlank_l (w v : Int) : qKl (mPlank g w v).2 g := by
  unfold mPlank
  refine qKl_p (qKl_p ?_ qKl_0) (qKl_p (qKl_u qKl_0 (by omega)) qKl_0)
  exact @qKl_p _ _ (Classical.propDecidable _) _ _ (qKl_u qKl_0 (by omega)) qKl_0
theorem mAnts_l (s t x m : Int) (h2 : 0 ≤ g 50 0 2 ∧ g 50 0 2 ≤ 7) : qKl (mAnts g s t x m).2 g := by
  unfold mAnts
  by_cases c : (0 ≤ s ∧ s ≤ 3) ∧ (0 ≤ t ∧ t ≤ 2) ∧ 0 ≤ m ∧ m ≤ 7
  · rw [if_pos c]
    refine qKl_p qKl_0 (qKl_p qKl_0 ?_)
    have hin := wAn_in (s := s) (x := x) h2 c.2.2.1
    intro f o j z
    rcases z with rfl | rfl | ⟨rfl, rfl, rfl⟩
    · show (wAn g s x m).2.2 118 o j = _
      rw [hin.2.2.2.2 118 (by decide) (by decide)]
    · show (wAn g s x m).2.2 119 o j = _
      rw [hin.2.2.2.2 119 (by decide) (by decide)]
    · exact hin.2.2.2.1 10 (by decide)
  · rw [if_neg c]
    exact qKl_0
/-- behind a call of the class, ahead of the reference's -/
theorem lw_e (hf : cFr TCl g1 g) : wEq g1 g := fun f hw => funext fun o => funext fun j => hf f o j (by have := wRf_k hw; unfold TCl; omega)
theorem wOs_q (e : wEq g1 g) (hs : wOs g) : wOs g1 := by
  unfold wOs
  rw [e 50 rfl, e 103 rfl, e 104 rfl, e 105 rfl, e 106 rfl, e 107 rfl]
  exact ⟨hs.1, hs.2.1, hs.2.2.1, hs.2.2.2.1, hs.2.2.2.2.1, fun t q z1 z2 z3 z4 => wRow1_cr (by rw [e 113 rfl]) (fun k _ _ => by rw [e 112 rfl]) (hs.2.2.2.2.2.1 t q z1 z2 z3 z4), hs.2.2.2.2.2.2⟩
theorem mLtr_q (e : qKl g1 g) (hs : mLtr g) : mLtr g1 := by
  have e8 : ∀ j, g1 118 0 j = g 118 0 j := fun j => e 118 0 j (Or.inl rfl)
  have e9 : ∀ j, g1 119 0 j = g 119 0 j := fun j => e 119 0 j (Or.inr (Or.inl rfl))
  refine ⟨fun w z1 z2 => by rw [e9]; exact hs.1 w z1 z2, fun w z1 z2 => ?_⟩
  rw [e9, e9]
  exact ⟨(hs.2 w z1 z2).1, fun i z3 z4 => by rw [e8]; exact (hs.2 w z1 z2).2 i z3 z4⟩
theorem lw_q (hw : cWd P r n g g) (hd : cDy g1 g) (hf : cFr TW g1 g) : cWd P r n g1 g ∧ wEq g1 g ∧ wOs g1 := by
  have hE : wEq g1 g := fun f hw => funext fun o => funext fun j => hf f o j (by have := wRf_k hw; unfold TW TG; omega)
  exact ⟨cWd_w hf hd hw, hE, wOs_q hE hw.1.2.2⟩
theorem lw_m (hw : cWd P r n g1 h) (hq1 : ∀ f, wRf f = true → f ≠ 158 → G f = h f) (hq2 : ∀ (f : Nat) (o j : Int), (f < 50 ∨ 199 < f) → G f o j = g1 f o j) : cWd P r n G G :=
  cWd_self hw hq2 (fun f z => hq1 f (wRf_j (Or.inr (by omega))) (by omega)) (fun j z => by rw [hq1 50 rfl (by decide)]) (fun row z1 z2 => ⟨by rw [hq1 113 rfl (by decide)], fun k z3 z4 => by rw [hq1 112 rfl (by decide)]⟩) (fun i z1 z2 => by rw [hq1 108 rfl (by decide)])
/-- the law's invariant at the place i of its script -/
def lwI (i : Int) (P : Nat → Int → Prop) (g : Nat → Int → Int → Int) (r : Nat → Int → Int → Option (Nat × Int)) (n : Nat → Int → Int) : Prop :=
  cWd P r n g g ∧ g 2 0 11 ≤ 1 + 2 * i ∧ (cStr P ∧ P 90 0 ∧ P 1 0 ∧ P 50 0) ∧ (∀ f o, P f o → f < 999) ∧ ax_nd (P, g, r, n) ∧ (∀ f o, P f o → (f = 6 ∨ (600 ≤ f ∧ f ≤ 604)) → o < g 50 0 10) ∧ mLen n ∧ mLtr g
theorem mLen_k (hk : ∀ (f : Nat) (o : Int), 99 < f → f < 200 → n1 f o = n f o) (h : mLen n) : mLen n1 := fun q hq => by
  have e : ∀ q ∈ mLens, 99 < q.1 ∧ q.1 < 200 := by decide
  rw [hk q.1 0 (e q hq).1 (e q hq).2]
  exact h q hq
theorem lwI_nx (hI : lwI i P g r n) (hw : cWd P1 r1 n1 G G) (hs : G 2 0 11 ≤ g 2 0 11 + 7) (hP : ∀ f o, P f o → P1 f o) (hp : ∀ f o, P1 f o → f < 999) (hnd : ax_nd (P1, G, r1, n1)) (h6 : ∀ f o, P1 f o → (f = 6 ∨ (600 ≤ f ∧ f ≤ 604)) → o < G 50 0 10) (hn : ∀ (f : Nat) (o : Int), 99 < f → f < 200 → n1 f o = n f o) (hl : ∀ (f : Nat) (o j : Int), f = 118 ∨ f = 119 → G f o j = g f o j) : lwI (i + 6) P1 G r1 n1 := by
  obtain ⟨i1, i2, ⟨i3, i4, i5, i6⟩, i7, i8, i9, i10, i11⟩ := hI
  have e8 : ∀ j, G 118 0 j = g 118 0 j := fun j => hl 118 0 j (Or.inl rfl)
  have e9 : ∀ j, G 119 0 j = g 119 0 j := fun j => hl 119 0 j (Or.inr rfl)
  refine ⟨hw, by omega, ⟨⟨fun k z1 z2 => ⟨hP _ _ (i3.1 k z1 z2).1, hP _ _ (i3.1 k z1 z2).2⟩, hP _ _ i3.2⟩, hP _ _ i4, hP _ _ i5, hP _ _ i6⟩, hp, hnd, h6, mLen_k hn i10, ⟨fun w z1 z2 => by rw [e9]; exact i11.1 w z1 z2, fun w z1 z2 => ?_⟩⟩
  rw [e9, e9]
  exact ⟨(i11.2 w z1 z2).1, fun k z3 z4 => by rw [e8]; exact (i11.2 w z1 z2).2 k z3 z4⟩
theorem lwI_i (hI : lwI i P g r n) : lwI (i + 6) P g r n := by
  obtain ⟨i1, i2, i3⟩ := hI
  exact ⟨i1, by omega, i3⟩
theorem lwI_q (hI : lwI i P g r n) (hw1 : cWd P r n g1 g) (hf : cFr TW g1 g) (hk : wKp g2 g1) : lwI (i + 6) P g2 r n := by
  have e1 : ∀ (f : Nat) (o j : Int), f ≠ 50 → (f < 127 ∨ (145 < f ∧ f ≠ 158)) → g2 f o j = g1 f o j := fun f o j z1 z2 => by rw [hk.1 f z1 z2]
  have e2 : ∀ (f : Nat) (o j : Int), (f = 50 ∨ (99 < f ∧ f < 200)) → g1 f o j = g f o j := fun f o j z => hf f o j (by unfold TW TG; omega)
  have e5 : ∀ o j, (j < 39 ∨ 42 < j) → g2 50 o j = g 50 o j := fun o j z => (hk.2 o j z).trans (e2 50 o j (Or.inl rfl))
  have hw2 : cWd P r n g2 g2 := cWd_self hw1 (fun f o j z => e1 f o j (by omega) (by omega)) (fun f z => funext fun o => funext fun j => (e1 f o j (by omega) (by omega)).trans (e2 f o j (by omega))) (fun j z => e5 0 j (by omega)) (fun row z1 z2 => ⟨(e1 113 0 row (by decide) (by decide)).trans (e2 113 0 row (by omega)), fun k z3 z4 => (e1 112 0 _ (by decide) (by decide)).trans (e2 112 0 _ (by omega))⟩) (fun k z1 z2 => (e1 108 0 k (by decide) (by decide)).trans (e2 108 0 k (by omega)))
  have hs : g2 2 0 11 = g 2 0 11 := (e1 2 0 11 (by decide) (by decide)).trans (hf 2 0 11 (by unfold TW TG; omega))
  refine lwI_nx hI hw2 (by omega) (fun _ _ z => z) hI.2.2.2.1 hI.2.2.2.2.1 (fun f o z1 z2 => ?_) (fun _ _ _ _ => rfl) (fun f o j z => (e1 f o j (by omega) (by omega)).trans (e2 f o j (by omega)))
  rw [e5 0 10 (by omega)]
  exact hI.2.2.2.2.2.1 f o z1 z2
theorem lwI_m (hI : lwI i P g r n) (hw1 : cWd P r1 n g1 h) (hs : g1 2 0 11 ≤ g 2 0 11 + 1) (hnd : ax_nd (P, g1, r1, n)) (hq1 : ∀ f, wRf f = true → f ≠ 158 → G f = h f) (hq2 : ∀ (f : Nat) (o j : Int), (f < 50 ∨ 199 < f) → G f o j = g1 f o j) (hl : qKl h g) : lwI (i + 6) P G r1 n := by
  have hL : qKl G g := fun f o j z => by
    rw [hq1 f (by rcases z with rfl | rfl | ⟨rfl, -⟩ <;> rfl) (by omega)]
    exact hl f o j z
  refine lwI_nx hI (lw_m hw1 hq1 hq2) (by rw [hq2 2 0 11 (by omega)]; omega) (fun _ _ z => z) hI.2.2.2.1 hnd (fun f o z1 z2 => ?_) (fun _ _ _ _ => rfl) (fun f o j z => hL f o j (by omega))
  rw [hL 50 0 10 (by omega)]
  exact hI.2.2.2.2.2.1 f o z1 z2
theorem lwI_a (hI : lwI i P g r n) (he : cWe P1 g1 r1 n1 h) (hgr : cGr P g n P1 g1 n1) (hs : g1 2 0 11 ≤ g 2 0 11 + 7) (hq : qM G h g1) (hl : qKl h g) : lwI (i + 6) P1 G r1 n1 := by
  have hL : qKl G g := fun f o j z => by
    rw [hq.1 f (by rcases z with rfl | rfl | ⟨rfl, -⟩ <;> rfl)]
    exact hl f o j z
  refine lwI_nx hI (lw_m he.1 (fun f z _ => hq.1 f z) hq.2) (by rw [hq.2 2 0 11 (by omega)]; omega) hgr.1 he.2.2.1 he.2.2.2 (fun f o z1 z2 => ?_) (fun f o z1 z2 => hgr.2.2.2 f o (by omega)) (fun f o j z => hL f o j (by omega))
  rw [hL 50 0 10 (by omega)]
  exact hI.2.2.2.2.2.1 f o (hgr.2.1 f o (by omega) z1) z2
theorem lwI_t {t ρ : Int} (hI : lwI i P g r n) (ht : t = g 50 0 10) (hx : cXt P g n t P1 g1 r1 n1) (hw1 : cWd P1 r1 n1 g1 (mixM g G)) (hy : yTx g1 G ρ) : lwI (i + 6) P1 G r1 n1 := by
  obtain ⟨x1, x2, x3, x4, x5, x6⟩ := hx
  have e2 : ∀ (f : Nat) (o j : Int), (f = 50 ∨ (99 < f ∧ f < 200)) → g1 f o j = g f o j := fun f o j z => x3 f o j (by unfold TCl; omega)
  have e50 : g1 50 0 10 = g 50 0 10 := e2 50 0 10 (Or.inl rfl)
  have hG : ∀ (f : Nat) (o j : Int), ¬ (f = 50 ∨ f = 120 ∨ f = 124 ∨ f = 112 ∨ f = 113) → G f o j = g1 f o j := fun f o j z => by
    by_cases c : g1 50 0 10 = 6
    · rw [(hy.1 c).2]
    · exact (hy.2 c).1 f o j (by unfold TA TN; omega)
  have h10 : G 50 0 10 = g1 50 0 10 ∨ G 50 0 10 = g1 50 0 10 + 1 := by
    by_cases c : g1 50 0 10 = 6
    · rw [(hy.1 c).2]; exact Or.inl rfl
    · obtain ⟨-, -, -, y1, y2⟩ := hy.2 c
      by_cases d : (rSZ (tT (g1 108 0) (g1 50 0 9)) (tV (g1 108 0) (g1 50 0 9)) (tkP (g1 108 0) (g1 50 0 9)) (tkN (g1 108 0) (g1 50 0 9))).2.2 = -1
      · exact Or.inr (y2 d).2.1
      · exact Or.inl (y1 d).2
  have hw2 : cWd P1 r1 n1 G G := cWd_self hw1 (fun f o j z => hG f o j (by omega)) (fun f z => funext fun o => funext fun j => (mixM_r (by omega)).symm) (fun j z => (mixM_r (by omega)).symm) (fun row z1 z2 => ⟨(mixM_r (by omega)).symm, fun k z3 z4 => (mixM_r (by omega)).symm⟩) (fun k z1 z2 => (mixM_r (by omega)).symm)
  have hc := hw2.2.2.1.2.1.1
  refine lwI_nx hI hw2 (by rw [hG 2 0 11 (by omega), x4]; omega) x1 (fun f o z => ?_) x5 (fun f o z1 z2 => ?_) (fun f o z1 z2 => x6 f o (by omega)) (fun f o j z => (hG f o j (by omega)).trans (e2 f o j (by omega)))
  · rcases x2 f o z with y | y
    · exact hI.2.2.2.1 f o y
    · omega
  · rcases x2 f o z1 with y | y
    · have := hI.2.2.2.2.2.1 f o y z2
      omega
    · have h4 : G 1 0 4 = g1 1 0 4 := hG 1 0 4 (by omega)
      omega
theorem lw_yT {r9 : Option ax_V} {M9 : ax_Mm} {Px : Nat → Int → Prop} {rx : Nat → Int → Int → Option (Nat × Int)} {nx : Nat → Int → Int} (hq : (g 50 0 10 = 6 → r9 = some (.inl (-4)) ∧ M9 = (Px, g, rx, nx)) ∧ (g 50 0 10 ≠ 6 → ∃ g', M9 = (Px, g', rx, nx) ∧ cFr (fun f o j => TA (g 50 0 10) f o j ∨ (f = 50 ∧ o = 0 ∧ (j = 9 ∨ j = 10))) g' g ∧ (-1 ≤ (rSZ (tT (g 108 0) (g 50 0 9)) (tV (g 108 0) (g 50 0 9)) (tkP (g 108 0) (g 50 0 9)) (tkN (g 108 0) (g 50 0 9))).2.2 ∧ (rSZ (tT (g 108 0) (g 50 0 9)) (tV (g 108 0) (g 50 0 9)) (tkP (g 108 0) (g 50 0 9)) (tkN (g 108 0) (g 50 0 9))).2.2 ≤ 160) ∧ g' 50 0 9 = 0 ∧ ((rSZ (tT (g 108 0) (g 50 0 9)) (tV (g 108 0) (g 50 0 9)) (tkP (g 108 0) (g 50 0 9)) (tkN (g 108 0) (g 50 0 9))).2.2 ≠ -1 → r9 = some (.inl (-100 - (rSZ (tT (g 108 0) (g 50 0 9)) (tV (g 108 0) (g 50 0 9)) (tkP (g 108 0) (g 50 0 9)) (tkN (g 108 0) (g 50 0 9))).2.2)) ∧ g' 50 0 10 = g 50 0 10) ∧ ((rSZ (tT (g 108 0) (g 50 0 9)) (tV (g 108 0) (g 50 0 9)) (tkP (g 108 0) (g 50 0 9)) (tkN (g 108 0) (g 50 0 9))).2.2 = -1 → r9 = some (.inl (g 50 0 10)) ∧ g' 50 0 10 = g 50 0 10 + 1 ∧ ∀ q, 0 ≤ q → q < 3 → yPd g' (tT (g 108 0) (g 50 0 9)) (tV (g 108 0) (g 50 0 9)) (tkP (g 108 0) (g 50 0 9)) (tkN (g 108 0) (g 50 0 9)) (3 * g 50 0 10) q))) :
    ∃ ρ g', r9 = some (.inl ρ) ∧ M9 = (Px, g', rx, nx) ∧ yTx g g' ρ := by
  by_cases c : g 50 0 10 = 6
  · exact ⟨_, g, (hq.1 c).1, (hq.1 c).2, fun _ => ⟨rfl, rfl⟩, fun z => absurd c z⟩
  · obtain ⟨g', e, h1, h2, h3, h4, h5⟩ := hq.2 c
    by_cases d : (rSZ (tT (g 108 0) (g 50 0 9)) (tV (g 108 0) (g 50 0 9)) (tkP (g 108 0) (g 50 0 9)) (tkN (g 108 0) (g 50 0 9))).2.2 = -1
    · exact ⟨_, g', (h5 d).1, e, fun z => absurd z c, fun _ => ⟨h1, h2, h3, fun z => absurd d z, fun _ => ⟨rfl, (h5 d).2⟩⟩⟩
    · exact ⟨_, g', (h4 d).1, e, fun z => absurd z c, fun _ => ⟨h1, h2, h3, fun _ => ⟨rfl, (h4 d).2⟩, fun z => absurd z d⟩⟩
theorem she_z (hw : cWd P r n g1 h) : ∀ s, 0 ≤ s → s ≤ 3 → 0 ≤ h 156 0 s ∧ h 156 0 s ≤ 40 := fun s z1 z2 => (hw.2.2.2.2.1.2 s z1 (by omega)).2.2.2.1.2
theorem sX_b {xs : Nat → Int32} {i : Int} : -2147483648 ≤ sX xs i ∧ sX xs i ≤ 2147483647 := by
  unfold sX
  have h1 := Int32.le_toInt (xs i.toNat)
  have h2 := Int32.toInt_lt (xs i.toNat)
  omega
/-- ants that are no more -/
def dA (m : Int) (f : Nat) (o : Int) : Bool := (f == 5 || (f == 500 || f == 501)) && !(decide (0 ≤ o) && decide (o < m))
theorem dA_f {m : Int} {f : Nat} {o : Int} : dA m f o = false ↔ ¬ ((f = 5 ∨ f = 500 ∨ f = 501) ∧ ¬ (0 ≤ o ∧ o < m)) := by
  unfold dA
  simp only [Bool.and_eq_false_iff, Bool.or_eq_false_iff, beq_eq_false_iff_ne, Bool.not_eq_false', Bool.and_eq_true, decide_eq_true_eq]
  omega
theorem dA_t {m : Int} {f : Nat} {o : Int} (h1 : f = 5 ∨ f = 500 ∨ f = 501) (h2 : ¬ (0 ≤ o ∧ o < m)) : dA m f o = true := by
  cases e : dA m f o with
  | true => rfl
  | false => exact absurd ⟨h1, h2⟩ (dA_f.mp e)
theorem lwI_dr (hI : lwI i P g r n) : lwI i (dpP (dA (g 50 0 2)) P) g (dpR (dA (g 50 0 2)) r) n ∧ cFa (dpP (dA (g 50 0 2)) P) (g 50 0 2) := by
  obtain ⟨i1, i2, ⟨i3, i4, i5, i6⟩, i7, i8, i9, i10, i11⟩ := hI
  have k : ∀ (f : Nat) (o : Int), ¬ (f = 5 ∨ f = 500 ∨ f = 501) → P f o → dpP (dA (g 50 0 2)) P f o := fun f o z1 z2 => ⟨z2, dA_f.mpr (fun y => z1 y.1)⟩
  obtain ⟨⟨w1a, w1b, w1c⟩, w2, w3, w4, w5, w6, w7⟩ := i1
  refine ⟨⟨⟨⟨⟨w1a.1, fun a z1 z2 => ?_⟩, w1b, w1c⟩, w2, ?_, w4, ⟨w5.1, fun s z1 z2 => ?_⟩, w6, w7⟩, i2, ⟨⟨fun q z1 z2 => ⟨k _ _ (by omega) (i3.1 q z1 z2).1, k _ _ (by omega) (i3.1 q z1 z2).2⟩, k _ _ (by omega) i3.2⟩, k _ _ (by omega) i4, k _ _ (by omega) i5, k _ _ (by omega) i6⟩, fun f o z => i7 f o z.1, nd_dp (g := g) (fun f o j q z1 _ z2 _ => i8 f o j q z1 z2), fun f o z1 z2 => i9 f o z1.1 z2, i10, i11⟩, fun a z => ⟨fun y => ?_, fun y => ?_, fun y => ?_⟩⟩
  · obtain ⟨⟨y1, y2⟩, y3⟩ := w1a.2 a z1 z2
    have hm : g 2 0 1 = g 50 0 2 := w1b.1.1
    have hd : dA (g 50 0 2) 5 a = false := dA_f.mpr (by omega)
    exact ⟨⟨dpR_k y1 hd, y2, hd⟩, y3⟩
  · obtain ⟨⟨⟨t1, t2⟩, ⟨t3, t3b⟩, t3c⟩, ⟨t4, t5, t6⟩, t7⟩ := w3
    refine ⟨⟨⟨dpR_k t1 (dA_f.mpr (by omega)), k _ _ (by omega) t2⟩, ⟨dpR_k t3 (dA_f.mpr (by omega)), k _ _ (by omega) t3b⟩, t3c⟩, ⟨t4, t5, dpR_k t6 (dA_f.mpr (by omega))⟩, fun t z1 z2 => ?_⟩
    obtain ⟨⟨y1, y2⟩, y3⟩ := t7 t z1 z2
    exact ⟨⟨dpR_k y1 (dA_f.mpr (by omega)), k _ _ (by omega) y2⟩, y3⟩
  · obtain ⟨⟨y1, y2⟩, y3⟩ := w5.2 s z1 z2
    exact ⟨⟨dpR_k y1 (dA_f.mpr (by omega)), k _ _ (by omega) y2⟩, y3⟩
  · exact absurd y.2 (by rw [dA_t (Or.inl rfl) z]; decide)
  · exact absurd y.2 (by rw [dA_t (Or.inr (Or.inl rfl)) z]; decide)
  · exact absurd y.2 (by rw [dA_t (Or.inr (Or.inr rfl)) z]; decide)
theorem dA_cl {m : Int} : ∀ (f : Nat) (o : Int), f < 1000 → ax_ob f = true → dA m f o = false → ∀ k : Nat, ax_isA f k = true → k < ax_N f → dA m (ax_sb f + k) o = false := fun f o z1 z2 z3 k z4 z5 => by
  by_cases c : f = 5
  · subst c
    have := dA_f.mp z3
    exact dA_f.mpr (by omega)
  · refine dA_f.mpr (fun y => ?_)
    have hN : ax_N f ≤ 59 := by unfold ax_N; split <;> omega
    have hs : ax_sb f = 700 ∨ ax_sb f = 200 ∨ ax_sb f = 300 ∨ ax_sb f = 400 ∨ ax_sb f = 600 ∨ ax_sb f = 100 := by
      unfold ax_sb
      split <;> first | omega | (exfalso; omega)
    omega
end LB
