theorem wEv_ag {cd nm nm' s s' : Int → Int} {m : Int} (hnm : ∀ i, 0 ≤ i → i < 6 → nm i = nm' i) (hv : ∀ k, 0 ≤ k → k < m → wEvOk (cd k) (wEvS cd nm s k).1) : ∀ k : Nat, (k : Int) ≤ m → (wEvS cd nm s k).1 = (wEvS cd nm' s' k).1 ∧ ∀ j, 0 ≤ j → j < (wEvS cd nm s k).1 → (wEvS cd nm s k).2 j = (wEvS cd nm' s' k).2 j := by
  intro k
  induction k with
  | zero => intro _; exact ⟨rfl, fun j h1 h2 => absurd h2 (by show ¬ j < 0; omega)⟩
  | succ k ih =>
    intro hk
    obtain ⟨e1, e2⟩ := ih (by omega)
    have hok := hv k (by omega) (by omega)
    rw [show ((k + 1 : Nat) : Int) = (k : Int) + 1 by omega, wEvS_s (by omega), wEvS_s (by omega)]
    generalize wEvS cd nm s k = S at *
    generalize wEvS cd nm' s' k = S' at *
    obtain ⟨d, t⟩ := S
    obtain ⟨d', t'⟩ := S'
    dsimp only at e1 e2 hok
    subst e1
    obtain ⟨o1, o2, o3, o4⟩ := hok
    unfold wEv1
    by_cases c1 : cd k < 0
    · rw [if_pos c1, if_pos c1]
      refine ⟨rfl, fun j h1 h2 => ?_⟩
      dsimp only at h2 ⊢
      unfold wUp
      by_cases q : j = d
      · rw [if_pos q, if_pos q]
      · rw [if_neg q, if_neg q]; exact e2 j h1 (by omega)
    · rw [if_neg c1, if_neg c1]
      by_cases c2 : cd k < 6
      · rw [if_pos c2, if_pos c2]
        refine ⟨rfl, fun j h1 h2 => ?_⟩
        dsimp only at h2 ⊢
        unfold wUp
        by_cases q : j = d
        · rw [if_pos q, if_pos q]; exact hnm _ (by omega) c2
        · rw [if_neg q, if_neg q]; exact e2 j h1 (by omega)
      · rw [if_neg c2, if_neg c2]
        by_cases c3 : cd k = 12
        · rw [if_pos c3, if_pos c3]
          have := o3 (by omega) (Or.inl c3)
          refine ⟨rfl, fun j h1 h2 => ?_⟩
          dsimp only at h2 ⊢
          simp only [e2 (d - 1) (by omega) (by omega)]
          unfold wUp
          by_cases q : j = d - 1
          · rw [if_pos q, if_pos q]
          · rw [if_neg q, if_neg q]; exact e2 j h1 (by omega)
        · rw [if_neg c3, if_neg c3]
          by_cases c4 : cd k = 18
          · rw [if_pos c4, if_pos c4]
            have := o3 (by omega) (Or.inr c4)
            refine ⟨rfl, fun j h1 h2 => ?_⟩
            dsimp only at h2 ⊢
            rw [e2 (d - 1) (by omega) (by omega)]
            unfold wUp
            by_cases q : j = d - 1
            · rw [if_pos q, if_pos q]
            · rw [if_neg q, if_neg q]; exact e2 j h1 (by omega)
          · rw [if_neg c4, if_neg c4]
            have := o4 (by omega) c3 c4
            refine ⟨rfl, fun j h1 h2 => ?_⟩
            dsimp only at h2 ⊢
            rw [e2 (d + -1 - 1) (by omega) (by omega), e2 (d + -1) (by omega) (by omega)]
            unfold wUp
            by_cases q : j = d + -1 - 1
            · rw [if_pos q, if_pos q]
            · rw [if_neg q, if_neg q]; exact e2 j h1 (by omega)
def wRow1 (g : Nat → Int → Int → Int) (row : Int) : Prop := wRow g row ∧ ∀ nm s0 : Int → Int, 1 ≤ (wEvS (wCd g row) nm s0 (g 113 0 row)).1
def wVl (g : Nat → Int → Int → Int) (row : Int) (nm : Int → Int) : Int := (wEvS (wCd g row) nm (fun _ => 0) (g 113 0 row)).2 0
/-- the same codes -/
def wCo (g g' : Nat → Int → Int → Int) : Prop := (∀ o j, g' 112 o j = g 112 o j) ∧ ∀ o j, g' 113 o j = g 113 o j
theorem wCd_co {g g' : Nat → Int → Int → Int} (h : wCo g g') (row : Int) : wCd g' row = wCd g row := by
  funext k
  exact h.1 _ _
theorem wRow_co {g g' : Nat → Int → Int → Int} (h : wCo g g') {row : Int} (hr : wRow g row) : wRow g' row := by
  unfold wRow at *
  rw [wCd_co h, h.2]
  exact hr
theorem wRow1_co {g g' : Nat → Int → Int → Int} (h : wCo g g') {row : Int} (hr : wRow1 g row) : wRow1 g' row := by
  refine ⟨wRow_co h hr.1, ?_⟩
  rw [wCd_co h, h.2]
  exact hr.2
theorem wVl_co {g g' : Nat → Int → Int → Int} (h : wCo g g') {row : Int} {nm : Int → Int} : wVl g' row nm = wVl g row nm := by
  unfold wVl
  rw [wCd_co h, h.2]
theorem wVal_nm {g : Nat → Int → Int → Int} {row : Int} {nm : Int → Int} (hr : wRow1 g row) (hn : ∀ i, 0 ≤ i → i < 6 → g 128 0 i = nm i) : wVal g row = wVl g row nm := by
  have hm := hr.1.1
  have h := wEv_ag (s' := fun _ => 0) (nm' := nm) hn (fun k h1 h2 => hr.1.2 (g 128 0) (g 127 0) k h1 h2) (g 113 0 row).toNat (by omega)
  rw [show (((g 113 0 row).toNat : Nat) : Int) = g 113 0 row by omega] at h
  exact h.2 0 (by omega) (by have := hr.2 (g 128 0) (g 127 0); omega)
/-- the names of an ant -/
def wNm (g : Nat → Int → Int → Int) (a : Int) : Int → Int := fun i => if i = 0 then g 131 0 a else if i = 1 then g 129 0 a else if i = 2 then g 130 0 a else if i = 3 then g 50 0 39 else if i = 4 then wOth (g 129 0) (g 50 0 2) a else a
theorem wName_nm {g : Nat → Int → Int → Int} {a i : Int} (h1 : 0 ≤ i) (h2 : i < 6) : wName g a 128 0 i = wNm g a i := by
  have e : i = 0 ∨ i = 1 ∨ i = 2 ∨ i = 3 ∨ i = 4 ∨ i = 5 := by omega
  rcases e with rfl | rfl | rfl | rfl | rfl | rfl <;> simp [wName, wNm, ax_u3]
theorem wName_o {g : Nat → Int → Int → Int} {a o j : Int} {f : Nat} (h : f ≠ 128) : wName g a f o j = g f o j := by
  simp [wName, ax_u3, h]
theorem wWor_o {g : Nat → Int → Int → Int} {row o j : Int} {f : Nat} (h : f ≠ 127) : wWor g row f o j = g f o j := by
  simp [wWor, wStk, h]
/-- what a part of the rule comes to, of an ant -/
def wEvA (g : Nat → Int → Int → Int) (p a : Int) : Int := wVl g (3 * g 50 0 11 + p) (wNm g a)
/-- alike but for the reference's stack and names -/
def wAgr (g' g : Nat → Int → Int → Int) : Prop := ∀ (f : Nat) (o j : Int), f ≠ 127 → f ≠ 128 → g' f o j = g f o j
theorem wEv_1 {g g' : Nat → Int → Int → Int} {p a : Int} (hg : ∀ f o j, f ≠ 127 → f ≠ 128 → f ≠ 134 → f ≠ 137 → f ≠ 138 → g' f o j = g f o j) (hr : wRow1 g (3 * g 50 0 11 + p)) : wVal (wName g' a) (3 * wName g' a 50 0 11 + p) = wEvA g p a := by
  have hco : wCo g (wName g' a) := ⟨fun o j => by rw [wName_o (by decide)]; exact hg _ _ _ (by decide) (by decide) (by decide) (by decide) (by decide), fun o j => by rw [wName_o (by decide)]; exact hg _ _ _ (by decide) (by decide) (by decide) (by decide) (by decide)⟩
  have e : ∀ f o j, f ≠ 127 → f ≠ 128 → f ≠ 134 → f ≠ 137 → f ≠ 138 → wName g' a f o j = g f o j := fun f o j h1 h2 h3 h4 h5 => by rw [wName_o h2]; exact hg f o j h1 h2 h3 h4 h5
  rw [e 50 0 11 (by decide) (by decide) (by decide) (by decide) (by decide), wVal_nm (nm := wNm g a) (wRow1_co hco hr) ?_, wVl_co hco]
  · rfl
  · intro i h1 h2
    rw [wName_nm h1 h2]
    have q : ∀ f, f ≠ 127 → f ≠ 128 → f ≠ 134 → f ≠ 137 → f ≠ 138 → g' f 0 = g f 0 := fun f z1 z2 z3 z4 z5 => funext fun j => hg f 0 j z1 z2 z3 z4 z5
    unfold wNm
    rw [q 131 (by decide) (by decide) (by decide) (by decide) (by decide), q 129 (by decide) (by decide) (by decide) (by decide) (by decide), q 130 (by decide) (by decide) (by decide) (by decide) (by decide), q 50 (by decide) (by decide) (by decide) (by decide) (by decide)]
theorem wEv_2 {g g' : Nat → Int → Int → Int} {p a row2 : Int} (hg : ∀ f o j, f ≠ 127 → f ≠ 128 → f ≠ 134 → f ≠ 137 → f ≠ 138 → g' f o j = g f o j) (hr : wRow1 g (3 * g 50 0 11 + p)) : wVal (wWor (wName g' a) row2) (3 * wWor (wName g' a) row2 50 0 11 + p) = wEvA g p a := by
  have e : ∀ f o j, f ≠ 127 → wWor (wName g' a) row2 f o j = wName g' a f o j := fun f o j h => wWor_o h
  have hco : wCo (wName g' a) (wWor (wName g' a) row2) := ⟨fun o j => e _ _ _ (by decide), fun o j => e _ _ _ (by decide)⟩
  have h1 := wEv_1 (a := a) hg hr
  rw [e 50 0 11 (by decide)]
  have hrow : wRow1 (wName g' a) (3 * wName g' a 50 0 11 + p) := by
    have hco2 : wCo g (wName g' a) := ⟨fun o j => by rw [wName_o (by decide)]; exact hg _ _ _ (by decide) (by decide) (by decide) (by decide) (by decide), fun o j => by rw [wName_o (by decide)]; exact hg _ _ _ (by decide) (by decide) (by decide) (by decide) (by decide)⟩
    rw [show wName g' a 50 0 11 = g 50 0 11 by rw [wName_o (by decide)]; exact hg _ _ _ (by decide) (by decide) (by decide) (by decide) (by decide)]
    exact wRow1_co hco2 hr
  rw [wVal_nm (nm := fun i => wName g' a 128 0 i) hrow (fun _ _ _ => rfl)] at h1
  rw [wVal_nm (nm := fun i => wName g' a 128 0 i) (wRow1_co hco hrow) (fun i _ _ => e _ _ _ (by decide)), wVl_co hco]
  exact h1
