/-! ===== the reference's walk, as a function of memories: agreement, and what is read behind a beat ===== -/
def wRf (f : Nat) : Bool := f == 50 || (Nat.blt 99 f && (Nat.blt f 200 && !(f == 127 || f == 128)))
def wEq (g' g : Nat → Int → Int → Int) : Prop := ∀ f, wRf f = true → g' f = g f
theorem wEq.rf {g : Nat → Int → Int → Int} : wEq g g := fun _ _ => rfl
theorem wEq.tr {g1 g2 g3 : Nat → Int → Int → Int} (h : wEq g1 g2) (h' : wEq g2 g3) : wEq g1 g3 := fun f hf => (h f hf).trans (h' f hf)
theorem wEq.sy {g1 g2 : Nat → Int → Int → Int} (h : wEq g1 g2) : wEq g2 g1 := fun f hf => (h f hf).symm
theorem wRf_n {f : Nat} (h : wRf f = true) : f ≠ 127 ∧ f ≠ 128 := by
  refine ⟨?_, ?_⟩ <;> (rintro rfl; exact absurd h (by decide))
theorem wEq_agr {g' g : Nat → Int → Int → Int} (h : wAgr g' g) : wEq g' g := fun f hf => funext fun o => funext fun j => h f o j (wRf_n hf).1 (wRf_n hf).2
theorem wEq_u {g' g : Nat → Int → Int → Int} {f : Nat} {o j x y : Int} (h : wEq g' g) (e : x = y) : wEq (ax_u3 g' f o j x) (ax_u3 g f o j y) := fun F hF => by
  funext o' j'
  unfold ax_u3
  rw [h F hF, e]
theorem wEq_uo {g : Nat → Int → Int → Int} {f : Nat} {o j x : Int} (hf : wRf f = false) : wEq (ax_u3 g f o j x) g := fun F hF => by
  funext o' j'
  exact ax_u3_f (fun q => by rw [q, hf] at hF; cases hF)
theorem wGoA_e {g' g : Nat → Int → Int → Int} {a : Int} (h : wEq g' g) : wGoA g' a = wGoA g a := by
  unfold wGoA
  simp only [h 50 rfl, h 129 rfl, h 130 rfl, h 106 rfl, h 104 rfl]
theorem wEq_go {g' g : Nat → Int → Int → Int} {m m' : Int} (h : wEq g' g) (e : m' = m) : wEq (wGo g' m') (wGo g m) := fun F hF => by
  funext o j
  unfold wGo
  rw [wGoA_e h, h F hF, e]
theorem wMt_e {g' g : Nat → Int → Int → Int} {a k : Int} (h : wEq g' g) : wMt g' a k = wMt g a k := by
  unfold wMt
  simp only [h 129 rfl, h 130 rfl]
theorem wNx_e {g' g : Nat → Int → Int → Int} {a k x : Int} (h : wEq g' g) : wNx g' a k x = wNx g a k x := by
  unfold wNx
  simp only [h 129 rfl, h 130 rfl, h 50 rfl, wMt_e h]
theorem wPr_e {g' g : Nat → Int → Int → Int} {a k x : Int} (h : wEq g' g) : wPr g' a k x = wPr g a k x := by
  unfold wPr
  simp only [h 129 rfl, h 130 rfl]
theorem wNxO_e {g' g : Nat → Int → Int → Int} {k : Int} (h : wEq g' g) : wNxO g' k = wNxO g k := by
  unfold wNxO
  simp only [h 50 rfl, wNx_e h]
theorem wPrO_e {g' g : Nat → Int → Int → Int} {k : Int} (h : wEq g' g) : wPrO g' k = wPrO g k := by
  unfold wPrO
  simp only [h 50 rfl, wPr_e h]
theorem wAny_e {g' g : Nat → Int → Int → Int} {k : Int} (h : wEq g' g) : wAny g' k = wAny g k := by
  unfold wAny
  simp only [h 50 rfl, wMt_e h]
theorem wEvA_e {g' g : Nat → Int → Int → Int} {p a : Int} (h : wEq g' g) : wEvA g' p a = wEvA g p a := by
  unfold wEvA wVl wCd wNm
  simp only [h 50 rfl, h 129 rfl, h 130 rfl, h 131 rfl, h 112 rfl, h 113 rfl]
theorem wEq_mf {g' g : Nat → Int → Int → Int} {m : Int} (h : wEq g' g) : wEq (wMf g' m) (wMf g m) := fun F hF => by
  funext o j
  unfold wMf
  rw [h F hF, h 50 rfl]
  simp only [wMt_e h]
theorem wEq_mG {g' g : Nat → Int → Int → Int} (h : wEq g' g) : wEq (wMeetG g') (wMeetG g) := by
  unfold wMeetG
  rw [h 50 rfl]
  exact wEq_u (wEq_u (wEq_mf h) (wPrO_e h)) (wNxO_e h)
theorem wHea_e {g' g : Nat → Int → Int → Int} {j : Int} (h : wEq g' g) : wHea g' j = wHea g j := by
  unfold wHea
  rw [h 134 rfl, wEvA_e h]
theorem wWil_e {g' g : Nat → Int → Int → Int} {j : Int} (h : wEq g' g) : wWil g' j = wWil g j := by
  unfold wWil
  rw [h 50 rfl, h 103 rfl, h 131 rfl, h 107 rfl, wEvA_e h]
theorem wEq_m3 {g' g : Nat → Int → Int → Int} {m : Int} (h : wEq g' g) : wEq (wM3 g' m) (wM3 g m) := fun F hF => by
  funext o j
  unfold wM3
  rw [h F hF, h 137 rfl, wHea_e h, wWil_e h]
theorem wEq_m4 {g' g : Nat → Int → Int → Int} {m : Int} (h : wEq g' g) : wEq (wM4 g' m) (wM4 g m) := fun F hF => by
  funext o j
  unfold wM4
  rw [h F hF, h 137 rfl, h 138 rfl, h 130 rfl, h 131 rfl, h 132 rfl]
theorem wEq_meet {g' g : Nat → Int → Int → Int} (h : wEq g' g) : wEq (wMeet g') (wMeet g) := by
  unfold wMeet
  rw [h 50 rfl]
  exact wEq_m4 (wEq_m3 (wEq_mG h))
theorem wAE_e {g' g : Nat → Int → Int → Int} {j : Int} (h : wEq g' g) : wAE g' j = wAE g j := by
  unfold wAE
  rw [h 50 rfl, h 129 rfl, h 130 rfl]
theorem wWb_e {g' g : Nat → Int → Int → Int} {j : Int} (h : wEq g' g) : wWb g' j = wWb g j := by
  unfold wWb
  rw [h 133 rfl, h 103 rfl, h 107 rfl, wEvA_e h]
theorem wEq_e1 {g' g : Nat → Int → Int → Int} {m : Int} (h : wEq g' g) : wEq (wE1 g' m) (wE1 g m) := fun F hF => by
  funext o j
  unfold wE1
  rw [h F hF, wAE_e h, wWb_e h]
theorem wEq_e2 {g' g : Nat → Int → Int → Int} {m : Int} (h : wEq g' g) : wEq (wE2 g' m) (wE2 g m) := fun F hF => by
  funext o j
  unfold wE2 ptw wE2V
  rw [h F hF, h 137 rfl, h 138 rfl, h 130 rfl, h 132 rfl, h 133 rfl, h 50 rfl, h 129 rfl]
theorem wEq_ends {g' g : Nat → Int → Int → Int} (h : wEq g' g) : wEq (wEnds g') (wEnds g) := by
  unfold wEnds
  rw [h 50 rfl]
  exact wEq_e2 (wEq_e1 h)
def wSt1 (g : Nat → Int → Int → Int) : Nat → Int → Int → Int := wGo (ax_u3 g 50 0 39 (g 50 0 39 + 1)) (g 50 0 2)
def wStep (g : Nat → Int → Int → Int) : Nat → Int → Int → Int := wEnds (wMeet (wSt1 g))
theorem wEq_st1 {g' g : Nat → Int → Int → Int} (h : wEq g' g) : wEq (wSt1 g') (wSt1 g) := by
  unfold wSt1
  exact wEq_go (wEq_u h (by rw [h 50 rfl])) (by rw [h 50 rfl])
theorem wEq_step {g' g : Nat → Int → Int → Int} (h : wEq g' g) : wEq (wStep g') (wStep g) := wEq_ends (wEq_meet (wEq_st1 h))
theorem wEq_beg {g' g : Nat → Int → Int → Int} {ways : Int} (h : wEq g' g) : wEq (wBegin g' ways) (wBegin g ways) := by
  unfold wBegin
  refine wEq_u (wEq_u (wEq_u (wEq_u (fun F hF => ?_) rfl) rfl) rfl) rfl
  funext o j
  unfold wBeg
  rw [h F hF, h 50 rfl]
def wIt (g : Nat → Int → Int → Int) : Nat → Nat → Int → Int → Int
  | 0 => g
  | k + 1 => wStep (wIt g k)
theorem wEq_it {g' g : Nat → Int → Int → Int} (h : wEq g' g) : ∀ k, wEq (wIt g' k) (wIt g k)
  | 0 => h
  | k + 1 => wEq_step (wEq_it h k)
/-! what is read behind a part of a beat -/
theorem ru_50 {g : Nat → Int → Int → Int} {f : Nat} {o j k x : Int} (h : f ≠ 50 ∨ j ≠ k) : ax_u3 g 50 0 k x f o j = g f o j := ax_u3_n (by omega)
theorem st1_o {g : Nat → Int → Int → Int} {f : Nat} {o j : Int} (h1 : f ≠ 129) (h2 : f = 50 → j ≠ 39) : wSt1 g f o j = g f o j := by
  unfold wSt1 wGo
  rw [if_neg (fun q => h1 q.1)]
  exact ax_u3_n (fun q => h2 q.1 q.2.2)
theorem st1_b {g : Nat → Int → Int → Int} : wSt1 g 50 0 39 = g 50 0 39 + 1 := by
  unfold wSt1 wGo
  rw [if_neg (by omega)]
  exact ax_u3_s
/-- where an ant is behind its step -/
def nW (g : Nat → Int → Int → Int) (a : Int) : Int := if g 50 0 39 + 1 = 2 * g 106 0 a then 2 * g 104 0 a else if g 129 0 a < 0 then g 129 0 a else wStp (g 129 0 a) (g 130 0 a) (g 50 0 1) (g 50 0 0)
theorem st1_129 {g : Nat → Int → Int → Int} {a : Int} (h1 : 0 ≤ a) (h2 : a < g 50 0 2) : wSt1 g 129 0 a = nW g a := by
  unfold wSt1 wGo
  rw [if_pos ⟨rfl, rfl, h1, h2⟩]
  unfold wGoA nW
  simp [ax_u3]
theorem mG_o {g : Nat → Int → Int → Int} {f : Nat} {o j : Int} (h1 : f ≠ 137) (h2 : f = 50 → j ≠ 40 ∧ j ≠ 41) : wMeetG g f o j = g f o j := wMeetG_o h1 h2
theorem mG_137 {g : Nat → Int → Int → Int} {a : Int} (h1 : 0 ≤ a) (h2 : a < g 50 0 2) : wMeetG g 137 0 a = wMt g a (g 50 0 2) := by
  unfold wMeetG
  rw [ax_u3_f (by decide), ax_u3_f (by decide)]
  unfold wMf
  rw [if_pos ⟨rfl, rfl, h1, h2⟩]
theorem mG_ev {g : Nat → Int → Int → Int} {p a : Int} : wEvA (wMeetG g) p a = wEvA g p a := by
  have e : ∀ f, f ≠ 137 → f ≠ 50 → wMeetG g f = g f := fun f h1 h2 => funext fun o => funext fun j => mG_o h1 (fun q => absurd q h2)
  have e50 : ∀ j, j ≠ 40 → j ≠ 41 → wMeetG g 50 0 j = g 50 0 j := fun j h1 h2 => mG_o (by decide) (fun _ => ⟨h1, h2⟩)
  unfold wEvA wVl wCd wNm
  simp only [e 129 (by decide) (by decide), e 130 (by decide) (by decide), e 131 (by decide) (by decide), e 112 (by decide) (by decide), e 113 (by decide) (by decide), e50 11 (by decide) (by decide), e50 39 (by decide) (by decide), e50 2 (by decide) (by decide)]
theorem mG_wil {g : Nat → Int → Int → Int} {a : Int} : wWil (wMeetG g) a = wWil g a := by
  unfold wWil
  rw [mG_ev, mG_o (f := 50) (j := 42) (by decide) (fun _ => by decide), mG_o (f := 103) (by decide) (fun q => absurd q (by decide)), mG_o (f := 131) (by decide) (fun q => absurd q (by decide)), mG_o (f := 107) (by decide) (fun q => absurd q (by decide))]
theorem mG_hea {g : Nat → Int → Int → Int} {a : Int} : wHea (wMeetG g) a = wHea g a := by
  unfold wHea
  rw [mG_ev, mG_o (f := 134) (by decide) (fun q => absurd q (by decide))]
theorem mt_o {g : Nat → Int → Int → Int} {f : Nat} {o j : Int} (h1 : f ≠ 130 ∧ f ≠ 131 ∧ f ≠ 132 ∧ f ≠ 134 ∧ f ≠ 137 ∧ f ≠ 138) (h2 : f = 50 → j ≠ 40 ∧ j ≠ 41) : wMeet g f o j = g f o j := by
  unfold wMeet
  rw [wM4_f h1.1 h1.2.1 h1.2.2.1, wM3_o h1.2.2.2.1 h1.2.2.2.2.2, wMeetG_o h1.2.2.2.2.1 h2]
theorem mt_40 {g : Nat → Int → Int → Int} : wMeet g 50 0 40 = wPrO g (g 50 0 2) := by
  unfold wMeet
  rw [wM4_f (by decide) (by decide) (by decide), wM3_o (by decide) (by decide)]
  unfold wMeetG
  rw [ax_u3_n (by omega), ax_u3_s]
theorem mt_41 {g : Nat → Int → Int → Int} : wMeet g 50 0 41 = wNxO g (g 50 0 2) := by
  unfold wMeet
  rw [wM4_f (by decide) (by decide) (by decide), wM3_o (by decide) (by decide)]
  unfold wMeetG
  rw [ax_u3_s]
/-- those that meet, and of them those that turn -/
def nM (g : Nat → Int → Int → Int) (a : Int) : Prop := wMt g a (g 50 0 2) ≠ 0
theorem mt_137 {g : Nat → Int → Int → Int} {a : Int} (h1 : 0 ≤ a) (h2 : a < g 50 0 2) : wM3 (wMeetG g) (g 50 0 2) 137 0 a = wMt g a (g 50 0 2) := by
  rw [wM3_o (by decide) (by decide), mG_137 h1 h2]
theorem mt_138 {g : Nat → Int → Int → Int} {a : Int} (h1 : 0 ≤ a) (h2 : a < g 50 0 2) (h : wMt g a (g 50 0 2) ≠ 0) : wM3 (wMeetG g) (g 50 0 2) 138 0 a = wWil g a := by
  unfold wM3
  rw [if_neg (by omega), if_pos ⟨rfl, rfl, ⟨h1, h2⟩, by rw [mG_137 h1 h2]; exact h⟩, mG_wil]
theorem mt_ch {p : Prop} [Decidable p] {x y : Int} : (if p then x else y) = if p then x else y := rfl
theorem mt_130 {g : Nat → Int → Int → Int} {a : Int} (h1 : 0 ≤ a) (h2 : a < g 50 0 2) : wMeet g 130 0 a = if wMt g a (g 50 0 2) ≠ 0 ∧ wWil g a ≠ 0 then 1 - g 130 0 a else g 130 0 a := by
  unfold wMeet wM4
  rw [mt_137 h1 h2]
  have e : wM3 (wMeetG g) (g 50 0 2) 130 0 a = g 130 0 a := by rw [wM3_o (by decide) (by decide), wMeetG_o (by decide) (fun q => absurd q (by decide))]
  by_cases q : wMt g a (g 50 0 2) ≠ 0
  · rw [if_pos (c := _ ∧ _ ∧ _ ∧ _) ⟨rfl, rfl, ⟨h1, h2⟩, q⟩, mt_138 h1 h2 q, e]
    by_cases q2 : wWil g a ≠ 0
    · rw [if_pos q2, if_pos ⟨q, q2⟩]
    · rw [if_neg q2, if_neg (fun z => q2 z.2)]
  · rw [if_neg (fun z => q z.2.2.2), if_neg (fun z => absurd z.1 (by decide)), if_neg (fun z => absurd z.1 (by decide)), if_neg (fun z => q z.1), e]
theorem mt_131 {g : Nat → Int → Int → Int} {a : Int} (h1 : 0 ≤ a) (h2 : a < g 50 0 2) : wMeet g 131 0 a = if wMt g a (g 50 0 2) ≠ 0 then Int.bmod (g 131 0 a + 1) 4294967296 else g 131 0 a := by
  unfold wMeet wM4
  rw [mt_137 h1 h2]
  have e : wM3 (wMeetG g) (g 50 0 2) 131 0 a = g 131 0 a := by rw [wM3_o (by decide) (by decide), wMeetG_o (by decide) (fun q => absurd q (by decide))]
  rw [if_neg (fun z => absurd z.1 (by decide)), if_neg (fun z => absurd z.1 (by decide)), e]
  by_cases q : wMt g a (g 50 0 2) ≠ 0
  · rw [if_pos ⟨rfl, rfl, ⟨h1, h2⟩, q⟩, if_pos q]
  · rw [if_neg (fun z => q z.2.2.2), if_neg q]
theorem mt_132 {g : Nat → Int → Int → Int} {a : Int} (h1 : 0 ≤ a) (h2 : a < g 50 0 2) : wMeet g 132 0 a = if wMt g a (g 50 0 2) ≠ 0 then Int.bmod (g 132 0 a + bI (wWil g a ≠ 0)) 4294967296 else g 132 0 a := by
  unfold wMeet wM4
  rw [mt_137 h1 h2]
  have e : wM3 (wMeetG g) (g 50 0 2) 132 0 a = g 132 0 a := by rw [wM3_o (by decide) (by decide), wMeetG_o (by decide) (fun q => absurd q (by decide))]
  rw [if_neg (fun z => absurd z.1 (by decide)), e]
  by_cases q : wMt g a (g 50 0 2) ≠ 0
  · rw [if_pos ⟨rfl, rfl, ⟨h1, h2⟩, q⟩, if_pos q, mt_138 h1 h2 q]
  · rw [if_neg (fun z => q z.2.2.2), if_neg (fun z => absurd z.1 (by decide)), if_neg q]
theorem mt_134 {g : Nat → Int → Int → Int} {a : Int} (h1 : 0 ≤ a) (h2 : a < g 50 0 2) : wMeet g 134 0 a = if wMt g a (g 50 0 2) ≠ 0 then wHea g a else g 134 0 a := by
  unfold wMeet
  rw [wM4_f (by decide) (by decide) (by decide)]
  unfold wM3
  rw [mG_137 h1 h2, mG_hea, wMeetG_o (f := 134) (by decide) (fun q => absurd q (by decide))]
  by_cases q : wMt g a (g 50 0 2) ≠ 0
  · rw [if_pos ⟨rfl, rfl, ⟨h1, h2⟩, q⟩, if_pos q]
  · rw [if_neg (fun z => q z.2.2.2), if_neg (fun z => absurd z.1 (by decide)), if_neg q]
theorem en_o {g : Nat → Int → Int → Int} {f : Nat} {o j : Int} (h : wE2C f = false) (h1 : f ≠ 137) (h2 : f ≠ 138) : wEnds g f o j = g f o j := by
  unfold wEnds
  rw [wE2_f h, wE1_o h1 h2]
theorem en_V {g : Nat → Int → Int → Int} {a : Int} {f : Nat} (h : wE2C f = true) (h1 : 0 ≤ a) (h2 : a < g 50 0 2) : wEnds g f 0 a = if wAE g a ≠ 0 then (if wWb g a ≠ 0 then (if f = 130 then 1 - g 130 0 a else if f = 132 then Int.bmod (g 132 0 a + 1) 4294967296 else if f = 133 then Int.bmod (g 133 0 a + 1) 4294967296 else g f 0 a) else (if f = 135 then g 50 0 39 else if f = 136 then bI (g 129 0 a ≠ 0) else if f = 129 then -1 else g f 0 a)) else g f 0 a := by
  have e : ∀ F o j, F ≠ 137 → F ≠ 138 → wE1 g (g 50 0 2) F o j = g F o j := fun F o j z1 z2 => wE1_o z1 z2
  have e7 : wE1 g (g 50 0 2) 137 0 a = wAE g a := by unfold wE1; rw [if_pos ⟨rfl, rfl, h1, h2⟩]
  have hf : f ≠ 137 ∧ f ≠ 138 := by rcases wE2C_or h with rfl | rfl | rfl | rfl | rfl | rfl <;> decide
  unfold wEnds wE2
  rw [ptw_r h h1 h2]
  unfold wE2V
  rw [e7, e 130 0 a (by decide) (by decide), e 132 0 a (by decide) (by decide), e 133 0 a (by decide) (by decide), e 129 0 a (by decide) (by decide), e 50 0 39 (by decide) (by decide), e f 0 a hf.1 hf.2]
  by_cases q : wAE g a ≠ 0
  · have e8 : wE1 g (g 50 0 2) 138 0 a = wWb g a := by unfold wE1; rw [if_neg (by omega), if_pos ⟨rfl, rfl, ⟨h1, h2⟩, q⟩]
    rw [e8]
  · rw [if_neg q, if_neg q]
