theorem tmod_u {x m : Int} (h1 : 0 ≤ x) (h2 : x < m) : Int.tmod (x + 1 + m) m = if x = m - 1 then 0 else x + 1 := by
  rw [Int.tmod_eq_emod_of_nonneg (by omega)]
  by_cases q : x = m - 1
  · rw [if_pos q, show x + 1 + m = m * 2 by omega, Int.mul_emod_right]
  · rw [if_neg q, Int.add_emod_right, Int.emod_eq_of_lt (by omega) (by omega)]
theorem tmod_d {x m : Int} (h1 : 0 ≤ x) (h2 : x < m) : Int.tmod (x + -1 + m) m = if x = 0 then m - 1 else x - 1 := by
  rw [Int.tmod_eq_emod_of_nonneg (by omega)]
  by_cases q : x = 0
  · rw [if_pos q, Int.emod_eq_of_lt (by omega) (by omega)]
    omega
  · rw [if_neg q, Int.add_emod_right, Int.emod_eq_of_lt (by omega) (by omega)]
    omega
/-- an ant's next place, on a ring or not -/
theorem wStp_v {x fa ring kn : Int} (h1 : 0 ≤ x) (h2 : ring = 1 → x < 2 * kn) : wStp x fa ring kn = if fa = 1 then (if ring = 1 ∧ x = 0 then 2 * kn - 1 else x - 1) else (if ring = 1 ∧ x = 2 * kn - 1 then 0 else x + 1) := by
  unfold wStp
  by_cases q : ring = 1
  · rw [if_pos q]
    by_cases z : fa = 1
    · rw [if_pos z, if_pos z, tmod_d h1 (h2 q)]
      by_cases y : x = 0
      · rw [if_pos y, if_pos ⟨q, y⟩]
      · rw [if_neg y, if_neg (fun w => y w.2)]
    · rw [if_neg z, if_neg z, tmod_u h1 (h2 q)]
      by_cases y : x = 2 * kn - 1
      · rw [if_pos y, if_pos ⟨q, y⟩]
      · rw [if_neg y, if_neg (fun w => y w.2)]
  · rw [if_neg q]
    by_cases z : fa = 1
    · rw [if_pos z, if_pos z, if_neg (fun w => q w.1)]
      omega
    · rw [if_neg z, if_neg z, if_neg (fun w => q w.1)]
/-- what stands between calls: the plank, its ants, the texts -/
def wOs (g : Nat → Int → Int → Int) : Prop := (2 ≤ g 50 0 0 ∧ g 50 0 0 ≤ 40) ∧ (g 50 0 1 = 0 ∨ g 50 0 1 = 1) ∧ (0 ≤ g 50 0 2 ∧ g 50 0 2 ≤ 7) ∧ (1 ≤ g 50 0 10 ∧ g 50 0 10 ≤ 6) ∧ (0 ≤ g 50 0 11 ∧ g 50 0 11 < g 50 0 10) ∧ (∀ t p, 0 ≤ t → t < g 50 0 10 → 0 ≤ p → p ≤ 2 → wRow1 g (3 * t + p)) ∧ ∀ a, 0 ≤ a → a < g 50 0 2 → (0 ≤ g 103 0 a ∧ g 103 0 a ≤ 5) ∧ (1 ≤ g 104 0 a ∧ g 104 0 a ≤ g 50 0 0 - 1) ∧ (g 105 0 a = 0 ∨ g 105 0 a = 1) ∧ (0 ≤ g 106 0 a ∧ g 106 0 a ≤ 20) ∧ (0 ≤ g 107 0 a ∧ g 107 0 a ≤ 9)
/-- what stands behind each beat -/
def wOd (g : Nat → Int → Int → Int) : Prop := -1 ≤ g 50 0 39 ∧ ∀ a, 0 ≤ a → a < g 50 0 2 → (g 130 0 a = 0 ∨ g 130 0 a = 1) ∧ (-1 ≤ g 129 0 a ∧ g 129 0 a ≤ 2 * g 50 0 0 - g 50 0 1) ∧ (g 50 0 1 = 0 → ¬ (g 129 0 a = 0 ∧ g 130 0 a = 1) ∧ ¬ (g 129 0 a = 2 * g 50 0 0 ∧ g 130 0 a = 0))
theorem wCo_e {g g' : Nat → Int → Int → Int} (h : wEq g' g) : wCo g g' := ⟨fun o j => by rw [h 112 rfl], fun o j => by rw [h 113 rfl]⟩
theorem wOs_e {g g' : Nat → Int → Int → Int} (h : wEq g' g) (hs : wOs g) : wOs g' := by
  unfold wOs at *
  simp only [h 50 rfl, h 103 rfl, h 104 rfl, h 105 rfl, h 106 rfl, h 107 rfl]
  exact ⟨hs.1, hs.2.1, hs.2.2.1, hs.2.2.2.1, hs.2.2.2.2.1, fun t p h1 h2 h3 h4 => wRow1_co (wCo_e h) (hs.2.2.2.2.2.1 t p h1 h2 h3 h4), hs.2.2.2.2.2.2⟩
theorem wOd_e {g g' : Nat → Int → Int → Int} (h : wEq g' g) (hs : wOd g) : wOd g' := by
  unfold wOd at *
  simp only [h 50 rfl, h 129 rfl, h 130 rfl]
  exact hs
/-- the same but for what a walk writes -/
def wSs (g' g : Nat → Int → Int → Int) : Prop := (∀ f, f ≠ 50 → (f < 127 ∨ 142 < f) → g' f = g f) ∧ ∀ o j, (j < 39 ∨ 42 < j) → g' 50 o j = g 50 o j
theorem wOs_s {g g' : Nat → Int → Int → Int} (h : wSs g' g) (hs : wOs g) : wOs g' := by
  unfold wOs at *
  have h1 := fun f a b => h.1 f a b
  rw [h.2 0 0 (by omega), h.2 0 1 (by omega), h.2 0 2 (by omega), h.2 0 10 (by omega), h.2 0 11 (by omega)]
  simp only [h1 103 (by decide) (by omega), h1 104 (by decide) (by omega), h1 105 (by decide) (by omega), h1 106 (by decide) (by omega), h1 107 (by decide) (by omega)]
  exact ⟨hs.1, hs.2.1, hs.2.2.1, hs.2.2.2.1, hs.2.2.2.2.1, fun t p z1 z2 z3 z4 => wRow1_co ⟨fun o j => by rw [h1 112 (by decide) (by omega)], fun o j => by rw [h1 113 (by decide) (by omega)]⟩ (hs.2.2.2.2.2.1 t p z1 z2 z3 z4), hs.2.2.2.2.2.2⟩
theorem wSs.rf {g : Nat → Int → Int → Int} : wSs g g := ⟨fun _ _ _ => rfl, fun _ _ _ => rfl⟩
theorem wSs.tr {a b c : Nat → Int → Int → Int} (h : wSs a b) (h' : wSs b c) : wSs a c := ⟨fun f x y => (h.1 f x y).trans (h'.1 f x y), fun o j x => (h.2 o j x).trans (h'.2 o j x)⟩
theorem st1_ss {g : Nat → Int → Int → Int} : wSs (wSt1 g) g := ⟨fun f h1 h2 => funext fun o => funext fun j => st1_o (by omega) (fun q => absurd q h1), fun o j h => st1_o (by decide) (fun _ => by omega)⟩
theorem mt_ss {g : Nat → Int → Int → Int} : wSs (wMeet g) g := ⟨fun f h1 h2 => funext fun o => funext fun j => mt_o (by omega) (fun q => absurd q h1), fun o j h => mt_o (by decide) (fun _ => by omega)⟩
theorem en_ss {g : Nat → Int → Int → Int} : wSs (wEnds g) g := ⟨fun f h1 h2 => funext fun o => funext fun j => en_o (by simp [wE2C]; omega) (by omega) (by omega), fun o j h => en_o rfl (by decide) (by decide)⟩
theorem step_ss {g : Nat → Int → Int → Int} : wSs (wStep g) g := wSs.tr en_ss (wSs.tr mt_ss st1_ss)
theorem beg_ss {g : Nat → Int → Int → Int} {ways : Int} : wSs (wBegin g ways) g := by
  unfold wBegin
  refine ⟨fun f h1 h2 => funext fun o => funext fun j => ?_, fun o j h => ?_⟩
  · rw [ax_u3_f h1, ax_u3_f h1, ax_u3_f h1, ax_u3_f h1]
    unfold wBeg
    rw [if_neg (by omega)]
  · rw [ax_u3_n (by omega), ax_u3_n (by omega), ax_u3_n (by omega), ax_u3_n (by omega)]
    unfold wBeg
    rw [if_neg (by omega)]
theorem it_ss {g : Nat → Int → Int → Int} : ∀ k, wSs (wIt g k) g
  | 0 => wSs.rf
  | k + 1 => wSs.tr step_ss (it_ss k)
theorem st1_sz {g : Nat → Int → Int → Int} : wSt1 g 50 0 2 = g 50 0 2 := st1_o (by decide) (fun _ => by decide)
theorem mt_sz {g : Nat → Int → Int → Int} : wMeet g 50 0 2 = g 50 0 2 := mt_o (by decide) (fun _ => by decide)
/-- where an ant is behind its step: its bounds -/
theorem nW_in {g : Nat → Int → Int → Int} (hs : wOs g) (hd : wOd g) {a : Int} (h1 : 0 ≤ a) (h2 : a < g 50 0 2) : -1 ≤ nW g a ∧ nW g a ≤ 2 * g 50 0 0 - g 50 0 1 := by
  obtain ⟨d1, d2, d3⟩ := hd.2 a h1 h2
  have s1 := (hs.2.2.2.2.2.2 a h1 h2).2.1
  have k1 := hs.1
  have k2 := hs.2.1
  unfold nW
  split
  · omega
  · split
    · omega
    · rw [wStp_v (by omega) (by omega)]
      repeat' split
      all_goals omega
theorem wAE_v {g : Nat → Int → Int → Int} {a : Int} : wAE g a ≠ 0 ↔ g 50 0 1 = 0 ∧ ((g 129 0 a = 0 ∧ g 130 0 a = 1) ∨ (g 129 0 a = 2 * g 50 0 0 ∧ g 130 0 a = 0)) := by
  unfold wAE
  constructor
  · exact bI_n0
  · intro h
    rw [bI_t h]
    decide
theorem wWb_01 {g : Nat → Int → Int → Int} {a : Int} : wWb g a = 0 ∨ wWb g a = 1 := by
  unfold wWb
  split <;> simp
theorem mt_130b {g : Nat → Int → Int → Int} {a : Int} (h1 : 0 ≤ a) (h2 : a < g 50 0 2) (hf : g 130 0 a = 0 ∨ g 130 0 a = 1) : wMeet g 130 0 a = 0 ∨ wMeet g 130 0 a = 1 := by
  rw [mt_130 h1 h2]
  split <;> omega
theorem st1_130 {g : Nat → Int → Int → Int} {a : Int} : wSt1 g 130 0 a = g 130 0 a := st1_o (by decide) (fun q => absurd q (by decide))
theorem step_od {g : Nat → Int → Int → Int} (hs : wOs g) (hd : wOd g) : wOd (wStep g) ∧ wStep g 50 0 39 = g 50 0 39 + 1 := by
  have eb : wStep g 50 0 39 = g 50 0 39 + 1 := by
    unfold wStep
    rw [en_o rfl (by decide) (by decide), mt_o (by decide) (fun _ => by decide), st1_b]
  refine ⟨⟨by rw [eb]; have := hd.1; omega, fun a h1 h2 => ?_⟩, eb⟩
  have e2 : wStep g 50 0 2 = g 50 0 2 := step_ss.2 _ _ (by omega)
  have e0 : wStep g 50 0 0 = g 50 0 0 := step_ss.2 _ _ (by omega)
  have e1 : wStep g 50 0 1 = g 50 0 1 := step_ss.2 _ _ (by omega)
  rw [e2] at h2
  rw [e0, e1]
  have hW := nW_in hs hd h1 h2
  have hf := (hd.2 a h1 h2).1
  have x1 : a < wSt1 g 50 0 2 := by rw [st1_sz]; exact h2
  have x2 : a < wMeet (wSt1 g) 50 0 2 := by rw [mt_sz]; exact x1
  have y129 : wMeet (wSt1 g) 129 0 a = nW g a := by rw [mt_o (by decide) (fun q => absurd q (by decide)), st1_129 h1 h2]
  have y130 := mt_130b h1 x1 (by rw [st1_130]; exact hf)
  have y0 : wMeet (wSt1 g) 50 0 0 = g 50 0 0 := by rw [mt_o (by decide) (fun _ => by decide), st1_o (by decide) (fun _ => by decide)]
  have y1 : wMeet (wSt1 g) 50 0 1 = g 50 0 1 := by rw [mt_o (by decide) (fun _ => by decide), st1_o (by decide) (fun _ => by decide)]
  have hA := wAE_v (g := wMeet (wSt1 g)) (a := a)
  rw [y129, y0, y1] at hA
  have z129 := en_V (g := wMeet (wSt1 g)) (f := 129) rfl h1 x2
  have z130 := en_V (g := wMeet (wSt1 g)) (f := 130) rfl h1 x2
  rw [y129] at z129
  have kk := hs.1
  have kr := hs.2.1
  change wStep g 129 0 a = _ at z129
  change wStep g 130 0 a = _ at z130
  generalize wMeet (wSt1 g) 130 0 a = fa at *
  generalize nW g a = w at *
  rw [z129, z130]
  by_cases q : wAE (wMeet (wSt1 g)) a ≠ 0
  · have q' := hA.mp q
    rw [if_pos q, if_pos q]
    by_cases q2 : wWb (wMeet (wSt1 g)) a ≠ 0
    · rw [if_pos q2, if_pos q2]
      simp
      omega
    · rw [if_neg q2, if_neg q2]
      simp
      omega
  · have q' := fun z => q (hA.mpr z)
    rw [if_neg q, if_neg q]
    omega
theorem and1 {x : Int} : ax_and x 1 = 0 ∨ ax_and x 1 = 1 := by
  unfold ax_and
  generalize Int32.ofInt x = y
  have h : y &&& 1 = 0 ∨ y &&& 1 = 1 := by
    by_cases h : y.toBitVec.getLsbD 0 = true
    · right
      apply Int32.toBitVec_inj.mp
      rw [Int32.toBitVec_and]
      apply BitVec.eq_of_getLsbD_eq
      intro i hi
      rcases i with _ | i
      · simpa using h
      · simp
    · left
      apply Int32.toBitVec_inj.mp
      rw [Int32.toBitVec_and]
      apply BitVec.eq_of_getLsbD_eq
      intro i hi
      rcases i with _ | i
      · simpa using h
      · simp
  rcases h with h | h
  · left; rw [show Int32.ofInt 1 = 1 from rfl, h]; rfl
  · right; rw [show Int32.ofInt 1 = 1 from rfl, h]; rfl
theorem beg_r {g : Nat → Int → Int → Int} {ways a : Int} {f : Nat} (hf : 129 ≤ f ∧ f ≤ 136) (h1 : 0 ≤ a) (h2 : a < g 50 0 2) : wBegin g ways f 0 a = wBegA ways f a := by
  unfold wBegin
  rw [ax_u3_f (by omega), ax_u3_f (by omega), ax_u3_f (by omega), ax_u3_f (by omega)]
  unfold wBeg
  rw [if_pos ⟨hf, rfl, h1, h2⟩]
theorem beg_b {g : Nat → Int → Int → Int} {ways : Int} : wBegin g ways 50 0 39 = -1 := by
  unfold wBegin
  rw [ax_u3_n (by omega), ax_u3_n (by omega), ax_u3_n (by omega), ax_u3_s]
theorem beg_od {g : Nat → Int → Int → Int} (hs : wOs g) {ways : Int} : wOd (wBegin g ways) := by
  refine ⟨by rw [beg_b]; decide, fun a h1 h2 => ?_⟩
  have e2 : wBegin g ways 50 0 2 = g 50 0 2 := beg_ss.2 _ _ (by omega)
  have e0 : wBegin g ways 50 0 0 = g 50 0 0 := beg_ss.2 _ _ (by omega)
  have e1 : wBegin g ways 50 0 1 = g 50 0 1 := beg_ss.2 _ _ (by omega)
  rw [e2] at h2
  rw [e0, e1, beg_r (by omega) h1 h2, beg_r (by omega) h1 h2]
  have := hs.1
  have := hs.2.1
  have ha := and1 (x := ax_shr ways a)
  simp [wBegA]
  omega
theorem it_ok {g : Nat → Int → Int → Int} (hs : wOs g) (hd : wOd g) : ∀ k, wOs (wIt g k) ∧ wOd (wIt g k) ∧ wIt g k 50 0 39 = g 50 0 39 + k
  | 0 => ⟨hs, hd, by show g 50 0 39 = g 50 0 39 + ((0 : Nat) : Int); omega⟩
  | k + 1 => by
    obtain ⟨h1, h2, h3⟩ := it_ok hs hd k
    have := step_od h1 h2
    exact ⟨wOs_s step_ss h1, this.1, by show wStep (wIt g k) 50 0 39 = _; rw [this.2, h3]; omega⟩
