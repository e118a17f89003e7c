/-! ===== what a walk rests on, and no more ===== -/
def wKw (g' g : Nat → Int → Int → Int) : Prop := ((∀ f, 102 < f → f < 108 → g' f = g f) ∧ ∀ j, 0 ≤ j → j ≤ 2 → g' 50 0 j = g 50 0 j) ∧ ∀ p nm, 0 ≤ p → p ≤ 2 → wVl g' (3 * g' 50 0 11 + p) nm = wVl g (3 * g 50 0 11 + p) nm
theorem wKw.rf {g : Nat → Int → Int → Int} : wKw g g := ⟨⟨fun _ _ _ => rfl, fun _ _ _ => rfl⟩, fun _ _ _ _ => rfl⟩
theorem wKw.tr {a b c : Nat → Int → Int → Int} (h : wKw a b) (h' : wKw b c) : wKw a c := ⟨⟨fun f x y => (h.1.1 f x y).trans (h'.1.1 f x y), fun j x y => (h.1.2 j x y).trans (h'.1.2 j x y)⟩, fun p nm x y => (h.2 p nm x y).trans (h'.2 p nm x y)⟩
theorem wKw.sy {a b : Nat → Int → Int → Int} (h : wKw a b) : wKw b a := ⟨⟨fun f x y => (h.1.1 f x y).symm, fun j x y => (h.1.2 j x y).symm⟩, fun p nm x y => (h.2 p nm x y).symm⟩
theorem wKw_s {a b : Nat → Int → Int → Int} (h : wSs a b) : wKw a b := ⟨⟨fun f x y => h.1 f (by omega) (by omega), fun j x y => h.2 0 j (by omega)⟩, fun p nm x y => by rw [wVl_s h, h.2 0 11 (by omega)]⟩
def wEw (g' g : Nat → Int → Int → Int) : Prop := wKw g' g ∧ (∀ j, 39 ≤ j → j ≤ 42 → g' 50 0 j = g 50 0 j) ∧ ∀ f a, 129 ≤ f → f ≤ 136 → 0 ≤ a → a < g 50 0 2 → g' f 0 a = g f 0 a
theorem wEw.sz {g' g : Nat → Int → Int → Int} (h : wEw g' g) : g' 50 0 2 = g 50 0 2 := h.1.1.2 2 (by decide) (by decide)
theorem wEw.v {g' g : Nat → Int → Int → Int} (h : wEw g' g) (j : Int) (hj : (0 ≤ j ∧ j ≤ 2) ∨ (39 ≤ j ∧ j ≤ 42)) : g' 50 0 j = g 50 0 j := by
  rcases hj with q | q
  · exact h.1.1.2 j q.1 q.2
  · exact h.2.1 j q.1 q.2
theorem nW_w {g' g : Nat → Int → Int → Int} (h : wEw g' g) {a : Int} (h1 : 0 ≤ a) (h2 : a < g 50 0 2) : nW g' a = nW g a := by
  have hd := fun f z1 z2 => h.2.2 f a z1 z2 h1 h2
  unfold nW
  rw [h.v 39 (by decide), h.1.1.1 106 (by decide) (by decide), h.1.1.1 104 (by decide) (by decide), hd 129 (by omega) (by omega), hd 130 (by omega) (by omega), h.v 1 (by decide), h.v 0 (by decide)]
theorem wEw_st1 {g' g : Nat → Int → Int → Int} (h : wEw g' g) : wEw (wSt1 g') (wSt1 g) := by
  refine ⟨(wKw_s st1_ss).tr (h.1.tr (wKw_s st1_ss).sy), fun j z1 z2 => ?_, fun f a z1 z2 z3 z4 => ?_⟩
  · by_cases q : j = 39
    · rw [q, st1_b, st1_b, h.v 39 (by decide)]
    · rw [st1_o (by decide) (fun _ => q), st1_o (by decide) (fun _ => q), h.v j (by omega)]
  · rw [st1_sz] at z4
    by_cases q : f = 129
    · rw [q, st1_129 z3 z4, st1_129 z3 (by rw [h.sz]; exact z4), nW_w h z3 z4]
    · rw [st1_o q (by omega), st1_o q (by omega), h.2.2 f a z1 z2 z3 z4]
theorem wMt_w {g' g : Nat → Int → Int → Int} (h : wEw g' g) {a k : Int} (h1 : 0 ≤ a) (h2 : a < g 50 0 2) (hk : k ≤ g 50 0 2) : wMt g' a k = wMt g a k := by
  unfold wMt
  refine wFI_c fun b t z1 z2 => ?_
  rw [h.2.2 129 a (by omega) (by omega) h1 h2, h.2.2 130 a (by omega) (by omega) h1 h2, h.2.2 129 b (by omega) (by omega) z1 (by omega), h.2.2 130 b (by omega) (by omega) z1 (by omega)]
theorem wNx_w {g' g : Nat → Int → Int → Int} (h : wEw g' g) {a k x : Int} (h1 : 0 ≤ a) (h2 : a < g 50 0 2) (hk : k ≤ g 50 0 2) : wNx g' a k x = wNx g a k x := by
  unfold wNx
  refine wFI_c fun b t z1 z2 => ?_
  rw [h.2.2 129 a (by omega) (by omega) h1 h2, h.2.2 130 a (by omega) (by omega) h1 h2, h.2.2 129 b (by omega) (by omega) z1 (by omega), h.2.2 130 b (by omega) (by omega) z1 (by omega), h.v 41 (by decide), wMt_w h h1 h2 (by omega)]
theorem wPr_w {g' g : Nat → Int → Int → Int} (h : wEw g' g) {a k x : Int} (h1 : 0 ≤ a) (h2 : a < g 50 0 2) (hk : k ≤ g 50 0 2) : wPr g' a k x = wPr g a k x := by
  unfold wPr
  refine wFI_c fun b t z1 z2 => ?_
  rw [h.2.2 129 a (by omega) (by omega) h1 h2, h.2.2 130 a (by omega) (by omega) h1 h2, h.2.2 129 b (by omega) (by omega) z1 (by omega), h.2.2 130 b (by omega) (by omega) z1 (by omega)]
theorem wNxO_w {g' g : Nat → Int → Int → Int} (h : wEw g' g) {k : Int} (hk : k ≤ g 50 0 2) : wNxO g' k = wNxO g k := by
  unfold wNxO
  rw [h.v 41 (by decide), h.v 2 (by decide)]
  exact wFI_c fun b t z1 z2 => wNx_w h z1 (by omega) (by omega)
theorem wPrO_w {g' g : Nat → Int → Int → Int} (h : wEw g' g) {k : Int} (hk : k ≤ g 50 0 2) : wPrO g' k = wPrO g k := by
  unfold wPrO
  rw [h.v 40 (by decide), h.v 2 (by decide)]
  exact wFI_c fun b t z1 z2 => wPr_w h z1 (by omega) (by omega)
theorem wAny_w {g' g : Nat → Int → Int → Int} (h : wEw g' g) {k : Int} (hk : k ≤ g 50 0 2) : wAny g' k = wAny g k := by
  unfold wAny
  rw [h.v 2 (by decide)]
  exact wFI_c fun b t z1 z2 => by rw [wMt_w h z1 (by omega) (by omega)]
theorem wEvA_w {g' g : Nat → Int → Int → Int} (h : wEw g' g) {p a : Int} (hp : 0 ≤ p ∧ p ≤ 2) (h1 : 0 ≤ a) (h2 : a < g 50 0 2) : wEvA g' p a = wEvA g p a := by
  have hd := fun f z1 z2 => h.2.2 f a z1 z2 h1 h2
  unfold wEvA
  rw [h.1.2 p _ hp.1 hp.2]
  unfold wNm
  rw [h.v 39 (by decide), h.v 2 (by decide), hd 129 (by omega) (by omega), hd 130 (by omega) (by omega), hd 131 (by omega) (by omega), wOth_c (w := g 129 0) h1 h2 (fun b z1 z2 => h.2.2 129 b (by omega) (by omega) z1 z2)]
theorem wWil_w {g' g : Nat → Int → Int → Int} (h : wEw g' g) {a : Int} (h1 : 0 ≤ a) (h2 : a < g 50 0 2) : wWil g' a = wWil g a := by
  unfold wWil
  rw [h.v 42 (by decide), h.1.1.1 103 (by decide) (by decide), h.1.1.1 107 (by decide) (by decide), h.2.2 131 a (by omega) (by omega) h1 h2, wEvA_w h (by decide) h1 h2]
theorem wHea_w {g' g : Nat → Int → Int → Int} (h : wEw g' g) {a : Int} (h1 : 0 ≤ a) (h2 : a < g 50 0 2) : wHea g' a = wHea g a := by
  unfold wHea
  rw [h.2.2 134 a (by omega) (by omega) h1 h2, wEvA_w h (by decide) h1 h2]
theorem wEw_meet {g' g : Nat → Int → Int → Int} (h : wEw g' g) : wEw (wMeet g') (wMeet g) := by
  refine ⟨(wKw_s mt_ss).tr (h.1.tr (wKw_s mt_ss).sy), fun j z1 z2 => ?_, fun f a z1 z2 z3 z4 => ?_⟩
  · by_cases q : j = 40
    · rw [q, mt_40, mt_40, h.sz, wPrO_w h (Int.le_refl _)]
    · by_cases q2 : j = 41
      · rw [q2, mt_41, mt_41, h.sz, wNxO_w h (Int.le_refl _)]
      · rw [mt_o (by decide) (fun _ => ⟨q, q2⟩), mt_o (by decide) (fun _ => ⟨q, q2⟩), h.v j (by omega)]
  · rw [mt_sz] at z4
    have z5 : a < g' 50 0 2 := by rw [h.sz]; exact z4
    have hd := fun f z1 z2 => h.2.2 f a z1 z2 z3 z4
    have hm := wMt_w h z3 z4 (Int.le_refl _)
    have e : f = 129 ∨ f = 130 ∨ f = 131 ∨ f = 132 ∨ f = 133 ∨ f = 134 ∨ f = 135 ∨ f = 136 := by omega
    rcases e with rfl | rfl | rfl | rfl | rfl | rfl | rfl | rfl
    · rw [mt_o (by decide) (by omega), mt_o (by decide) (by omega), hd _ z1 z2]
    · rw [mt_130 z3 z4, mt_130 z3 z5, h.sz, hm, wWil_w h z3 z4, hd _ z1 z2]
    · rw [mt_131 z3 z4, mt_131 z3 z5, h.sz, hm, hd _ z1 z2]
    · rw [mt_132 z3 z4, mt_132 z3 z5, h.sz, hm, wWil_w h z3 z4, hd _ z1 z2]
    · rw [mt_o (by decide) (by omega), mt_o (by decide) (by omega), hd _ z1 z2]
    · rw [mt_134 z3 z4, mt_134 z3 z5, h.sz, hm, wHea_w h z3 z4, hd _ z1 z2]
    · rw [mt_o (by decide) (by omega), mt_o (by decide) (by omega), hd _ z1 z2]
    · rw [mt_o (by decide) (by omega), mt_o (by decide) (by omega), hd _ z1 z2]
theorem wEw_ends {g' g : Nat → Int → Int → Int} (h : wEw g' g) : wEw (wEnds g') (wEnds g) := by
  refine ⟨(wKw_s en_ss).tr (h.1.tr (wKw_s en_ss).sy), fun j z1 z2 => ?_, fun f a z1 z2 z3 z4 => ?_⟩
  · rw [en_o rfl (by decide) (by decide), en_o rfl (by decide) (by decide), h.v j (by omega)]
  · have e2 : wEnds g 50 0 2 = g 50 0 2 := en_o rfl (by decide) (by decide)
    rw [e2] at z4
    have z5 : a < g' 50 0 2 := by rw [h.sz]; exact z4
    have hd := fun f z1 z2 => h.2.2 f a z1 z2 z3 z4
    have eA : wAE g' a = wAE g a := by
      unfold wAE
      rw [h.v 1 (by decide), h.v 0 (by decide), hd 129 (by omega) (by omega), hd 130 (by omega) (by omega)]
    have eB : wWb g' a = wWb g a := by
      unfold wWb
      rw [h.1.1.1 103 (by decide) (by decide), h.1.1.1 107 (by decide) (by decide), hd 133 (by omega) (by omega), wEvA_w h (by decide) z3 z4]
    by_cases q : wE2C f = true
    · rw [en_V q z3 z4, en_V q z3 z5, eA, eB, hd 130 (by omega) (by omega), hd 132 (by omega) (by omega), hd 133 (by omega) (by omega), hd 129 (by omega) (by omega), h.v 39 (by decide), hd f z1 z2]
    · have q' : wE2C f = false := by simpa using q
      rw [en_o q' (by omega) (by omega), en_o q' (by omega) (by omega), hd f z1 z2]
theorem wEw_step {g' g : Nat → Int → Int → Int} (h : wEw g' g) : wEw (wStep g') (wStep g) := wEw_ends (wEw_meet (wEw_st1 h))
theorem wEw_it {g' g : Nat → Int → Int → Int} (h : wEw g' g) : ∀ k, wEw (wIt g' k) (wIt g k)
  | 0 => h
  | k + 1 => wEw_step (wEw_it h k)
theorem wEw_beg {g' g : Nat → Int → Int → Int} (h : wKw g' g) {ways : Int} : wEw (wBegin g' ways) (wBegin g ways) := by
  refine ⟨(wKw_s beg_ss).tr (h.tr (wKw_s beg_ss).sy), fun j z1 z2 => ?_, fun f a z1 z2 z3 z4 => ?_⟩
  · have e : j = 39 ∨ j = 40 ∨ j = 41 ∨ j = 42 := by omega
    have v1 := beg_v (g := g) (ways := ways)
    have v2 := beg_v (g := g') (ways := ways)
    rcases e with rfl | rfl | rfl | rfl
    · rw [v1.1, v2.1]
    · rw [v1.2.1, v2.2.1]
    · rw [v1.2.2.1, v2.2.2.1]
    · rw [v1.2.2.2, v2.2.2.2]
  · have e2 : wBegin g ways 50 0 2 = g 50 0 2 := beg_ss.2 _ _ (by omega)
    rw [e2] at z4
    rw [beg_r ⟨z1, z2⟩ z3 z4, beg_r ⟨z1, z2⟩ z3 (by rw [h.1.2 2 (by decide) (by decide)]; exact z4)]
theorem gA_w {g' g : Nat → Int → Int → Int} (h : wKw g' g) {w a : Int} (h1 : 0 ≤ a) (h2 : a < g 50 0 2) : gA g' w 135 0 a = gA g w 135 0 a := (wEw_it (wEw_beg h) 201).2.2 135 a (by decide) (by decide) h1 (by rw [show wIt (wBegin g w) 201 50 0 2 = g 50 0 2 from it_sz.trans beg_sz]; exact h2)
