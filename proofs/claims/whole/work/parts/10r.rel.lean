/-! ===== what a walk rests on: the cells that count ===== -/
theorem wFI_c {σ : Type} {f f' : Int → σ → σ} {s : σ} {n : Int} (h : ∀ k t, 0 ≤ k → k < n → f k t = f' k t) : wFI f s n = wFI f' s n := by
  unfold wFI
  suffices H : ∀ m : Nat, (m : Int) ≤ n ∨ m = 0 → wF f s m = wF f' s m from H n.toNat (by omega)
  intro m
  induction m with
  | zero => intro _; rfl
  | succ m ih =>
    intro hm
    show f m (wF f s m) = f' m (wF f' s m)
    rw [ih (by omega), h m _ (by omega) (by omega)]
/-- what stands between calls (of the reference's own) -/
def wKr (g' g : Nat → Int → Int → Int) : Prop := (∀ f, ((102 < f ∧ f < 127) ∨ (145 < f ∧ f < 158)) → g' f = g f) ∧ ∀ j, (j < 39 ∨ 42 < j) → g' 50 0 j = g 50 0 j
theorem wKr.rf {g : Nat → Int → Int → Int} : wKr g g := ⟨fun _ _ => rfl, fun _ _ => rfl⟩
theorem wKr.tr {a b c : Nat → Int → Int → Int} (h : wKr a b) (h' : wKr b c) : wKr a c := ⟨fun f x => (h.1 f x).trans (h'.1 f x), fun j x => (h.2 j x).trans (h'.2 j x)⟩
theorem wKr.sy {a b : Nat → Int → Int → Int} (h : wKr a b) : wKr b a := ⟨fun f x => (h.1 f x).symm, fun j x => (h.2 j x).symm⟩
theorem wKr_p {a b : Nat → Int → Int → Int} (h : wKp a b) : wKr a b := ⟨fun f x => h.1 f (by omega) (by omega), fun j x => h.2 0 j x⟩
theorem wKr_s {a b : Nat → Int → Int → Int} (h : wSs a b) : wKr a b := wKr_p (wKp_s h)
theorem wOs_kr {g g' : Nat → Int → Int → Int} (h : wKr g' g) (hs : wOs g) : wOs g' := by
  unfold wOs at *
  have h1 := fun f a => h.1 f a
  rw [h.2 0 (by omega), h.2 1 (by omega), h.2 2 (by omega), h.2 10 (by omega), h.2 11 (by omega)]
  simp only [h1 103 (by omega), h1 104 (by omega), h1 105 (by omega), h1 106 (by omega), h1 107 (by omega)]
  exact ⟨hs.1, hs.2.1, hs.2.2.1, hs.2.2.2.1, hs.2.2.2.2.1, fun t p z1 z2 z3 z4 => wRow1_co ⟨fun o j => by rw [h1 112 (by omega)], fun o j => by rw [h1 113 (by omega)]⟩ (hs.2.2.2.2.2.1 t p z1 z2 z3 z4), hs.2.2.2.2.2.2⟩
/-- the same in all that counts in a walk -/
def wEd (g' g : Nat → Int → Int → Int) : Prop := wKr g' g ∧ (∀ j, 39 ≤ j → j ≤ 42 → g' 50 0 j = g 50 0 j) ∧ ∀ f a, 129 ≤ f → f ≤ 136 → 0 ≤ a → a < g 50 0 2 → g' f 0 a = g f 0 a
theorem wEd.rf {g : Nat → Int → Int → Int} : wEd g g := ⟨wKr.rf, fun _ _ _ => rfl, fun _ _ _ _ _ _ => rfl⟩
theorem wEd.sz {g' g : Nat → Int → Int → Int} (h : wEd g' g) : g' 50 0 2 = g 50 0 2 := h.1.2 2 (by omega)
theorem wEd.v {g' g : Nat → Int → Int → Int} (h : wEd g' g) (j : Int) : g' 50 0 j = g 50 0 j := by
  by_cases q : j < 39 ∨ 42 < j
  · exact h.1.2 j q
  · exact h.2.1 j (by omega) (by omega)
theorem wEd.tr {a b c : Nat → Int → Int → Int} (h : wEd a b) (h' : wEd b c) : wEd a c := ⟨h.1.tr h'.1, fun j x y => (h.2.1 j x y).trans (h'.2.1 j x y), fun f k x y z w => (h.2.2 f k x y z (by rw [h'.sz]; exact w)).trans (h'.2.2 f k x y z w)⟩
theorem wEd.sy {a b : Nat → Int → Int → Int} (h : wEd a b) : wEd b a := ⟨h.1.sy, fun j x y => (h.2.1 j x y).symm, fun f k x y z w => (h.2.2 f k x y z (by rw [← h.sz]; exact w)).symm⟩
theorem wEd_e {g' g : Nat → Int → Int → Int} (h : wEq g' g) : wEd g' g := by
  have hr : ∀ f, 100 ≤ f → f < 200 → f ≠ 127 → f ≠ 128 → wRf f = true := by
    intro f h1 h2 h3 h4
    unfold wRf
    rw [Nat.blt_eq.mpr (show 99 < f by omega), Nat.blt_eq.mpr h2]
    simp [h3, h4]
  exact ⟨⟨fun f z => h f (hr f (by omega) (by omega) (by omega) (by omega)), fun j _ => by rw [h 50 rfl]⟩, fun j _ _ => by rw [h 50 rfl], fun f a z1 z2 _ _ => by rw [h f (hr f (by omega) (by omega) (by omega) (by omega))]⟩
theorem nW_d {g' g : Nat → Int → Int → Int} (h : wEd g' g) {a : Int} (h1 : 0 ≤ a) (h2 : a < g 50 0 2) : nW g' a = nW g a := by
  have hd := fun f z1 z2 => h.2.2 f a z1 z2 h1 h2
  unfold nW
  rw [h.v, h.1.1 106 (by omega), h.1.1 104 (by omega), hd 129 (by omega) (by omega), hd 130 (by omega) (by omega), h.v 1, h.v 0]
theorem wEd_st1 {g' g : Nat → Int → Int → Int} (h : wEd g' g) : wEd (wSt1 g') (wSt1 g) := by
  refine ⟨(wKr_s st1_ss).tr (h.1.tr (wKr_s st1_ss).sy), fun j z1 z2 => ?_, fun f a z1 z2 z3 z4 => ?_⟩
  · by_cases q : j = 39
    · rw [q, st1_b, st1_b, h.v]
    · rw [st1_o (by decide) (fun _ => q), st1_o (by decide) (fun _ => q), h.v]
  · rw [st1_sz] at z4
    by_cases q : f = 129
    · rw [q, st1_129 z3 z4, st1_129 z3 (by rw [h.sz]; exact z4), nW_d h z3 z4]
    · rw [st1_o q (by omega), st1_o q (by omega), h.2.2 f a z1 z2 z3 z4]
theorem wMt_d {g' g : Nat → Int → Int → Int} (h : wEd g' g) {a k : Int} (h1 : 0 ≤ a) (h2 : a < g 50 0 2) (hk : k ≤ g 50 0 2) : wMt g' a k = wMt g a k := by
  unfold wMt
  refine wFI_c fun b t z1 z2 => ?_
  rw [h.2.2 129 a (by omega) (by omega) h1 h2, h.2.2 130 a (by omega) (by omega) h1 h2, h.2.2 129 b (by omega) (by omega) z1 (by omega), h.2.2 130 b (by omega) (by omega) z1 (by omega)]
theorem wNx_d {g' g : Nat → Int → Int → Int} (h : wEd g' g) {a k x : Int} (h1 : 0 ≤ a) (h2 : a < g 50 0 2) (hk : k ≤ g 50 0 2) : wNx g' a k x = wNx g a k x := by
  unfold wNx
  refine wFI_c fun b t z1 z2 => ?_
  rw [h.2.2 129 a (by omega) (by omega) h1 h2, h.2.2 130 a (by omega) (by omega) h1 h2, h.2.2 129 b (by omega) (by omega) z1 (by omega), h.2.2 130 b (by omega) (by omega) z1 (by omega), h.v 41, wMt_d h h1 h2 (by omega)]
theorem wPr_d {g' g : Nat → Int → Int → Int} (h : wEd g' g) {a k x : Int} (h1 : 0 ≤ a) (h2 : a < g 50 0 2) (hk : k ≤ g 50 0 2) : wPr g' a k x = wPr g a k x := by
  unfold wPr
  refine wFI_c fun b t z1 z2 => ?_
  rw [h.2.2 129 a (by omega) (by omega) h1 h2, h.2.2 130 a (by omega) (by omega) h1 h2, h.2.2 129 b (by omega) (by omega) z1 (by omega), h.2.2 130 b (by omega) (by omega) z1 (by omega)]
theorem wNxO_d {g' g : Nat → Int → Int → Int} (h : wEd g' g) {k : Int} (hk : k ≤ g 50 0 2) : wNxO g' k = wNxO g k := by
  unfold wNxO
  rw [h.v 41, h.v 2]
  exact wFI_c fun b t z1 z2 => wNx_d h z1 (by omega) (by omega)
theorem wPrO_d {g' g : Nat → Int → Int → Int} (h : wEd g' g) {k : Int} (hk : k ≤ g 50 0 2) : wPrO g' k = wPrO g k := by
  unfold wPrO
  rw [h.v 40, h.v 2]
  exact wFI_c fun b t z1 z2 => wPr_d h z1 (by omega) (by omega)
theorem wAny_d {g' g : Nat → Int → Int → Int} (h : wEd g' g) {k : Int} (hk : k ≤ g 50 0 2) : wAny g' k = wAny g k := by
  unfold wAny
  rw [h.v 2]
  exact wFI_c fun b t z1 z2 => by rw [wMt_d h z1 (by omega) (by omega)]
theorem wOth_c {w w' : Int → Int} {n a : Int} (h1 : 0 ≤ a) (h2 : a < n) (h : ∀ b, 0 ≤ b → b < n → w' b = w b) : wOth w' n a = wOth w n a := by
  unfold wOth
  exact wFI_c fun b t z1 z2 => by rw [h b z1 z2, h a h1 h2]
theorem wEvA_d {g' g : Nat → Int → Int → Int} (h : wEd g' g) {p a : Int} (h1 : 0 ≤ a) (h2 : a < g 50 0 2) : wEvA g' p a = wEvA g p a := by
  have hd := fun f z1 z2 => h.2.2 f a z1 z2 h1 h2
  unfold wEvA wVl wCd wNm
  rw [h.1.1 112 (by omega), h.1.1 113 (by omega), h.v 11, h.v 39, h.v 2, hd 129 (by omega) (by omega), hd 130 (by omega) (by omega), hd 131 (by omega) (by omega), wOth_c (w := g 129 0) h1 h2 (fun b z1 z2 => h.2.2 129 b (by omega) (by omega) z1 z2)]
theorem wWil_d {g' g : Nat → Int → Int → Int} (h : wEd g' g) {a : Int} (h1 : 0 ≤ a) (h2 : a < g 50 0 2) : wWil g' a = wWil g a := by
  unfold wWil
  rw [h.v, h.1.1 103 (by omega), h.1.1 107 (by omega), h.2.2 131 a (by omega) (by omega) h1 h2, wEvA_d h h1 h2]
theorem wHea_d {g' g : Nat → Int → Int → Int} (h : wEd g' g) {a : Int} (h1 : 0 ≤ a) (h2 : a < g 50 0 2) : wHea g' a = wHea g a := by
  unfold wHea
  rw [h.2.2 134 a (by omega) (by omega) h1 h2, wEvA_d h h1 h2]
theorem wEd_meet {g' g : Nat → Int → Int → Int} (h : wEd g' g) : wEd (wMeet g') (wMeet g) := by
  refine ⟨(wKr_s mt_ss).tr (h.1.tr (wKr_s mt_ss).sy), fun j z1 z2 => ?_, fun f a z1 z2 z3 z4 => ?_⟩
  · by_cases q : j = 40
    · rw [q, mt_40, mt_40, h.sz, wPrO_d h (Int.le_refl _)]
    · by_cases q2 : j = 41
      · rw [q2, mt_41, mt_41, h.sz, wNxO_d h (Int.le_refl _)]
      · rw [mt_o (by decide) (fun _ => ⟨q, q2⟩), mt_o (by decide) (fun _ => ⟨q, q2⟩), h.v]
  · rw [mt_sz] at z4
    have z5 : a < g' 50 0 2 := by rw [h.sz]; exact z4
    have hd := fun f z1 z2 => h.2.2 f a z1 z2 z3 z4
    have hm := wMt_d h z3 z4 (Int.le_refl _)
    have e : f = 129 ∨ f = 130 ∨ f = 131 ∨ f = 132 ∨ f = 133 ∨ f = 134 ∨ f = 135 ∨ f = 136 := by omega
    rcases e with rfl | rfl | rfl | rfl | rfl | rfl | rfl | rfl
    · rw [mt_o (by decide) (by omega), mt_o (by decide) (by omega), hd _ z1 z2]
    · rw [mt_130 z3 z4, mt_130 z3 z5, h.sz, hm, wWil_d h z3 z4, hd _ z1 z2]
    · rw [mt_131 z3 z4, mt_131 z3 z5, h.sz, hm, hd _ z1 z2]
    · rw [mt_132 z3 z4, mt_132 z3 z5, h.sz, hm, wWil_d h z3 z4, hd _ z1 z2]
    · rw [mt_o (by decide) (by omega), mt_o (by decide) (by omega), hd _ z1 z2]
    · rw [mt_134 z3 z4, mt_134 z3 z5, h.sz, hm, wHea_d h z3 z4, hd _ z1 z2]
    · rw [mt_o (by decide) (by omega), mt_o (by decide) (by omega), hd _ z1 z2]
    · rw [mt_o (by decide) (by omega), mt_o (by decide) (by omega), hd _ z1 z2]
theorem wEd_ends {g' g : Nat → Int → Int → Int} (h : wEd g' g) : wEd (wEnds g') (wEnds g) := by
  refine ⟨(wKr_s en_ss).tr (h.1.tr (wKr_s en_ss).sy), fun j z1 z2 => ?_, fun f a z1 z2 z3 z4 => ?_⟩
  · rw [en_o rfl (by decide) (by decide), en_o rfl (by decide) (by decide), h.v]
  · have e2 : wEnds g 50 0 2 = g 50 0 2 := en_o rfl (by decide) (by decide)
    rw [e2] at z4
    have z5 : a < g' 50 0 2 := by rw [h.sz]; exact z4
    have hd := fun f z1 z2 => h.2.2 f a z1 z2 z3 z4
    have eA : wAE g' a = wAE g a := by
      unfold wAE
      rw [h.v 1, h.v 0, hd 129 (by omega) (by omega), hd 130 (by omega) (by omega)]
    have eB : wWb g' a = wWb g a := by
      unfold wWb
      rw [h.1.1 103 (by omega), h.1.1 107 (by omega), hd 133 (by omega) (by omega), wEvA_d h z3 z4]
    by_cases q : wE2C f = true
    · rw [en_V q z3 z4, en_V q z3 z5, eA, eB, hd 130 (by omega) (by omega), hd 132 (by omega) (by omega), hd 133 (by omega) (by omega), hd 129 (by omega) (by omega), h.v 39, hd f z1 z2]
    · have q' : wE2C f = false := by simpa using q
      rw [en_o q' (by omega) (by omega), en_o q' (by omega) (by omega), hd f z1 z2]
theorem wEd_step {g' g : Nat → Int → Int → Int} (h : wEd g' g) : wEd (wStep g') (wStep g) := wEd_ends (wEd_meet (wEd_st1 h))
theorem wEd_it {g' g : Nat → Int → Int → Int} (h : wEd g' g) : ∀ k, wEd (wIt g' k) (wIt g k)
  | 0 => h
  | k + 1 => wEd_step (wEd_it h k)
theorem beg_v {g : Nat → Int → Int → Int} {ways : Int} : wBegin g ways 50 0 39 = -1 ∧ wBegin g ways 50 0 40 = 0 ∧ wBegin g ways 50 0 41 = -1 ∧ wBegin g ways 50 0 42 = 0 := by
  unfold wBegin
  refine ⟨?_, ?_, ?_, ?_⟩ <;> simp [ax_u3]
theorem wEd_beg {g' g : Nat → Int → Int → Int} (h : wKr g' g) {ways : Int} : wEd (wBegin g' ways) (wBegin g ways) := by
  refine ⟨(wKr_s beg_ss).tr (h.tr (wKr_s beg_ss).sy), fun j z1 z2 => ?_, fun f a z1 z2 z3 z4 => ?_⟩
  · have e : j = 39 ∨ j = 40 ∨ j = 41 ∨ j = 42 := by omega
    have v1 := beg_v (g := g) (ways := ways)
    have v2 := beg_v (g := g') (ways := ways)
    rcases e with rfl | rfl | rfl | rfl
    · rw [v1.1, v2.1]
    · rw [v1.2.1, v2.2.1]
    · rw [v1.2.2.1, v2.2.2.1]
    · rw [v1.2.2.2, v2.2.2.2]
  · have e2 : wBegin g ways 50 0 2 = g 50 0 2 := beg_ss.2 _ _ (by omega)
    rw [e2] at z4
    rw [beg_r ⟨z1, z2⟩ z3 z4, beg_r ⟨z1, z2⟩ z3 (by rw [h.2 2 (by omega)]; exact z4)]
theorem wEd_u {g' g : Nat → Int → Int → Int} (h : wEd g' g) {j x : Int} (hj : 39 ≤ j ∧ j ≤ 42) : wEd (ax_u3 g' 50 0 j x) (ax_u3 g 50 0 j x) := by
  refine ⟨⟨fun f z => by rw [show ax_u3 g' 50 0 j x f = g' f from funext fun o => funext fun k => ax_u3_f (by omega), show ax_u3 g 50 0 j x f = g f from funext fun o => funext fun k => ax_u3_f (by omega), h.1.1 f z], fun k z => by rw [ax_u3_n (by omega), ax_u3_n (by omega), h.v]⟩, fun k z1 z2 => ?_, fun f a z1 z2 z3 z4 => ?_⟩
  · unfold ax_u3
    rw [h.v]
  · rw [ax_u3_f (by omega), ax_u3_f (by omega)]
    exact h.2.2 f a z1 z2 z3 (by rw [ax_u3_n (by omega)] at z4; exact z4)
/-- the walks that calls go: as set, till behind a beat; all, from a way on; through -/
def gAs (g : Nat → Int → Int → Int) : Int := wSet (g 105 0) (g 50 0 2)
def gT (g : Nat → Int → Int → Int) (t : Int) : Nat → Int → Int → Int := wIt (wBegin g (gAs g)) (t + 1).toNat
def gA (g : Nat → Int → Int → Int) (w : Int) : Nat → Int → Int → Int := wIt (wBegin g w) 201
def gTh (g : Nat → Int → Int → Int) : Nat → Int → Int → Int := wIt (ax_u3 (wBegin g (gAs g)) 50 0 42 1) 201
def gCa (g : Nat → Int → Int → Int) (a : Int) : Nat → Int → Int → Int := wIt (ax_u3 (wBegin g (gAs g)) 50 0 41 a) 201
theorem gAs_k {g' g : Nat → Int → Int → Int} (h : wKr g' g) : gAs g' = gAs g := by
  unfold gAs
  rw [h.1 105 (by omega), h.2 2 (by omega)]
theorem gT_k {g' g : Nat → Int → Int → Int} (h : wKr g' g) {t : Int} : wEd (gT g' t) (gT g t) := by
  unfold gT
  rw [gAs_k h]
  exact wEd_it (wEd_beg h) _
theorem gA_k {g' g : Nat → Int → Int → Int} (h : wKr g' g) {w : Int} : wEd (gA g' w) (gA g w) := wEd_it (wEd_beg h) _
theorem gTh_k {g' g : Nat → Int → Int → Int} (h : wKr g' g) : wEd (gTh g') (gTh g) := by
  unfold gTh
  rw [gAs_k h]
  exact wEd_it (wEd_u (wEd_beg h) (by decide)) _
theorem gCa_k {g' g : Nat → Int → Int → Int} (h : wKr g' g) {a : Int} : wEd (gCa g' a) (gCa g a) := by
  unfold gCa
  rw [gAs_k h]
  exact wEd_it (wEd_u (wEd_beg h) (by decide)) _
theorem wLast_in {off : Int → Int} {n : Int} (hn : 0 ≤ n) : wLast off n = -1 ∨ (0 ≤ wLast off n ∧ wLast off n < n) := by
  unfold wLast
  split
  · exact wMax_in hn
  · exact Or.inl rfl
theorem wMax_c {off off' : Int → Int} {n : Int} (h : ∀ a, 0 ≤ a → a < n → off' a = off a) : wMax off' n = wMax off n := by
  suffices H : ∀ m : Nat, (m : Int) ≤ n → wMax off' m = wMax off m by
    by_cases q : 0 ≤ n
    · have := H n.toNat (by omega)
      rw [show ((n.toNat : Nat) : Int) = n by omega] at this
      exact this
    · unfold wMax wFI
      rw [show n.toNat = 0 by omega]
      rfl
  intro m
  induction m with
  | zero => intro _; rfl
  | succ m ih =>
    intro hm
    have e := ih (by omega)
    have hi := wMax_in (off := off) (n := m) (by omega)
    unfold wMax at *
    rw [show ((m + 1 : Nat) : Int) = (m : Int) + 1 by omega, wFI_s (by omega), wFI_s (by omega), e, h m (by omega) (by omega)]
    generalize wFI (fun a l => if l = -1 ∨ off l < off a then a else l) (-1) (m : Int) = l at *
    by_cases q : l = -1
    · rw [if_pos (Or.inl q), if_pos (Or.inl q)]
    · rw [h l (by omega) (by omega)]
theorem wLast_c {off off' : Int → Int} {n : Int} (h : ∀ a, 0 ≤ a → a < n → off' a = off a) : wLast off' n = wLast off n := by
  unfold wLast
  by_cases q : ∀ a, 0 ≤ a → a < n → 0 ≤ off a
  · rw [if_pos q, if_pos (fun a z1 z2 => by rw [h a z1 z2]; exact q a z1 z2), wMax_c h]
  · rw [if_neg q, if_neg (fun z => q (fun a z1 z2 => by rw [← h a z1 z2]; exact z a z1 z2))]
