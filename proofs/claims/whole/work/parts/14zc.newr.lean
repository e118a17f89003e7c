/-! ===== a new rule comes into the world ===== -/
theorem rNeed_l {T p : Int → Int} {N t : Int} {s : rdS} (hN : T N = 0) (ht : t ≠ 0) (h : 0 ≤ s.1 ∧ s.1 ≤ N) : (0 ≤ (rNeed T p N t s).1 ∧ (rNeed T p N t s).1 ≤ N) ∧ (rNeed T p N t s).2.1 = s.2.1 := by
  unfold rNeed
  by_cases c : T s.1 = t
  · rw [if_pos c]
    have := rAd_i hN h.2 c ht
    exact ⟨⟨by show 0 ≤ s.1 + 1; omega, this⟩, rfl⟩
  · rw [if_neg c]
    have := rRef_i (p := p) (s := s) h.2
    exact ⟨⟨by omega, this.1.2⟩, this.2⟩
theorem rPart_l {T V p : Int → Int} {N t : Int} {s : rdS} (hN : T N = 0) (ht : t ≠ 0) (h : 0 ≤ s.1 ∧ s.1 ≤ N) (hl : s.2.1.length ≤ 160) : (0 ≤ (rPart T V p N t s).1 ∧ (rPart T V p N t s).1 ≤ N) ∧ (rPart T V p N t s).2.1.length ≤ 160 := by
  obtain ⟨h1, h2⟩ := rNeed_l (p := p) hN ht h
  have h3 := rEith_i (T := T) hN (rAll_i (T := T) (V := V) (p := p) (N := N) hN 5).2 _ h1.1 h1.2
  obtain ⟨h4, h5⟩ := rNeed_l (T := T) (p := p) (N := N) (t := 59) (s := (rEith T (rAll T V p N 5).2 (rNeed T p N t s)).2) hN (by decide) ⟨Int.le_trans h1.1 h3.1.1, h3.1.2⟩
  refine ⟨h4, ?_⟩
  show (rNeed T p N 59 (rEith T (rAll T V p N 5).2 (rNeed T p N t s)).2).2.1.length ≤ 160
  rw [h5]
  exact h3.2 (by rw [h2]; exact hl)
theorem rSk_l {T V p : Int → Int} {N : Int} (hN : T N = 0) (h0 : 0 ≤ N) : (rSk T V p N 3).2.1.length ≤ 160 := by
  have h1 := rPart_l (V := V) (p := p) (t := 5) (s := (0, [], -1)) hN (by decide) ⟨Int.le_refl 0, h0⟩ (Nat.zero_le _)
  have h2 := rPart_l (V := V) (p := p) (t := 6) hN (by decide) h1.1 h1.2
  exact (rPart_l (V := V) (p := p) (t := 7) hN (by decide) h2.1 h2.2).2
theorem cWd_add {P P' : Nat → Int → Prop} {r0 r' : Nat → Int → Int → Option (Nat × Int)} {n n' : Nat → Int → Int} {g G h h' : Nat → Int → Int → Int} {t : Int} (hw : cWd P r0 n g h) (ht : t = h 50 0 10) (ht6 : t < 6) (eP : ∀ f o, P f o → P' f o) (p6 : P' 6 t)
    (er : ∀ f o j, ¬ (((f = 6 ∨ (600 ≤ f ∧ f ≤ 604)) ∧ o = t) ∨ 999 < f ∨ (f = 702 ∧ o = 0 ∧ j = t)) → r' f o j = r0 f o j) (er7 : r' 702 0 t = some (6, t))
    (en : ∀ f o, ¬ (((f = 6 ∨ (600 ≤ f ∧ f ≤ 604)) ∧ o = t) ∨ 999 < f) → n' f o = n f o)
    (e : ∀ f o j, ¬ (((f = 6 ∨ (600 ≤ f ∧ f ≤ 604)) ∧ o = t) ∨ 999 < f ∨ f = 3 ∨ (302 ≤ f ∧ f ≤ 311) ∨ (f = 1 ∧ o = 0 ∧ j = 4)) → G f o j = g f o j) (e4 : G 1 0 4 = t + 1) (e30 : G 3 0 0 = 0)
    (kf : ∀ f, (102 < f ∧ f < 108) ∨ (150 < f ∧ f < 158) → h' f = h f) (kj : ∀ j, (0 ≤ j ∧ j ≤ 2) ∨ j = 11 ∨ (46 ≤ j ∧ j ≤ 50) → h' 50 0 j = h 50 0 j) (k10 : h' 50 0 10 = t + 1) (k9 : h' 50 0 9 = 0) (kr : wRws h' h t)
    (hru : cRu G n' t (fun p nm => wVl h' (3 * t + p) nm)) (hrw : ∀ p, 0 ≤ p → p ≤ 2 → wRow1 h' (3 * t + p)) : cWd P' r' n' G h' := by
  obtain ⟨⟨w1a, w1b, w1c⟩, w2, w3, ⟨w4a, w4b⟩, w5, w6, w7⟩ := hw
  have hrow : ∀ t q, 0 ≤ t → t < h 50 0 10 → 0 ≤ q → q ≤ 2 → wRow1 h (3 * t + q) := w1c.2.2.2.2.2.1
  have k11 := kj 11 (by omega)
  have h10 := w1c.2.2.2.1
  have hfo := w1c.2.2.2.2.1
  have hv : ∀ u q nm, 0 ≤ u → u < h 50 0 10 → 0 ≤ q → q ≤ 2 → wVl h' (3 * u + q) nm = wVl h (3 * u + q) nm := fun u q nm z1 z2 z3 z4 => wVl_cr (kr _ (by omega) (by omega)).1 (kr _ (by omega) (by omega)).2 (hrow u q z1 z2 z3 z4)
  have hO : wOs h' := by
    unfold wOs
    rw [kj 0 (by omega), kj 1 (by omega), kj 2 (by omega), k10, k11, kf 103 (by decide), kf 104 (by decide), kf 105 (by decide), kf 106 (by decide), kf 107 (by decide)]
    refine ⟨w1c.1, w1c.2.1, w1c.2.2.1, by omega, by omega, fun u q z1 z2 z3 z4 => ?_, w1c.2.2.2.2.2.2⟩
    by_cases c : u = t
    · rw [c]; exact hrw q z3 z4
    · exact wRow1_cr (kr _ (by omega) (by omega)).1 (kr _ (by omega) (by omega)).2 (hrow u q z1 (by omega) z3 z4)
  obtain ⟨l1, l2, l3, l4, l5⟩ := w2
  refine ⟨⟨?_, ?_, hO⟩, ⟨(en 214 0 (by omega)).trans l1, (en 215 0 (by omega)).trans l2, (en 216 0 (by omega)).trans l3, (en 209 0 (by omega)).trans l4, (en 210 0 (by omega)).trans l5⟩, ?_, ⟨cMz_c (fun q => e 214 0 q (by omega)) (fun q => e 215 0 q (by omega)) w4a, cCa_k (fun q => e 209 0 q (by omega)) (fun q => e 210 0 q (by omega)) (e 2 0 11 (by omega)) ⟨⟨fun f z1 z2 => kf f (by omega), fun j z1 z2 => kj j (by omega)⟩, fun q nm z1 z2 => by rw [k11]; exact hv _ q nm hfo.1 hfo.2 z1 z2⟩ w4b⟩, ?_, ?_, ?_⟩
  · rw [e 2 0 1 (by omega)]
    obtain ⟨⟨a1, a2⟩, a3⟩ := w1a
    refine ⟨⟨(en 200 0 (by omega)).trans a1, a2⟩, fun a z1 z2 => ?_⟩
    obtain ⟨⟨b1, b2⟩, ⟨b3, b4⟩, b5⟩ := a3 a z1 z2
    exact ⟨⟨(er 200 0 a (by omega)).trans b1, eP _ _ b2⟩, ⟨(en 500 a (by omega)).trans b3, (en 501 a (by omega)).trans b4⟩, by rw [en 5 a (by omega)]; exact b5⟩
  · unfold cPl
    rw [e 2 0 1 (by omega), e 2 0 2 (by omega), e 2 0 3 (by omega), kj 0 (by omega), kj 1 (by omega), kj 2 (by omega), kf 103 (by decide), kf 104 (by decide), kf 105 (by decide), kf 106 (by decide), kf 107 (by decide)]
    exact ⟨w1b.1, fun a z1 z2 => by rw [e 500 a 0 (by omega), e 500 a 1 (by omega), e 500 a 2 (by omega), e 500 a 3 (by omega), en 5 a (by omega)]; exact w1b.2 a z1 z2⟩
  · obtain ⟨⟨⟨t1, t2⟩, ⟨t3, t3b⟩, t3c⟩, ⟨t4, t5, t6⟩, t7⟩ := w3
    refine ⟨⟨⟨(er 1 0 0 (by omega)).trans t1, eP _ _ t2⟩, ⟨(er 1 0 1 (by omega)).trans t3, eP _ _ t3b⟩, (en 702 0 (by omega)).trans t3c⟩, ⟨by rw [e4, k10], by rw [e 1 0 5 (by omega), k11]; exact t5, by rw [k11, er 2 0 4 (by omega)]; exact t6⟩, fun u z1 z2 => ?_⟩
    rw [k10] at z2
    by_cases c : u = t
    · rw [c]; exact ⟨⟨er7, p6⟩, hru⟩
    · obtain ⟨⟨y0, y1⟩, y2⟩ := t7 u z1 (by omega)
      refine ⟨⟨(er 702 0 u (by omega)).trans y0, eP _ _ y1⟩, ?_⟩
      have y3 := cRu_c (g' := G) (fun f j x1 x2 => e f u j (by omega)) y2
      intro q q1 q2
      obtain ⟨y4, y5⟩ := y3 q q1 q2
      refine ⟨?_, fun nm w0 => by show _ = wVl h' (3 * u + q) nm; rw [hv u q nm z1 (by omega) q1 q2]; exact y5 nm w0⟩
      unfold cWf at y4 ⊢
      rw [en 600 u (by omega), en 601 u (by omega), en 602 u (by omega), en 603 u (by omega), en 604 u (by omega)]
      exact y4
  · have y := cShe_c (g' := G) (h' := h') (fun s j => e 4 s j (by omega)) (fun s j => e 402 s j (by omega)) (fun s => by rw [kf 155 (by decide)]) (fun s => by rw [kf 156 (by decide)]) (fun s => by rw [kf 157 (by decide)]) w5
    refine ⟨(en 703 0 (by omega)).trans y.1, fun s z1 z2 => ?_⟩
    obtain ⟨⟨y1, y2⟩, y3, y4⟩ := y.2 s z1 z2
    exact ⟨⟨(er 703 0 s (by omega)).trans y1, eP _ _ y2⟩, (en 402 s (by omega)).trans y3, y4⟩
  · exact cIma_c (fun j z1 z2 => e 1 0 j (by omega)) (fun a j => e 501 a j (by omega)) (fun j z1 z2 => kj j (by omega)) (Int.le_of_eq (kj 2 (by omega)).symm) (by omega) (fun f a z1 z2 => by rw [kf f (by omega)]) w6
  · obtain ⟨⟨m1, m2, m3, m4, m5, m6, m7, m8⟩, m9⟩ := w7
    refine ⟨⟨(en 302 0 (by omega)).trans m1, (en 303 0 (by omega)).trans m2, (en 304 0 (by omega)).trans m3, (en 305 0 (by omega)).trans m4, (en 308 0 (by omega)).trans m5, (en 309 0 (by omega)).trans m6, (en 310 0 (by omega)).trans m7, (en 311 0 (by omega)).trans m8⟩, ⟨by rw [e30, k9], by rw [k9]; decide, by rw [k9]; decide⟩, fun i z1 z2 => by rw [k9] at z2; omega⟩
/-- what a text of the reference does -/
def yTx (h h' : Nat → Int → Int → Int) (r : Int) : Prop := (h 50 0 10 = 6 → r = -4 ∧ h' = h) ∧ (h 50 0 10 ≠ 6 → cFr (fun f o j => TA (h 50 0 10) f o j ∨ (f = 50 ∧ o = 0 ∧ (j = 9 ∨ j = 10))) h' h ∧ (-1 ≤ (rSZ (tT (h 108 0) (h 50 0 9)) (tV (h 108 0) (h 50 0 9)) (tkP (h 108 0) (h 50 0 9)) (tkN (h 108 0) (h 50 0 9))).2.2 ∧ (rSZ (tT (h 108 0) (h 50 0 9)) (tV (h 108 0) (h 50 0 9)) (tkP (h 108 0) (h 50 0 9)) (tkN (h 108 0) (h 50 0 9))).2.2 ≤ 160) ∧ h' 50 0 9 = 0 ∧
  ((rSZ (tT (h 108 0) (h 50 0 9)) (tV (h 108 0) (h 50 0 9)) (tkP (h 108 0) (h 50 0 9)) (tkN (h 108 0) (h 50 0 9))).2.2 ≠ -1 → r = -100 - (rSZ (tT (h 108 0) (h 50 0 9)) (tV (h 108 0) (h 50 0 9)) (tkP (h 108 0) (h 50 0 9)) (tkN (h 108 0) (h 50 0 9))).2.2 ∧ h' 50 0 10 = h 50 0 10) ∧
  ((rSZ (tT (h 108 0) (h 50 0 9)) (tV (h 108 0) (h 50 0 9)) (tkP (h 108 0) (h 50 0 9)) (tkN (h 108 0) (h 50 0 9))).2.2 = -1 → r = h 50 0 10 ∧ h' 50 0 10 = h 50 0 10 + 1 ∧ ∀ q, 0 ≤ q → q < 3 → yPd h' (tT (h 108 0) (h 50 0 9)) (tV (h 108 0) (h 50 0 9)) (tkP (h 108 0) (h 50 0 9)) (tkN (h 108 0) (h 50 0 9)) (3 * h 50 0 10) q))
/-- the rule that came is the text that came -/
theorem rul_ok {P P8 : Nat → Int → Prop} {g g8 G h' : Nat → Int → Int → Int} {r0 r8 : Nat → Int → Int → Option (Nat × Int)} {n n8 : Nat → Int → Int} {t : Int} {T V p : Int → Int} {N : Int} (hN : T N = 0) (hN0 : 0 ≤ N) (hz : (rSZ T V p N).2.2 = -1) (hr : cRul P g r0 n t (rSZ T V p N).2.1 (rRo T V p N) P8 g8 r8 n8) (hG : ∀ f j, 600 ≤ f → f ≤ 603 → G f t j = g8 f t j)
    (hp : ∀ q, 0 ≤ q → q < 3 → yPd h' T V p N (3 * t) q) : cRu G n8 t (fun p nm => wVl h' (3 * t + p) nm) ∧ ∀ p, 0 ≤ p → p ≤ 2 → wRow1 h' (3 * t + p) := by
  have hz3 : (rSZ T V p N).2.1 = (rSk T V p N 3).2.1 := by
    show (rSZ T V p N).2.1 = (rS3 T V p N).2.1
    unfold rSZ rRef
    split
    · rfl
    · split <;> rfl
  have hl3 := rSk_l (V := V) (p := p) hN hN0
  obtain ⟨-, ⟨⟨q1, q2, q3, q4, q5⟩, -⟩, ⟨q6, q7, -⟩, -⟩ := hr
  rw [hz3] at q1 q2 q3 q5 q6
  obtain ⟨M0, a1, a2, a3, a4, a5, a6⟩ := hp 0 (by decide) (by decide)
  obtain ⟨M1, b1, b2, b3, b4, b5, b6⟩ := hp 1 (by decide) (by decide)
  obtain ⟨M2, c1, c2, c3, c4, c5, c6⟩ := hp 2 (by decide) (by decide)
  have a1 : (rSk T V p N 1).2.1 = [] ++ M0 := a1
  have b1 : (rSk T V p N 2).2.1 = (rSk T V p N 1).2.1 ++ M1 := b1
  have c1 : (rSk T V p N 3).2.1 = (rSk T V p N 2).2.1 ++ M2 := c1
  have d0 : (rSk T V p N 0).2.1.length = 0 := rfl
  have d1 : (rSk T V p N 1).2.1.length = M0.length := by rw [a1, List.nil_append]
  have d2 : (rSk T V p N 2).2.1.length = M0.length + M1.length := by rw [b1, List.length_append, d1]
  have d3 : (rSk T V p N 3).2.1.length = M0.length + M1.length + M2.length := by rw [c1, List.length_append, d2]
  rw [d0] at a3 a4
  rw [d1] at b3 b4
  rw [d2] at c3 c4
  have x0 : ∀ (k : Nat) y, M0[k]? = some y → (rSk T V p N 3).2.1[(0 + k : Nat)]? = some y := fun k y hy => by
    have hk := (List.getElem?_eq_some_iff.mp hy).1
    rw [c1, List.getElem?_append_left (by omega), b1, List.getElem?_append_left (by omega), a1, Nat.zero_add]
    exact hy
  have x1 : ∀ (k : Nat) y, M1[k]? = some y → (rSk T V p N 3).2.1[(M0.length + k : Nat)]? = some y := fun k y hy => by
    have hk := (List.getElem?_eq_some_iff.mp hy).1
    rw [c1, List.getElem?_append_left (by omega), b1, List.getElem?_append_right (by omega), d1, Nat.add_sub_cancel_left]
    exact hy
  have x2 : ∀ (k : Nat) y, M2[k]? = some y → (rSk T V p N 3).2.1[(M0.length + M1.length + k : Nat)]? = some y := fun k y hy => by
    rw [c1, List.getElem?_append_right (by omega), d2, Nat.add_sub_cancel_left]
    exact hy
  have key : ∀ (q : Int) (M : List (Int × Int × Int)) (b : Nat), 0 ≤ q → q < 3 → 1 ≤ M.length → wfx M b [] = some [(b : Int) + M.length - 1] → rRo T V p N q = (b : Int) + M.length - 1 → h' 113 0 (3 * t + q) = M.length → (∀ (k : Nat) x, M[k]? = some x → h' 112 0 (160 * (3 * t + q) + k) = cdN x) → (∀ (k : Nat) y, M[k]? = some y → (rSk T V p N 3).2.1[(b + k : Nat)]? = some y) → cFst (G 603 t) q = b → b + M.length ≤ (rSk T V p N 3).2.1.length →
      wRow1 h' (3 * t + q) ∧ cWf G n8 t q ∧ ∀ nm w0, cRe G t q nm w0 = wVl h' (3 * t + q) nm := by
    intro q M b z1 z2 z3 z4 z5 z6 z7 z8 z9 z10
    refine part_ok (b := (b : Int)) (M := M) (by omega) (by omega) z4 z3 (fun k x hx => ?_) z6 (by rw [hG 603 q (by decide) (by decide), q7 q z1 z2]; exact z5) z9 ⟨⟨q4, by rw [q2, q1], by rw [q3, q1], by rw [q5, q1], by omega⟩, by omega⟩
    have := q6 (b + k) x (z8 k x hx)
    rw [show ((b + k : Nat) : Int) = (b : Int) + k by omega] at this
    rw [hG 600 _ (by decide) (by decide), hG 601 _ (by decide) (by decide), hG 602 _ (by decide) (by decide)]
    exact ⟨z7 k x hx, this⟩
  have f0 : cFst (G 603 t) 0 = ((0 : Nat) : Int) := rfl
  have f1 : cFst (G 603 t) 1 = ((M0.length : Nat) : Int) := by
    show G 603 t (1 - 1) + 1 = _
    rw [hG 603 _ (by decide) (by decide), q7 (1 - 1) (by decide) (by decide)]
    show rRo T V p N 0 + 1 = _
    rw [a4]
    omega
  have f2 : cFst (G 603 t) 2 = ((M0.length + M1.length : Nat) : Int) := by
    show G 603 t (2 - 1) + 1 = _
    rw [hG 603 _ (by decide) (by decide), q7 (2 - 1) (by decide) (by decide)]
    show rRo T V p N 1 + 1 = _
    rw [b4]
    omega
  have k0 := key 0 M0 0 (by decide) (by decide) a2 a3 a4 a5 a6 x0 f0 (by omega)
  have k1 := key 1 M1 _ (by decide) (by decide) b2 b3 b4 b5 b6 x1 f1 (by omega)
  have k2 := key 2 M2 _ (by decide) (by decide) c2 c3 c4 c5 c6 x2 f2 (by omega)
  have all : ∀ q, 0 ≤ q → q ≤ 2 → wRow1 h' (3 * t + q) ∧ cWf G n8 t q ∧ ∀ nm w0, cRe G t q nm w0 = wVl h' (3 * t + q) nm := fun q z1 z2 => by
    have hq : q = 0 ∨ q = 1 ∨ q = 2 := by omega
    rcases hq with rfl | rfl | rfl
    · exact k0
    · exact k1
    · exact k2
  exact ⟨fun q z1 z2 => (all q z1 z2).2, fun q z1 z2 => (all q z1 z2).1⟩
