/-! ===== what changes the world of the class: the plank, an ant's traits, feed, sheets, cells ===== -/
/-- of the class alone -/
def TCl : Nat → Int → Int → Prop := fun f _ _ => f ≠ 50 ∧ (f < 100 ∨ 199 < f)
theorem TW_TCl {g' g : Nat → Int → Int → Int} (h : cFr TW g' g) : cFr TCl g' g := fun f o j w => h f o j (fun z => w (by unfold TCl; unfold TW TG at z; omega))
section CX
variable {P P' : Nat → Int → Prop} {r0 r0' : Nat → Int → Int → Option (Nat × Int)} {n n' : Nat → Int → Int} {g g' h h' : Nat → Int → Int → Int}
theorem wOs_mk (hs : wOs h) (kc : wCo h h') (k10 : h' 50 0 10 = h 50 0 10) (k11 : 0 ≤ h' 50 0 11 ∧ h' 50 0 11 < h 50 0 10) (kk : 2 ≤ h' 50 0 0 ∧ h' 50 0 0 ≤ 40) (kr : h' 50 0 1 = 0 ∨ h' 50 0 1 = 1) (ks : 0 ≤ h' 50 0 2 ∧ h' 50 0 2 ≤ 7)
    (ka : ∀ a, 0 ≤ a → a < h' 50 0 2 → (0 ≤ h' 103 0 a ∧ h' 103 0 a ≤ 5) ∧ (1 ≤ h' 104 0 a ∧ h' 104 0 a ≤ h' 50 0 0 - 1) ∧ (h' 105 0 a = 0 ∨ h' 105 0 a = 1) ∧ (0 ≤ h' 106 0 a ∧ h' 106 0 a ≤ 20) ∧ (0 ≤ h' 107 0 a ∧ h' 107 0 a ≤ 9)) : wOs h' :=
  ⟨kk, kr, ks, by rw [k10]; exact hs.2.2.2.1, by rw [k10]; exact k11, fun t p z1 z2 z3 z4 => wRow1_co kc (hs.2.2.2.2.2.1 t p z1 (by rw [← k10]; exact z2) z3 z4), ka⟩
/-- a change of what stands on the plank: what was found out of ways is forgotten -/
theorem cWd_st (hw : cWd P r0 n g h) (eP : ∀ f o, P f o → P' f o) (er : ∀ f o j, ¬ ((f = 200 ∧ h 50 0 2 ≤ j) ∨ f = 5 ∨ f = 500 ∨ f = 501 ∨ 999 < f) → r0' f o j = r0 f o j) (en : ∀ f o, ¬ (f = 5 ∨ f = 500 ∨ f = 501 ∨ 999 < f) → n' f o = n f o)
    (e : ∀ f o j, ¬ (f = 5 ∨ f = 500 ∨ (f = 501 ∧ h 50 0 2 ≤ o) ∨ 999 < f ∨ (f = 2 ∧ o = 0 ∧ (j = 1 ∨ j = 2 ∨ j = 3 ∨ j = 11))) → g' f o j = g f o j) (e11 : g' 2 0 11 = g 2 0 11 + 1)
    (k : ∀ f o j, ¬ ((f = 50 ∧ o = 0 ∧ 0 ≤ j ∧ j ≤ 2) ∨ (103 ≤ f ∧ f ≤ 107)) → h' f o j = h f o j) (k2 : h 50 0 2 ≤ h' 50 0 2)
    (hA : cAn P' r0' n' (g' 2 0 1)) (hP : cPl g' h' n') (hO : wOs h') : cWd P' r0' n' g' h' := by
  obtain ⟨⟨w1a, w1b, w1c⟩, w2, w3, ⟨w4a, w4b⟩, w5, w6, w7⟩ := hw
  have k' : ∀ f o j, f ≠ 50 → (f < 103 ∨ 107 < f) → h' f o j = h f o j := fun f o j z1 z2 => k f o j (by omega)
  have kj : ∀ j, (j < 0 ∨ 2 < j) → h' 50 0 j = h 50 0 j := fun j z => k 50 0 j (by omega)
  have kv : ∀ row nm, wVl h' row nm = wVl h row nm := fun row nm => wVl_co ⟨fun o j => k' 112 o j (by decide) (by decide), fun o j => k' 113 o j (by decide) (by decide)⟩
  refine ⟨⟨hA, hP, hO⟩, ?_, ?_, ⟨cMz_c (fun q => e 214 0 q (by omega)) (fun q => e 215 0 q (by omega)) w4a, cCa_f (fun q => e 210 0 q (by omega)) e11 w4b⟩, ?_, ?_, ?_⟩
  · unfold cLn at *
    rw [en 214 0 (by omega), en 215 0 (by omega), en 216 0 (by omega), en 209 0 (by omega), en 210 0 (by omega)]
    exact w2
  · obtain ⟨⟨⟨t1, t1p⟩, ⟨t2, t2p⟩, t3⟩, ⟨t4, t5, t6⟩, t7⟩ := w3
    refine ⟨⟨⟨(er 1 0 0 (by omega)).trans t1, eP _ _ t1p⟩, ⟨(er 1 0 1 (by omega)).trans t2, eP _ _ t2p⟩, (en 702 0 (by omega)).trans t3⟩, ⟨by rw [e 1 0 4 (by omega), kj 10 (by omega)]; exact t4, by rw [e 1 0 5 (by omega), kj 11 (by omega)]; exact t5, by rw [er 2 0 4 (by omega), kj 11 (by omega)]; exact t6⟩, fun t z1 z2 => ?_⟩
    rw [kj 10 (by omega)] at z2
    obtain ⟨⟨y1, y1p⟩, y2⟩ := t7 t z1 z2
    refine ⟨⟨(er 702 0 t (by omega)).trans y1, eP _ _ y1p⟩, ?_⟩
    simp only [kv]
    have y3 := cRu_c (g' := g') (fun f j x1 x2 => e f t j (by omega)) y2
    intro q q1 q2
    obtain ⟨⟨x1, x2, x3⟩, x4⟩ := y3 q q1 q2
    refine ⟨⟨?_, ?_, ?_⟩, x4⟩
    · rw [en 603 t (by omega), en 600 t (by omega), en 601 t (by omega), en 602 t (by omega), en 604 t (by omega)]
      exact x1
    · rw [en 600 t (by omega)]
      exact x2
    · rw [en 600 t (by omega)]
      exact x3
  · obtain ⟨s0, s1⟩ := w5
    refine ⟨(en 703 0 (by omega)).trans s0, fun s z1 z2 => ?_⟩
    obtain ⟨⟨q1, q1p⟩, q2, q3, q4, q5⟩ := s1 s z1 z2
    rw [en 402 s (by omega), e 4 s 0 (by omega), e 4 s 1 (by omega), k' 155 0 s (by decide) (by decide), k' 156 0 s (by decide) (by decide)]
    exact ⟨⟨(er 703 0 s (by omega)).trans q1, eP _ _ q1p⟩, q2, q3, q4, fun i y1 y2 => by rw [e 402 s i (by omega), k' 157 0 _ (by decide) (by decide)]; exact q5 i y1 y2⟩
  · unfold cIma at *
    rw [e 1 0 6 (by omega), e 1 0 7 (by omega), e 1 0 8 (by omega), e 1 0 9 (by omega), kj 46 (by omega), kj 47 (by omega), kj 48 (by omega), kj 49 (by omega), kj 50 (by omega), kj 10 (by omega)]
    rcases w6 with s | ⟨s1, s2, s3, s4⟩
    · exact Or.inl s
    · refine Or.inr ⟨s1, s2, by omega, fun a z1 z2 => ?_⟩
      rw [e 501 a 0 (by omega), e 501 a 1 (by omega), e 501 a 2 (by omega), e 501 a 3 (by omega), k' 151 0 a (by decide) (by decide), k' 152 0 a (by decide) (by decide), k' 153 0 a (by decide) (by decide), k' 154 0 a (by decide) (by decide)]
      exact s4 a z1 z2
  · obtain ⟨q1, q2, q3⟩ := w7
    refine ⟨?_, ?_, fun i z1 z2 => ?_⟩
    · rw [en 302 0 (by omega), en 303 0 (by omega), en 304 0 (by omega), en 305 0 (by omega), en 308 0 (by omega), en 309 0 (by omega), en 310 0 (by omega), en 311 0 (by omega)]
      exact q1
    · rw [e 3 0 0 (by omega), kj 9 (by omega)]
      exact q2
    · rw [kj 9 (by omega)] at z2
      rw [e 302 0 i (by omega), k' 108 0 i (by decide) (by decide)]
      exact q3 i z1 z2
theorem cWd_knots {v : Int} (hw : cWd P r0 n g h) (hv : 2 ≤ v ∧ v ≤ 40) (ha : ∀ a, 0 ≤ a → a < h 50 0 2 → h 104 0 a ≤ v - 1) : cWd P r0 n (ax_u3 (ax_u3 g 2 0 2 v) 2 0 11 (g 2 0 11 + 1)) (ax_u3 h 50 0 0 v) := by
  obtain ⟨w1, w2, w3⟩ := hw.1
  refine cWd_st hw (fun _ _ z => z) (fun _ _ _ _ => rfl) (fun _ _ _ => rfl) (fun f o j z => by rw [ax_u3_n (by omega), ax_u3_n (by omega)]) ax_u3_s (fun f o j z => ax_u3_n (by omega)) (Int.le_of_eq (ax_u3_n (by omega)).symm) w1 ?_ ?_
  · obtain ⟨⟨p1, p2, p3⟩, p4⟩ := w2
    exact ⟨⟨p1, rfl, p3⟩, p4⟩
  · refine wOs_mk w3 ⟨fun _ _ => rfl, fun _ _ => rfl⟩ rfl w3.2.2.2.2.1 hv w3.2.1 w3.2.2.1 (fun a z1 z2 => ?_)
    have h9 := w3.2.2.2.2.2.2 a z1 z2
    exact ⟨h9.1, ⟨h9.2.1.1, ha a z1 z2⟩, h9.2.2⟩
theorem cWd_ring {v : Int} (hw : cWd P r0 n g h) (hv : v = 0 ∨ v = 1) : cWd P r0 n (ax_u3 (ax_u3 g 2 0 3 v) 2 0 11 (g 2 0 11 + 1)) (ax_u3 h 50 0 1 v) := by
  obtain ⟨w1, w2, w3⟩ := hw.1
  refine cWd_st hw (fun _ _ z => z) (fun _ _ _ _ => rfl) (fun _ _ _ => rfl) (fun f o j z => by rw [ax_u3_n (by omega), ax_u3_n (by omega)]) ax_u3_s (fun f o j z => ax_u3_n (by omega)) (Int.le_of_eq (ax_u3_n (by omega)).symm) w1 ?_ ?_
  · obtain ⟨⟨p1, p2, p3⟩, p4⟩ := w2
    exact ⟨⟨p1, p2, rfl⟩, p4⟩
  · exact wOs_mk w3 ⟨fun _ _ => rfl, fun _ _ => rfl⟩ rfl w3.2.2.2.2.1 w3.1 hv w3.2.2.1 w3.2.2.2.2.2.2
def mSetM (h : Nat → Int → Int → Int) (a w v : Int) : Nat → Int → Int → Int := if w = 0 then ax_u3 h 104 0 a v else if w = 1 then ax_u3 h 105 0 a v else if w = 2 then ax_u3 h 106 0 a v else ax_u3 h 107 0 a v
theorem mSetM_o {a w v : Int} {f : Nat} {o j : Int} (hf : f < 104 ∨ 107 < f) : mSetM h a w v f o j = h f o j := by
  unfold mSetM
  repeat' split
  all_goals exact ax_u3_n (by omega)
theorem mSetM_n {a w v : Int} {f : Nat} {o j : Int} (hj : j ≠ a) : mSetM h a w v f o j = h f o j := by
  unfold mSetM
  repeat' split
  all_goals exact ax_u3_n (by omega)
theorem mSetM_a {a w v : Int} (hw : 0 ≤ w ∧ w ≤ 3) : mSetM h a w v 104 0 a = (if w = 0 then v else h 104 0 a) ∧ mSetM h a w v 105 0 a = (if w = 1 then v else h 105 0 a) ∧ mSetM h a w v 106 0 a = (if w = 2 then v else h 106 0 a) ∧ mSetM h a w v 107 0 a = (if w = 3 then v else h 107 0 a) := by
  have hw4 : w = 0 ∨ w = 1 ∨ w = 2 ∨ w = 3 := by omega
  rcases hw4 with rfl | rfl | rfl | rfl <;> simp [mSetM, ax_u3]
theorem cWd_set {a w v : Int} (hw : cWd P r0 n g h) (ha : 0 ≤ a ∧ a < h 50 0 2) (hw4 : 0 ≤ w ∧ w ≤ 3) (hv : (if w = 0 then 1 else 0) ≤ v ∧ v ≤ mMost h w) : cWd P r0 n (ax_u3 (ax_u3 g 500 a w v) 2 0 11 (g 2 0 11 + 1)) (mSetM h a w v) := by
  obtain ⟨w1, w2, w3⟩ := hw.1
  obtain ⟨m1, m2, m3, m4⟩ := mSetM_a (h := h) (a := a) (v := v) hw4
  refine cWd_st hw (fun _ _ z => z) (fun _ _ _ _ => rfl) (fun _ _ _ => rfl) (fun f o j z => by rw [ax_u3_n (by omega), ax_u3_n (by omega)]) ax_u3_s (fun f o j z => mSetM_o (by omega)) (Int.le_of_eq (mSetM_o (by decide)).symm) w1 ?_ ?_
  · obtain ⟨⟨p1, p2, p3⟩, p4⟩ := w2
    refine ⟨⟨p1.trans (mSetM_o (by decide)).symm, p2.trans (mSetM_o (by decide)).symm, p3.trans (mSetM_o (by decide)).symm⟩, fun b z1 z2 => ?_⟩
    rw [mSetM_o (by decide)] at z2
    obtain ⟨q0, q1, q2, q3, q4⟩ := p4 b z1 z2
    by_cases c : b = a
    · subst c
      rw [m1, m2, m3, m4, mSetM_o (by decide)]
      have e : ∀ j, ax_u3 (ax_u3 g 500 b w v) 2 0 11 (g 2 0 11 + 1) 500 b j = if w = j then v else g 500 b j := fun j => by
        rw [ax_u3_n (by omega)]
        by_cases y : w = j
        · rw [if_pos y, y, ax_u3_s]
        · rw [if_neg y, ax_u3_n (by omega)]
      rw [e, e, e, e, q0, q1, q2, q3]
      exact ⟨rfl, rfl, rfl, rfl, q4⟩
    · have e : ∀ j, ax_u3 (ax_u3 g 500 a w v) 2 0 11 (g 2 0 11 + 1) 500 b j = g 500 b j := fun j => by rw [ax_u3_n (by omega), ax_u3_n (by omega)]
      rw [e, e, e, e, mSetM_n c, mSetM_n c, mSetM_n c, mSetM_n c, mSetM_n c]
      exact ⟨q0, q1, q2, q3, q4⟩
  · have e := fun (f : Nat) (o j : Int) (z : f < 104 ∨ 107 < f) => mSetM_o (h := h) (a := a) (w := w) (v := v) (o := o) (j := j) z
    refine wOs_mk w3 ⟨fun o j => e 112 o j (by decide), fun o j => e 113 o j (by decide)⟩ (e 50 0 10 (by decide)) (by rw [e 50 0 11 (by decide)]; exact w3.2.2.2.2.1) (by rw [e 50 0 0 (by decide)]; exact w3.1) (by rw [e 50 0 1 (by decide)]; exact w3.2.1) (by rw [e 50 0 2 (by decide)]; exact w3.2.2.1) (fun b z1 z2 => ?_)
    rw [e 50 0 2 (by decide)] at z2
    have h9 := w3.2.2.2.2.2.2 b z1 z2
    rw [e 50 0 0 (by decide), e 103 0 b (by decide)]
    by_cases c : b = a
    · subst c
      rw [m1, m2, m3, m4]
      unfold mMost at hv
      have hw5 : w = 0 ∨ w = 1 ∨ w = 2 ∨ w = 3 := by omega
      rcases hw5 with rfl | rfl | rfl | rfl
      · rw [if_pos rfl] at hv
        simp at hv ⊢
        omega
      · simp at hv ⊢
        omega
      · simp at hv ⊢
        omega
      · simp at hv ⊢
        omega
    · rw [mSetM_n c, mSetM_n c, mSetM_n c, mSetM_n c]
      exact h9
/-- rows of codes below a count, the same -/
def wRws (h' h : Nat → Int → Int → Int) (m : Int) : Prop := ∀ row, 0 ≤ row → row < 3 * m → h' 113 0 row = h 113 0 row ∧ ∀ k, 0 ≤ k → k < 160 → h' 112 0 (160 * row + k) = h 112 0 (160 * row + k)
theorem wRow_cr {row : Int} (hr : 0 ≤ h 113 0 row ∧ h 113 0 row ≤ 160) (e : h' 113 0 row = h 113 0 row) (ek : ∀ k, 0 ≤ k → k < 160 → h' 112 0 (160 * row + k) = h 112 0 (160 * row + k)) : ∀ (nm s0 : Int → Int) (k : Int), k ≤ h 113 0 row → wEvS (wCd h' row) nm s0 k = wEvS (wCd h row) nm s0 k := fun nm s0 k hk => by
  unfold wEvS
  refine wFI_c fun j s z1 z2 => ?_
  unfold wCd
  rw [ek j z1 (by omega)]
theorem wRow1_cr {row : Int} (e : h' 113 0 row = h 113 0 row) (ek : ∀ k, 0 ≤ k → k < 160 → h' 112 0 (160 * row + k) = h 112 0 (160 * row + k)) (hr : wRow1 h row) : wRow1 h' row := by
  obtain ⟨⟨h1, h2⟩, h3⟩ := hr
  have key := wRow_cr (h := h) (h' := h') h1 e ek
  refine ⟨⟨by rw [e]; exact h1, fun nm s0 k z1 z2 => ?_⟩, fun nm s0 => ?_⟩
  · rw [e] at z2
    rw [key nm s0 k (by omega), show wCd h' row k = wCd h row k from ek k z1 (by omega)]
    exact h2 nm s0 k z1 z2
  · rw [e, key nm s0 _ (Int.le_refl _)]
    exact h3 nm s0
theorem wVl_cr {row : Int} {nm : Int → Int} (e : h' 113 0 row = h 113 0 row) (ek : ∀ k, 0 ≤ k → k < 160 → h' 112 0 (160 * row + k) = h 112 0 (160 * row + k)) (hr : wRow1 h row) : wVl h' row nm = wVl h row nm := by
  unfold wVl
  rw [e, wRow_cr (h := h) (h' := h') hr.1.1 e ek nm _ _ (Int.le_refl _)]
/-- a change of the tape, of what reads it, and of codes that are no text's yet -/
theorem cWd_tp (hw : cWd P r0 n g h) (e : ∀ f o j, ¬ (f = 3 ∨ (302 ≤ f ∧ f ≤ 311)) → g' f o j = g f o j) (kf : ∀ f, (102 < f ∧ f < 108) ∨ (150 < f ∧ f < 158) → h' f = h f) (kj : ∀ j, (0 ≤ j ∧ j ≤ 2) ∨ j = 10 ∨ j = 11 ∨ (46 ≤ j ∧ j ≤ 50) → h' 50 0 j = h 50 0 j) (kr : wRws h' h (h 50 0 10)) (hT : cTap n g' h') : cWd P r0 n g' h' := by
  obtain ⟨⟨w1a, w1b, w1c⟩, w2, w3, ⟨w4a, w4b⟩, w5, w6, w7⟩ := hw
  have hrow : ∀ t q, 0 ≤ t → t < h 50 0 10 → 0 ≤ q → q ≤ 2 → wRow1 h (3 * t + q) := w1c.2.2.2.2.2.1
  have k10 := kj 10 (by omega)
  have k11 := kj 11 (by omega)
  have hv : ∀ t q nm, 0 ≤ t → t < h 50 0 10 → 0 ≤ q → q ≤ 2 → wVl h' (3 * t + q) nm = wVl h (3 * t + q) nm := fun t q nm z1 z2 z3 z4 => wVl_cr (kr _ (by omega) (by omega)).1 (kr _ (by omega) (by omega)).2 (hrow t q z1 z2 z3 z4)
  have hO : wOs h' := by
    unfold wOs
    rw [kj 0 (by omega), kj 1 (by omega), kj 2 (by omega), k10, k11, kf 103 (by decide), kf 104 (by decide), kf 105 (by decide), kf 106 (by decide), kf 107 (by decide)]
    exact ⟨w1c.1, w1c.2.1, w1c.2.2.1, w1c.2.2.2.1, w1c.2.2.2.2.1, fun t q z1 z2 z3 z4 => wRow1_cr (kr _ (by omega) (by omega)).1 (kr _ (by omega) (by omega)).2 (hrow t q z1 z2 z3 z4), w1c.2.2.2.2.2.2⟩
  have hru := w1c.2.2.2.2.1
  refine ⟨⟨by rw [e 2 0 1 (by omega)]; exact w1a, ?_, hO⟩, w2, ?_, ⟨cMz_c (fun q => e 214 0 q (by omega)) (fun q => e 215 0 q (by omega)) w4a, cCa_k (fun q => e 209 0 q (by omega)) (fun q => e 210 0 q (by omega)) (e 2 0 11 (by omega)) ⟨⟨fun f z1 z2 => kf f (by omega), fun j z1 z2 => kj j (by omega)⟩, fun q nm z1 z2 => by rw [k11]; exact hv _ q nm hru.1 hru.2 z1 z2⟩ w4b⟩, ?_, ?_, hT⟩
  · unfold cPl
    rw [e 2 0 1 (by omega), e 2 0 2 (by omega), e 2 0 3 (by omega), kj 0 (by omega), kj 1 (by omega), kj 2 (by omega), kf 103 (by decide), kf 104 (by decide), kf 105 (by decide), kf 106 (by decide), kf 107 (by decide)]
    exact ⟨w1b.1, fun a z1 z2 => by rw [e 500 a 0 (by omega), e 500 a 1 (by omega), e 500 a 2 (by omega), e 500 a 3 (by omega)]; exact w1b.2 a z1 z2⟩
  · obtain ⟨t1, ⟨t4, t5, t6⟩, t7⟩ := w3
    refine ⟨t1, ⟨by rw [e 1 0 4 (by omega), k10]; exact t4, by rw [e 1 0 5 (by omega), k11]; exact t5, by rw [k11]; exact t6⟩, fun t z1 z2 => ?_⟩
    rw [k10] at z2
    obtain ⟨y1, y2⟩ := t7 t z1 z2
    refine ⟨y1, ?_⟩
    have y3 := cRu_c (g' := g') (fun f j x1 x2 => e f t j (by omega)) y2
    exact fun q q1 q2 => ⟨(y3 q q1 q2).1, fun nm w0 => by show _ = wVl h' (3 * t + q) nm; rw [hv t q nm z1 z2 q1 q2]; exact (y3 q q1 q2).2 nm w0⟩
  · exact cShe_c (fun s j => e 4 s j (by omega)) (fun s j => e 402 s j (by omega)) (fun s => by rw [kf 155 (by decide)]) (fun s => by rw [kf 156 (by decide)]) (fun s => by rw [kf 157 (by decide)]) w5
  · exact cIma_c (fun j z1 z2 => e 1 0 j (by omega)) (fun a j => e 501 a j (by omega)) (fun j z1 z2 => kj j (by omega)) (Int.le_of_eq (kj 2 (by omega)).symm) (Int.le_of_eq k10.symm) (fun f a z1 z2 => by rw [kf f (by omega)]) w6
theorem cWd_feed {x : Int} (hw : cWd P r0 n g h) (hx : 0 ≤ x ∧ x ≤ 255) (ht : g 3 0 0 < 160) : cWd P r0 n (ax_u3 (ax_u3 g 302 0 (g 3 0 0) x) 3 0 0 (g 3 0 0 + 1)) (ax_u3 (ax_u3 h 108 0 (h 50 0 9) x) 50 0 9 (h 50 0 9 + 1)) := by
  obtain ⟨q1, ⟨q2, q3⟩, q4⟩ := hw.2.2.2.2.2.2
  refine cWd_tp hw (fun f o j z => by rw [ax_u3_n (by omega), ax_u3_n (by omega)]) (fun f z => funext fun o => funext fun j => by rw [ax_u3_n (by omega), ax_u3_n (by omega)]) (fun j z => by rw [ax_u3_n (by omega), ax_u3_n (by omega)]) (fun row z1 z2 => ⟨by rw [ax_u3_n (by omega), ax_u3_n (by omega)], fun k y1 y2 => by rw [ax_u3_n (by omega), ax_u3_n (by omega)]⟩) ⟨q1, ?_, fun i z1 z2 => ?_⟩
  · rw [ax_u3_s, ax_u3_s]
    omega
  · rw [ax_u3_s] at z2
    have e1 : ax_u3 (ax_u3 g 302 0 (g 3 0 0) x) 3 0 0 (g 3 0 0 + 1) 302 0 i = ax_u3 g 302 0 (g 3 0 0) x 302 0 i := ax_u3_n (by omega)
    have e2 : ax_u3 (ax_u3 h 108 0 (h 50 0 9) x) 50 0 9 (h 50 0 9 + 1) 108 0 i = ax_u3 h 108 0 (h 50 0 9) x 108 0 i := ax_u3_n (by omega)
    rw [e1, e2, q2]
    by_cases c : i = h 50 0 9
    · rw [c, ax_u3_s, ax_u3_s]
      exact ⟨rfl, hx⟩
    · rw [ax_u3_n (by omega), ax_u3_n (by omega)]
      exact q4 i z1 (by omega)
/-- a change of sheets alone -/
theorem cWd_sh (hw : cWd P r0 n g h) (e : ∀ f o j, ¬ (f = 4 ∨ f = 402) → g' f o j = g f o j) (k : ∀ f o j, ¬ (154 < f ∧ f < 159) → h' f o j = h f o j) (hS : cShe P r0 n g' h') : cWd P r0 n g' h' := by
  obtain ⟨⟨w1a, w1b, w1c⟩, w2, w3, ⟨w4a, w4b⟩, w5, w6, w7⟩ := hw
  have kf : ∀ f, ¬ (154 < f ∧ f < 159) → h' f = h f := fun f z => funext fun o => funext fun j => k f o j z
  have kv : ∀ row nm, wVl h' row nm = wVl h row nm := fun row nm => wVl_co ⟨fun o j => k 112 o j (by omega), fun o j => k 113 o j (by omega)⟩
  refine ⟨⟨by rw [e 2 0 1 (by omega)]; exact w1a, ?_, ?_⟩, w2, cTop_c (e 1 0 4 (by omega)) (e 1 0 5 (by omega)) (fun f t j z1 z2 => e f t j (by omega)) (k 50 0 10 (by omega)) (k 50 0 11 (by omega)) kv w3, ⟨cMz_c (fun q => e 214 0 q (by omega)) (fun q => e 215 0 q (by omega)) w4a, cCa_k (fun q => e 209 0 q (by omega)) (fun q => e 210 0 q (by omega)) (e 2 0 11 (by omega)) ⟨⟨fun f z1 z2 => kf f (by omega), fun j z1 z2 => k 50 0 j (by omega)⟩, fun q nm z1 z2 => by rw [k 50 0 11 (by omega)]; exact kv _ _⟩ w4b⟩, hS, ?_, cTap_c (e 3 0 0 (by omega)) (fun i => e 302 0 i (by omega)) (k 50 0 9 (by omega)) (fun i => k 108 0 i (by omega)) w7⟩
  · unfold cPl
    rw [e 2 0 1 (by omega), e 2 0 2 (by omega), e 2 0 3 (by omega), kf 50 (by omega), kf 103 (by decide), kf 104 (by decide), kf 105 (by decide), kf 106 (by decide), kf 107 (by decide)]
    exact ⟨w1b.1, fun a z1 z2 => by rw [e 500 a 0 (by omega), e 500 a 1 (by omega), e 500 a 2 (by omega), e 500 a 3 (by omega)]; exact w1b.2 a z1 z2⟩
  · exact wOs_mk w1c ⟨fun o j => k 112 o j (by omega), fun o j => k 113 o j (by omega)⟩ (k 50 0 10 (by omega)) (by rw [k 50 0 11 (by omega)]; exact w1c.2.2.2.2.1) (by rw [k 50 0 0 (by omega)]; exact w1c.1) (by rw [k 50 0 1 (by omega)]; exact w1c.2.1) (by rw [k 50 0 2 (by omega)]; exact w1c.2.2.1) (by rw [kf 50 (by omega), kf 103 (by omega), kf 104 (by omega), kf 105 (by omega), kf 106 (by omega), kf 107 (by omega)]; exact w1c.2.2.2.2.2.2)
  · exact cIma_c (fun j z1 z2 => e 1 0 j (by omega)) (fun a j => e 501 a j (by omega)) (fun j z1 z2 => k 50 0 j (by omega)) (Int.le_of_eq (k 50 0 2 (by omega)).symm) (Int.le_of_eq (k 50 0 10 (by omega)).symm) (fun f a z1 z2 => by rw [kf f (by omega)]) w6
end CX
set_option maxRecDepth 100000 in
set_option maxHeartbeats 4000000 in
theorem cp_isAllowed (w v : Int) (P : Nat → Int → Prop) (g : Nat → Int → Int → Int) (r0 : Nat → Int → Int → Option (Nat × Int)) (n : Nat → Int → Int) (hb : r0 1 0 0 = some (2, 0) ∧ P 2 0) (hk : 2 ≤ g 2 0 2 ∧ g 2 0 2 ≤ 40) : ax_S yX10_isAllowed cX10_isAllowed 3 (some FieldType.boolean) 0 0 0 [.inr (.inr (some (1, 0))), .inl w, .inl v] (P, g, r0, n) (fun r M' => r = some (.inl (bI ((if w = 0 then 1 else 0) ≤ v ∧ v ≤ (if w = 0 then g 2 0 2 - 1 else if w = 1 then 1 else if w = 2 then 20 else 9)))) ∧ M' = (P, g, r0, n)) := by
  refine ax_S_of (own := 10) (by decide) rfl (fun h => absurd h (by decide)) rfl (Nat.le_of_ble_eq_true rfl) ?_
  change ax_J _ _ _ _ _ _ _ _ _ _ [some (.inr (.inr (some (1, 0)))), some (.inl w), some (.inl v)] _ _
  refine aj_run (C := True) (pc' := 1) (la' := [some (.inr (.inr (some (1, 0)))), some (.inl w), some (.inl v)]) (st' := [.inl w]) (M' := (P, g, r0, n)) ok_X10_isAllowed true 1 rfl trivial ?_
  by_cases s1 : w = 0
  · refine aj_tsw (tgt := 28) (ax_dec2 (i := .tableswitch 82 0 2 #[27, 51, 66]) (n := 27) ok_X10_isAllowed rfl) (by decide) (by rw [s1]; decide) ?_
    refine aj_run (C := True) (pc' := 30) (la' := [some (.inr (.inr (some (1, 0)))), some (.inl w), some (.inl v)]) (st' := [.inl 1, .inl v]) (M' := (P, g, r0, n)) ok_X10_isAllowed true 2 rfl trivial ?_
    refine aj_icmp_lt (tgt := 50) (ax_dec2 (i := .if_icmp .lt 20) (n := 3) ok_X10_isAllowed rfl) (by decide) (fun c2 => ?_) (fun c2 => ?_)
    · refine aj_run (C := True) (pc' := 51) (la' := [some (.inr (.inr (some (1, 0)))), some (.inl w), some (.inl v)]) (st' := [.inl 0]) (M' := (P, g, r0, n)) ok_X10_isAllowed true 1 rfl trivial ?_
      refine aj_ret (r := some (.inl 0)) (ax_dec2 (i := .ireturn) (n := 1) ok_X10_isAllowed rfl) ⟨?_, ?_, by decide, by decide⟩ rfl
      · (have hz0 : (if w = 0 then (1 : Int) else 0) = (if w = 0 then 1 else 0) := rfl; first | exact ⟨ax_si (by (repeat first | rw [if_pos (by omega)] | rw [if_neg (by omega)] | rw [bI_t (by omega)] | rw [bI_f (by omega)]); try first | rfl | omega), rfl⟩)
      · exact ax_ro_b (by decide)
    · refine aj_run (C := True) (pc' := 35) (la' := [some (.inr (.inr (some (1, 0)))), some (.inl w), some (.inl v)]) (st' := [.inr (.inr (some (1, 0))), .inl v]) (M' := (P, g, r0, n)) ok_X10_isAllowed true 2 rfl trivial ?_
      refine aj_getR (f := 1) (k := 0) (g := 2) (o := 0) (u := 0) (ax_lk_ok (q := (1, 0)) rfl) rfl rfl hb.1 hb.2 (ax_dec2 (i := .getfield 10) (n := 3) ok_X10_isAllowed rfl) ?_
      refine aj_run (C := (-2147483648 ≤ (g 2 0 2) - 1 ∧ (g 2 0 2) - 1 ≤ 2147483647) ∧ True) (pc' := 43) (la' := [some (.inr (.inr (some (1, 0)))), some (.inl w), some (.inl v)]) (st' := [.inl ((g 2 0 2) - 1), .inl v]) (M' := (P, g, r0, n)) ok_X10_isAllowed true 3 rfl (by refine ⟨?_, trivial⟩ <;> (omega)) ?_
      refine aj_icmp_gt (tgt := 50) (ax_dec2 (i := .if_icmp .gt 7) (n := 3) ok_X10_isAllowed rfl) (by decide) (fun c3 => ?_) (fun c3 => ?_)
      · refine aj_run (C := True) (pc' := 51) (la' := [some (.inr (.inr (some (1, 0)))), some (.inl w), some (.inl v)]) (st' := [.inl 0]) (M' := (P, g, r0, n)) ok_X10_isAllowed true 1 rfl trivial ?_
        refine aj_ret (r := some (.inl 0)) (ax_dec2 (i := .ireturn) (n := 1) ok_X10_isAllowed rfl) ⟨?_, ?_, by decide, by decide⟩ rfl
        · (have hz0 : (if w = 0 then (1 : Int) else 0) = (if w = 0 then 1 else 0) := rfl; first | exact ⟨ax_si (by (repeat first | rw [if_pos (by omega)] | rw [if_neg (by omega)] | rw [bI_t (by omega)] | rw [bI_f (by omega)]); try first | rfl | omega), rfl⟩)
        · exact ax_ro_b (by decide)
      · refine aj_run (C := True) (pc' := 51) (la' := [some (.inr (.inr (some (1, 0)))), some (.inl w), some (.inl v)]) (st' := [.inl 1]) (M' := (P, g, r0, n)) ok_X10_isAllowed true 2 rfl trivial ?_
        refine aj_ret (r := some (.inl 1)) (ax_dec2 (i := .ireturn) (n := 1) ok_X10_isAllowed rfl) ⟨?_, ?_, by decide, by decide⟩ rfl
        · (have hz0 : (if w = 0 then (1 : Int) else 0) = (if w = 0 then 1 else 0) := rfl; first | exact ⟨ax_si (by (repeat first | rw [if_pos (by omega)] | rw [if_neg (by omega)] | rw [bI_t (by omega)] | rw [bI_f (by omega)]); try first | rfl | omega), rfl⟩)
        · exact ax_ro_b (by decide)
  by_cases s4 : w = 1
  · refine aj_tsw (tgt := 52) (ax_dec2 (i := .tableswitch 82 0 2 #[27, 51, 66]) (n := 27) ok_X10_isAllowed rfl) (by decide) (by rw [s4]; decide) ?_
    refine aj_run (C := True) (pc' := 53) (la' := [some (.inr (.inr (some (1, 0)))), some (.inl w), some (.inl v)]) (st' := [.inl v]) (M' := (P, g, r0, n)) ok_X10_isAllowed true 1 rfl trivial ?_
    refine aj_if_lt (tgt := 65) (ax_dec2 (i := .ifCond .lt 12) (n := 3) ok_X10_isAllowed rfl) (by decide) (fun c5 => ?_) (fun c5 => ?_)
    · refine aj_run (C := True) (pc' := 66) (la' := [some (.inr (.inr (some (1, 0)))), some (.inl w), some (.inl v)]) (st' := [.inl 0]) (M' := (P, g, r0, n)) ok_X10_isAllowed true 1 rfl trivial ?_
      refine aj_ret (r := some (.inl 0)) (ax_dec2 (i := .ireturn) (n := 1) ok_X10_isAllowed rfl) ⟨?_, ?_, by decide, by decide⟩ rfl
      · (have hz0 : (if w = 0 then (1 : Int) else 0) = (if w = 0 then 1 else 0) := rfl; first | exact ⟨ax_si (by (repeat first | rw [if_pos (by omega)] | rw [if_neg (by omega)] | rw [bI_t (by omega)] | rw [bI_f (by omega)]); try first | rfl | omega), rfl⟩)
      · exact ax_ro_b (by decide)
    · refine aj_run (C := True) (pc' := 58) (la' := [some (.inr (.inr (some (1, 0)))), some (.inl w), some (.inl v)]) (st' := [.inl 1, .inl v]) (M' := (P, g, r0, n)) ok_X10_isAllowed true 2 rfl trivial ?_
      refine aj_icmp_gt (tgt := 65) (ax_dec2 (i := .if_icmp .gt 7) (n := 3) ok_X10_isAllowed rfl) (by decide) (fun c6 => ?_) (fun c6 => ?_)
      · refine aj_run (C := True) (pc' := 66) (la' := [some (.inr (.inr (some (1, 0)))), some (.inl w), some (.inl v)]) (st' := [.inl 0]) (M' := (P, g, r0, n)) ok_X10_isAllowed true 1 rfl trivial ?_
        refine aj_ret (r := some (.inl 0)) (ax_dec2 (i := .ireturn) (n := 1) ok_X10_isAllowed rfl) ⟨?_, ?_, by decide, by decide⟩ rfl
        · (have hz0 : (if w = 0 then (1 : Int) else 0) = (if w = 0 then 1 else 0) := rfl; first | exact ⟨ax_si (by (repeat first | rw [if_pos (by omega)] | rw [if_neg (by omega)] | rw [bI_t (by omega)] | rw [bI_f (by omega)]); try first | rfl | omega), rfl⟩)
        · exact ax_ro_b (by decide)
      · refine aj_run (C := True) (pc' := 66) (la' := [some (.inr (.inr (some (1, 0)))), some (.inl w), some (.inl v)]) (st' := [.inl 1]) (M' := (P, g, r0, n)) ok_X10_isAllowed true 2 rfl trivial ?_
        refine aj_ret (r := some (.inl 1)) (ax_dec2 (i := .ireturn) (n := 1) ok_X10_isAllowed rfl) ⟨?_, ?_, by decide, by decide⟩ rfl
        · (have hz0 : (if w = 0 then (1 : Int) else 0) = (if w = 0 then 1 else 0) := rfl; first | exact ⟨ax_si (by (repeat first | rw [if_pos (by omega)] | rw [if_neg (by omega)] | rw [bI_t (by omega)] | rw [bI_f (by omega)]); try first | rfl | omega), rfl⟩)
        · exact ax_ro_b (by decide)
  by_cases s7 : w = 2
  · refine aj_tsw (tgt := 67) (ax_dec2 (i := .tableswitch 82 0 2 #[27, 51, 66]) (n := 27) ok_X10_isAllowed rfl) (by decide) (by rw [s7]; decide) ?_
    refine aj_run (C := True) (pc' := 68) (la' := [some (.inr (.inr (some (1, 0)))), some (.inl w), some (.inl v)]) (st' := [.inl v]) (M' := (P, g, r0, n)) ok_X10_isAllowed true 1 rfl trivial ?_
    refine aj_if_lt (tgt := 81) (ax_dec2 (i := .ifCond .lt 13) (n := 3) ok_X10_isAllowed rfl) (by decide) (fun c8 => ?_) (fun c8 => ?_)
    · refine aj_run (C := True) (pc' := 82) (la' := [some (.inr (.inr (some (1, 0)))), some (.inl w), some (.inl v)]) (st' := [.inl 0]) (M' := (P, g, r0, n)) ok_X10_isAllowed true 1 rfl trivial ?_
      refine aj_ret (r := some (.inl 0)) (ax_dec2 (i := .ireturn) (n := 1) ok_X10_isAllowed rfl) ⟨?_, ?_, by decide, by decide⟩ rfl
      · (have hz0 : (if w = 0 then (1 : Int) else 0) = (if w = 0 then 1 else 0) := rfl; first | exact ⟨ax_si (by (repeat first | rw [if_pos (by omega)] | rw [if_neg (by omega)] | rw [bI_t (by omega)] | rw [bI_f (by omega)]); try first | rfl | omega), rfl⟩)
      · exact ax_ro_b (by decide)
    · refine aj_run (C := True) (pc' := 74) (la' := [some (.inr (.inr (some (1, 0)))), some (.inl w), some (.inl v)]) (st' := [.inl 20, .inl v]) (M' := (P, g, r0, n)) ok_X10_isAllowed true 2 rfl trivial ?_
      refine aj_icmp_gt (tgt := 81) (ax_dec2 (i := .if_icmp .gt 7) (n := 3) ok_X10_isAllowed rfl) (by decide) (fun c9 => ?_) (fun c9 => ?_)
      · refine aj_run (C := True) (pc' := 82) (la' := [some (.inr (.inr (some (1, 0)))), some (.inl w), some (.inl v)]) (st' := [.inl 0]) (M' := (P, g, r0, n)) ok_X10_isAllowed true 1 rfl trivial ?_
        refine aj_ret (r := some (.inl 0)) (ax_dec2 (i := .ireturn) (n := 1) ok_X10_isAllowed rfl) ⟨?_, ?_, by decide, by decide⟩ rfl
        · (have hz0 : (if w = 0 then (1 : Int) else 0) = (if w = 0 then 1 else 0) := rfl; first | exact ⟨ax_si (by (repeat first | rw [if_pos (by omega)] | rw [if_neg (by omega)] | rw [bI_t (by omega)] | rw [bI_f (by omega)]); try first | rfl | omega), rfl⟩)
        · exact ax_ro_b (by decide)
      · refine aj_run (C := True) (pc' := 82) (la' := [some (.inr (.inr (some (1, 0)))), some (.inl w), some (.inl v)]) (st' := [.inl 1]) (M' := (P, g, r0, n)) ok_X10_isAllowed true 2 rfl trivial ?_
        refine aj_ret (r := some (.inl 1)) (ax_dec2 (i := .ireturn) (n := 1) ok_X10_isAllowed rfl) ⟨?_, ?_, by decide, by decide⟩ rfl
        · (have hz0 : (if w = 0 then (1 : Int) else 0) = (if w = 0 then 1 else 0) := rfl; first | exact ⟨ax_si (by (repeat first | rw [if_pos (by omega)] | rw [if_neg (by omega)] | rw [bI_t (by omega)] | rw [bI_f (by omega)]); try first | rfl | omega), rfl⟩)
        · exact ax_ro_b (by decide)
  refine aj_tsw (tgt := 83) (ax_dec2 (i := .tableswitch 82 0 2 #[27, 51, 66]) (n := 27) ok_X10_isAllowed rfl) (by decide) (by rw [ax_tsw_d w (by decide) (by decide) (by omega)]; decide) ?_
  refine aj_run (C := True) (pc' := 84) (la' := [some (.inr (.inr (some (1, 0)))), some (.inl w), some (.inl v)]) (st' := [.inl v]) (M' := (P, g, r0, n)) ok_X10_isAllowed true 1 rfl trivial ?_
  refine aj_if_lt (tgt := 97) (ax_dec2 (i := .ifCond .lt 13) (n := 3) ok_X10_isAllowed rfl) (by decide) (fun c10 => ?_) (fun c10 => ?_)
  · refine aj_run (C := True) (pc' := 98) (la' := [some (.inr (.inr (some (1, 0)))), some (.inl w), some (.inl v)]) (st' := [.inl 0]) (M' := (P, g, r0, n)) ok_X10_isAllowed true 1 rfl trivial ?_
    refine aj_ret (r := some (.inl 0)) (ax_dec2 (i := .ireturn) (n := 1) ok_X10_isAllowed rfl) ⟨?_, ?_, by decide, by decide⟩ rfl
    · (have hz0 : (if w = 0 then (1 : Int) else 0) = (if w = 0 then 1 else 0) := rfl; first | exact ⟨ax_si (by (repeat first | rw [if_pos (by omega)] | rw [if_neg (by omega)] | rw [bI_t (by omega)] | rw [bI_f (by omega)]); try first | rfl | omega), rfl⟩)
    · exact ax_ro_b (by decide)
  · refine aj_run (C := True) (pc' := 90) (la' := [some (.inr (.inr (some (1, 0)))), some (.inl w), some (.inl v)]) (st' := [.inl 9, .inl v]) (M' := (P, g, r0, n)) ok_X10_isAllowed true 2 rfl trivial ?_
    refine aj_icmp_gt (tgt := 97) (ax_dec2 (i := .if_icmp .gt 7) (n := 3) ok_X10_isAllowed rfl) (by decide) (fun c11 => ?_) (fun c11 => ?_)
    · refine aj_run (C := True) (pc' := 98) (la' := [some (.inr (.inr (some (1, 0)))), some (.inl w), some (.inl v)]) (st' := [.inl 0]) (M' := (P, g, r0, n)) ok_X10_isAllowed true 1 rfl trivial ?_
      refine aj_ret (r := some (.inl 0)) (ax_dec2 (i := .ireturn) (n := 1) ok_X10_isAllowed rfl) ⟨?_, ?_, by decide, by decide⟩ rfl
      · (have hz0 : (if w = 0 then (1 : Int) else 0) = (if w = 0 then 1 else 0) := rfl; first | exact ⟨ax_si (by (repeat first | rw [if_pos (by omega)] | rw [if_neg (by omega)] | rw [bI_t (by omega)] | rw [bI_f (by omega)]); try first | rfl | omega), rfl⟩)
      · exact ax_ro_b (by decide)
    · refine aj_run (C := True) (pc' := 98) (la' := [some (.inr (.inr (some (1, 0)))), some (.inl w), some (.inl v)]) (st' := [.inl 1]) (M' := (P, g, r0, n)) ok_X10_isAllowed true 2 rfl trivial ?_
      refine aj_ret (r := some (.inl 1)) (ax_dec2 (i := .ireturn) (n := 1) ok_X10_isAllowed rfl) ⟨?_, ?_, by decide, by decide⟩ rfl
      · (have hz0 : (if w = 0 then (1 : Int) else 0) = (if w = 0 then 1 else 0) := rfl; first | exact ⟨ax_si (by (repeat first | rw [if_pos (by omega)] | rw [if_neg (by omega)] | rw [bI_t (by omega)] | rw [bI_f (by omega)]); try first | rfl | omega), rfl⟩)
      · exact ax_ro_b (by decide)

