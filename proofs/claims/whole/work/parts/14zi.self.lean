/-! ===== the world of a memory that is its own reference ===== -/
section CQ
variable {P : Nat → Int → Prop} {r0 : Nat → Int → Int → Option (Nat × Int)} {n : Nat → Int → Int} {g g' h h' : Nat → Int → Int → Int}
theorem cWd_tq (hw : cWd P r0 n g h) (e : ∀ f o j, (f < 50 ∨ 199 < f) ∧ ¬ (f = 3 ∨ (302 ≤ f ∧ f ≤ 311)) → g' f o j = g f o j) (kf : ∀ f, (102 < f ∧ f < 108) ∨ (150 < f ∧ f < 158) → h' f = h f) (kj : ∀ j, (0 ≤ j ∧ j ≤ 2) ∨ j = 10 ∨ j = 11 ∨ (46 ≤ j ∧ j ≤ 50) → h' 50 0 j = h 50 0 j) (kr : wRws h' h (h 50 0 10)) (hT : cTap n g' h') : cWd P r0 n g' h' := by
  obtain ⟨⟨w1a, w1b, w1c⟩, w2, w3, ⟨w4a, w4b⟩, w5, w6, w7⟩ := hw
  have hrow : ∀ t q, 0 ≤ t → t < h 50 0 10 → 0 ≤ q → q ≤ 2 → wRow1 h (3 * t + q) := w1c.2.2.2.2.2.1
  have k10 := kj 10 (by omega)
  have k11 := kj 11 (by omega)
  have hv : ∀ t q nm, 0 ≤ t → t < h 50 0 10 → 0 ≤ q → q ≤ 2 → wVl h' (3 * t + q) nm = wVl h (3 * t + q) nm := fun t q nm z1 z2 z3 z4 => wVl_cr (kr _ (by omega) (by omega)).1 (kr _ (by omega) (by omega)).2 (hrow t q z1 z2 z3 z4)
  have hO : wOs h' := by
    unfold wOs
    rw [kj 0 (by omega), kj 1 (by omega), kj 2 (by omega), k10, k11, kf 103 (by decide), kf 104 (by decide), kf 105 (by decide), kf 106 (by decide), kf 107 (by decide)]
    exact ⟨w1c.1, w1c.2.1, w1c.2.2.1, w1c.2.2.2.1, w1c.2.2.2.2.1, fun t q z1 z2 z3 z4 => wRow1_cr (kr _ (by omega) (by omega)).1 (kr _ (by omega) (by omega)).2 (hrow t q z1 z2 z3 z4), w1c.2.2.2.2.2.2⟩
  have hru := w1c.2.2.2.2.1
  refine ⟨⟨by rw [e 2 0 1 (by omega)]; exact w1a, ?_, hO⟩, w2, ?_, ⟨cMz_c (fun q => e 214 0 q (by omega)) (fun q => e 215 0 q (by omega)) w4a, cCa_k (fun q => e 209 0 q (by omega)) (fun q => e 210 0 q (by omega)) (e 2 0 11 (by omega)) ⟨⟨fun f z1 z2 => kf f (by omega), fun j z1 z2 => kj j (by omega)⟩, fun q nm z1 z2 => by rw [k11]; exact hv _ q nm hru.1 hru.2 z1 z2⟩ w4b⟩, ?_, ?_, hT⟩
  · unfold cPl
    rw [e 2 0 1 (by omega), e 2 0 2 (by omega), e 2 0 3 (by omega), kj 0 (by omega), kj 1 (by omega), kj 2 (by omega), kf 103 (by decide), kf 104 (by decide), kf 105 (by decide), kf 106 (by decide), kf 107 (by decide)]
    exact ⟨w1b.1, fun a z1 z2 => by rw [e 500 a 0 (by omega), e 500 a 1 (by omega), e 500 a 2 (by omega), e 500 a 3 (by omega)]; exact w1b.2 a z1 z2⟩
  · obtain ⟨t1, ⟨t4, t5, t6⟩, t7⟩ := w3
    refine ⟨t1, ⟨by rw [e 1 0 4 (by omega), k10]; exact t4, by rw [e 1 0 5 (by omega), k11]; exact t5, by rw [k11]; exact t6⟩, fun t z1 z2 => ?_⟩
    rw [k10] at z2
    obtain ⟨y1, y2⟩ := t7 t z1 z2
    refine ⟨y1, ?_⟩
    have y3 := cRu_c (g' := g') (fun f j x1 x2 => e f t j (by omega)) y2
    exact fun q q1 q2 => ⟨(y3 q q1 q2).1, fun nm w0 => by show _ = wVl h' (3 * t + q) nm; rw [hv t q nm z1 z2 q1 q2]; exact (y3 q q1 q2).2 nm w0⟩
  · exact cShe_c (fun s j => e 4 s j (by omega)) (fun s j => e 402 s j (by omega)) (fun s => by rw [kf 155 (by decide)]) (fun s => by rw [kf 156 (by decide)]) (fun s => by rw [kf 157 (by decide)]) w5
  · exact cIma_c (fun j z1 z2 => e 1 0 j (by omega)) (fun a j => e 501 a j (by omega)) (fun j z1 z2 => kj j (by omega)) (Int.le_of_eq (kj 2 (by omega)).symm) (Int.le_of_eq k10.symm) (fun f a z1 z2 => by rw [kf f (by omega)]) w6
/-- the class's families of g, the reference's of h -/
theorem cWd_self {G : Nat → Int → Int → Int} (hw : cWd P r0 n g h) (e : ∀ f o j, (f < 50 ∨ 199 < f) → G f o j = g f o j) (kf : ∀ f, (102 < f ∧ f < 108) ∨ (150 < f ∧ f < 158) → G f = h f) (kj : ∀ j, (0 ≤ j ∧ j ≤ 2) ∨ j = 9 ∨ j = 10 ∨ j = 11 ∨ (46 ≤ j ∧ j ≤ 50) → G 50 0 j = h 50 0 j) (kr : wRws G h (h 50 0 10)) (kb : ∀ i, 0 ≤ i → i < h 50 0 9 → G 108 0 i = h 108 0 i) : cWd P r0 n G G := by
  have hT := hw.2.2.2.2.2.2
  refine cWd_tq hw (fun f o j z => e f o j z.1) kf (fun j z => kj j (by omega)) kr ⟨hT.1, ⟨by rw [e 3 0 0 (by omega), kj 9 (by omega)]; exact hT.2.1.1, by rw [kj 9 (by omega)]; exact hT.2.1.2⟩, fun i z1 z2 => ?_⟩
  rw [kj 9 (by omega)] at z2
  rw [e 302 0 i (by omega), kb i z1 z2]
  exact hT.2.2 i z1 z2
end CQ
