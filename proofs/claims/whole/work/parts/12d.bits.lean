/-! ===== rows of bits ===== -/
def mS (q : Int → Prop) [DecidablePred q] (m : Int) : Int := wFI (fun i x => if q i then x + ax_shl 1 i else x) 0 m
theorem mS_s {q : Int → Prop} [DecidablePred q] {m : Int} (h : 0 ≤ m) : mS q (m + 1) = if q m then mS q m + ax_shl 1 m else mS q m := wFI_s h
theorem mS_0 {q : Int → Prop} [DecidablePred q] : mS q 0 = 0 := rfl
theorem p2_in : ∀ i : Nat, i < 7 → ax_shl 1 i = 2 ^ i := by decide +kernel
/-- what is known of a number below 2 to the i, and of it with bit i -/
theorem bitF : ∀ i : Nat, i < 7 → ∀ x : Nat, x < 128 → x < 2 ^ i → ax_or x (ax_shl 1 i) = x + 2 ^ i ∧ kBc ((x : Int) + 2 ^ i) = kBc x + 1 ∧ kBc (Int.bmod (ax_and ((x : Int) + 2 ^ i) (Int.bmod (-((x : Int) + 2 ^ i)) 4294967296) - 1) 4294967296) = if x = 0 then (i : Int) else kBc (Int.bmod (ax_and x (Int.bmod (-(x : Int)) 4294967296) - 1) 4294967296) := by decide +kernel
def bitOb (i x y : Nat) : Bool := !(decide (x < 2 ^ i)) || (!(decide (y < 2 ^ i)) || (decide (ax_or ((x : Int) + 2 ^ i) y = ax_or x y + 2 ^ i) && (decide (ax_or x ((y : Int) + 2 ^ i) = ax_or x y + 2 ^ i) && decide (ax_or ((x : Int) + 2 ^ i) ((y : Int) + 2 ^ i) = ax_or x y + 2 ^ i))))
theorem bitOa : (List.range 7).all (fun i => (List.range 64).all fun x => (List.range 64).all fun y => bitOb i x y) = true := by decide +kernel
theorem bitO {i x y : Nat} (h1 : i < 7) (h2 : x < 64) (h3 : y < 64) (h4 : x < 2 ^ i) (h5 : y < 2 ^ i) : ax_or ((x : Int) + 2 ^ i) y = ax_or x y + 2 ^ i ∧ ax_or x ((y : Int) + 2 ^ i) = ax_or x y + 2 ^ i ∧ ax_or ((x : Int) + 2 ^ i) ((y : Int) + 2 ^ i) = ax_or x y + 2 ^ i := by
  have h := List.all_eq_true.mp (List.all_eq_true.mp (List.all_eq_true.mp bitOa i (List.mem_range.mpr h1)) x (List.mem_range.mpr h2)) y (List.mem_range.mpr h3)
  unfold bitOb at h
  simp only [h4, h5, decide_true, Bool.not_true, Bool.false_or, Bool.and_eq_true, decide_eq_true_eq] at h
  exact h
theorem mS_in {q : Int → Prop} [DecidablePred q] : ∀ m : Nat, m ≤ 7 → 0 ≤ mS q m ∧ mS q m < 2 ^ m
  | 0, _ => ⟨by rw [show mS q ((0 : Nat) : Int) = 0 from rfl]; decide, by rw [show mS q ((0 : Nat) : Int) = 0 from rfl]; decide⟩
  | m + 1, h => by
    have ih := mS_in (q := q) m (by omega)
    have hp := p2_in m (by omega)
    rw [show ((m + 1 : Nat) : Int) = (m : Int) + 1 by omega, mS_s (by omega), hp]
    have e : (2 : Int) ^ (m + 1) = 2 * 2 ^ m := by rw [Int.pow_succ]; omega
    rw [e]
    split <;> omega
theorem mS_b {q : Int → Prop} [DecidablePred q] {m : Int} (h0 : 0 ≤ m) (h7 : m ≤ 7) : 0 ≤ mS q m ∧ mS q m < 128 := by
  have h := mS_in (q := q) m.toNat (by omega)
  rw [show ((m.toNat : Nat) : Int) = m by omega] at h
  have e : m.toNat = 0 ∨ m.toNat = 1 ∨ m.toNat = 2 ∨ m.toNat = 3 ∨ m.toNat = 4 ∨ m.toNat = 5 ∨ m.toNat = 6 ∨ m.toNat = 7 := by omega
  rcases e with e | e | e | e | e | e | e | e <;> rw [e] at h <;> omega
/-- bit m put to what stands below it -/
theorem mS_or {q : Int → Prop} [DecidablePred q] {m : Int} (h0 : 0 ≤ m) (h7 : m < 7) : ax_or (mS q m) (ax_shl 1 m) = mS q m + ax_shl 1 m := by
  have h := mS_in (q := q) m.toNat (by omega)
  have hb := mS_b (q := q) h0 (by omega)
  have hx := (bitF m.toNat (by omega) (mS q m).toNat (by omega) (by
    rw [show ((m.toNat : Nat) : Int) = m by omega] at h
    have := h.2
    exact Int.ofNat_lt.mp (by rw [Int.toNat_of_nonneg hb.1]; simpa using this))).1
  have hp := p2_in m.toNat (by omega)
  rw [show ((m.toNat : Nat) : Int) = m by omega] at hx hp
  rw [Int.toNat_of_nonneg hb.1] at hx
  rw [hx, hp]
/-- how many are so -/
def cN (q : Int → Prop) [DecidablePred q] (m : Int) : Int := wFI (fun i c => c + bI (q i)) 0 m
theorem cN_s {q : Int → Prop} [DecidablePred q] {m : Int} (h : 0 ≤ m) : cN q (m + 1) = cN q m + bI (q m) := wFI_s h
/-- the first that is so; m if none -/
def cF (q : Int → Prop) [DecidablePred q] (m : Int) : Int := wFI (fun i c => if c < i then c else if q i then i else i + 1) 0 m
theorem cF_s {q : Int → Prop} [DecidablePred q] {m : Int} (h : 0 ≤ m) : cF q (m + 1) = if cF q m < m then cF q m else if q m then m else m + 1 := wFI_s h
theorem mS_all {q : Int → Prop} [DecidablePred q] : ∀ m : Nat, m ≤ 7 → kBc (mS q m) = cN q m ∧ (mS q m = 0 ↔ cF q m = m) ∧ (0 ≤ cF q m ∧ cF q m ≤ m) ∧ (mS q m ≠ 0 → kBc (Int.bmod (ax_and (mS q m) (Int.bmod (-(mS q m)) 4294967296) - 1) 4294967296) = cF q m)
  | 0, _ => ⟨by show kBc 0 = (0 : Int); decide, ⟨fun _ => rfl, fun _ => rfl⟩, ⟨Int.le_refl _, Int.le_refl _⟩, fun h => absurd rfl h⟩
  | m + 1, h => by
    obtain ⟨a1, a2, a3, a4⟩ := mS_all (q := q) m (by omega)
    have hi := mS_in (q := q) m (by omega)
    have hb := mS_b (q := q) (m := m) (by omega) (by omega)
    have hp := p2_in m (by omega)
    have hx := bitF m (by omega) (mS q m).toNat (by omega) (Int.ofNat_lt.mp (by rw [Int.toNat_of_nonneg hb.1]; simpa using hi.2))
    rw [Int.toNat_of_nonneg hb.1] at hx
    rw [show ((m + 1 : Nat) : Int) = (m : Int) + 1 by omega, mS_s (by omega), cN_s (by omega), cF_s (by omega), hp]
    have hpos : (0 : Int) < 2 ^ m := Int.pow_pos (by decide)
    by_cases hq : q m
    · rw [if_pos hq, bI_t hq, if_pos hq]
      refine ⟨by rw [hx.2.1, a1], ⟨fun z => by omega, fun z => ?_⟩, ?_, fun _ => ?_⟩
      · split at z <;> omega
      · split <;> omega
      · rw [hx.2.2]
        by_cases z : mS q m = 0
        · have e := a2.mp z
          rw [if_pos (by omega), if_neg (by omega)]
        · rw [if_neg (by omega), a4 z]
          have : cF q m ≠ m := fun w => z (a2.mpr w)
          rw [if_pos (by omega)]
    · rw [if_neg hq, bI_f hq, if_neg hq]
      refine ⟨by omega, ⟨fun z => ?_, fun z => ?_⟩, ?_, fun z => ?_⟩
      · have e := a2.mp z
        rw [if_neg (by omega)]
      · by_cases w : cF q m < m
        · rw [if_pos w] at z; omega
        · exact a2.mpr (by omega)
      · split <;> omega
      · have : cF q m ≠ m := fun w => z (a2.mpr w)
        rw [a4 z, if_pos (by omega)]
theorem mS_A {q : Int → Prop} [DecidablePred q] {m : Int} (h0 : 0 ≤ m) (h7 : m ≤ 7) : kBc (mS q m) = cN q m ∧ (mS q m = 0 ↔ cF q m = m) ∧ (0 ≤ cF q m ∧ cF q m ≤ m) ∧ (mS q m ≠ 0 → kBc (Int.bmod (ax_and (mS q m) (Int.bmod (-(mS q m)) 4294967296) - 1) 4294967296) = cF q m) := by
  have h := mS_all (q := q) m.toNat (by omega)
  rw [show ((m.toNat : Nat) : Int) = m by omega] at h
  exact h
theorem cF_v {q : Int → Prop} [DecidablePred q] : ∀ m : Nat, (cF q m < m → q (cF q m)) ∧ ∀ i, 0 ≤ i → i < cF q m → ¬ q i
  | 0 => ⟨fun h => absurd h (by show ¬ (0 : Int) < 0; omega), fun i h1 h2 => absurd h2 (by show ¬ i < 0; omega)⟩
  | m + 1 => by
    obtain ⟨a1, a2⟩ := cF_v (q := q) m
    rw [show ((m + 1 : Nat) : Int) = (m : Int) + 1 by omega, cF_s (by omega)]
    have hle : cF q m ≤ m ∧ 0 ≤ cF q m := by
      clear a1 a2
      induction m with
      | zero => exact ⟨Int.le_refl _, Int.le_refl _⟩
      | succ m ih =>
        rw [show ((m + 1 : Nat) : Int) = (m : Int) + 1 by omega, cF_s (by omega)]
        split <;> first | omega | (split <;> omega)
    by_cases w : cF q m < m
    · rw [if_pos w]
      exact ⟨fun _ => a1 w, a2⟩
    · rw [if_neg w]
      have e : cF q m = m := by omega
      rw [e] at a2
      by_cases hq : q m
      · rw [if_pos hq]
        exact ⟨fun _ => hq, a2⟩
      · rw [if_neg hq]
        refine ⟨fun z => by omega, fun i h1 h2 => ?_⟩
        by_cases z : i = m
        · rw [z]; exact hq
        · exact a2 i h1 (by omega)
theorem cF_V {q : Int → Prop} [DecidablePred q] {m : Int} (h0 : 0 ≤ m) : (cF q m < m → q (cF q m)) ∧ ∀ i, 0 ≤ i → i < cF q m → ¬ q i := by
  have h := cF_v (q := q) m.toNat
  rw [show ((m.toNat : Nat) : Int) = m by omega] at h
  exact h
/-- some are so -/
theorem mS_ex {q : Int → Prop} [DecidablePred q] {m : Int} (h0 : 0 ≤ m) (h7 : m ≤ 7) : mS q m ≠ 0 ↔ ∃ i, 0 ≤ i ∧ i < m ∧ q i := by
  obtain ⟨-, a2, a3, -⟩ := mS_A (q := q) h0 h7
  obtain ⟨b1, b2⟩ := cF_V (q := q) h0
  constructor
  · intro h
    have : cF q m ≠ m := fun z => h (a2.mpr z)
    exact ⟨cF q m, a3.1, by omega, b1 (by omega)⟩
  · rintro ⟨i, h1, h2, h3⟩ z
    exact b2 i h1 (by rw [a2.mp z]; exact h2) h3
theorem mS_cg {q q' : Int → Prop} [DecidablePred q] [DecidablePred q'] {m : Int} (h : ∀ i, 0 ≤ i → i < m → (q i ↔ q' i)) : mS q m = mS q' m := by
  unfold mS
  refine wFI_c fun i t z1 z2 => ?_
  by_cases w : q i
  · rw [if_pos w, if_pos ((h i z1 z2).mp w)]
  · rw [if_neg w, if_neg (fun y => w ((h i z1 z2).mpr y))]
theorem cN_cg {q q' : Int → Prop} [DecidablePred q] [DecidablePred q'] {m : Int} (h : ∀ i, 0 ≤ i → i < m → (q i ↔ q' i)) : cN q m = cN q' m := by
  unfold cN
  refine wFI_c fun i t z1 z2 => ?_
  by_cases w : q i
  · rw [bI_t w, bI_t ((h i z1 z2).mp w)]
  · rw [bI_f w, bI_f (fun y => w ((h i z1 z2).mpr y))]
theorem mS_un {q q' : Int → Prop} [DecidablePred q] [DecidablePred q'] : ∀ m : Nat, m ≤ 7 → ax_or (mS q m) (mS q' m) = mS (fun i => q i ∨ q' i) m
  | 0, _ => by
    rw [show mS q ((0 : Nat) : Int) = 0 from rfl, show mS q' ((0 : Nat) : Int) = 0 from rfl, show mS (fun i => q i ∨ q' i) ((0 : Nat) : Int) = 0 from rfl]
    decide
  | m + 1, h => by
    have ih := mS_un (q := q) (q' := q') m (by omega)
    have i1 := mS_in (q := q) m (by omega)
    have i2 := mS_in (q := q') m (by omega)
    have hm : (2 : Int) ^ m ≤ 64 := by
      have e : m = 0 ∨ m = 1 ∨ m = 2 ∨ m = 3 ∨ m = 4 ∨ m = 5 ∨ m = 6 := by omega
      rcases e with rfl | rfl | rfl | rfl | rfl | rfl | rfl <;> decide
    have hp := p2_in m (by omega)
    have hx := bitO (i := m) (x := (mS q m).toNat) (y := (mS q' m).toNat) (by omega) (by omega) (by omega) (Int.ofNat_lt.mp (by rw [Int.toNat_of_nonneg i1.1]; simpa using i1.2)) (Int.ofNat_lt.mp (by rw [Int.toNat_of_nonneg i2.1]; simpa using i2.2))
    rw [Int.toNat_of_nonneg i1.1, Int.toNat_of_nonneg i2.1] at hx
    rw [show ((m + 1 : Nat) : Int) = (m : Int) + 1 by omega, mS_s (by omega), mS_s (by omega), mS_s (by omega), hp, ← ih]
    by_cases w : q m <;> by_cases w' : q' m
    · rw [if_pos w, if_pos w', if_pos (Or.inl w), hx.2.2]
    · rw [if_pos w, if_neg w', if_pos (Or.inl w), hx.1]
    · rw [if_neg w, if_pos w', if_pos (Or.inr w'), hx.2.1]
    · rw [if_neg w, if_neg w', if_neg (fun z => z.elim w w')]
theorem mS_U {q q' : Int → Prop} [DecidablePred q] [DecidablePred q'] {m : Int} (h0 : 0 ≤ m) (h7 : m ≤ 7) : ax_or (mS q m) (mS q' m) = mS (fun i => q i ∨ q' i) m := by
  have h := mS_un (q := q) (q' := q') m.toNat (by omega)
  rw [show ((m.toNat : Nat) : Int) = m by omega] at h
  exact h
theorem cN_in {q : Int → Prop} [DecidablePred q] {m : Int} (h0 : 0 ≤ m) : 0 ≤ cN q m ∧ cN q m ≤ m := by
  suffices H : ∀ k : Nat, 0 ≤ cN q k ∧ cN q k ≤ k by
    have := H m.toNat
    rw [show ((m.toNat : Nat) : Int) = m by omega] at this
    exact this
  intro k
  induction k with
  | zero => exact ⟨Int.le_refl _, Int.le_refl _⟩
  | succ k ih =>
    rw [show ((k + 1 : Nat) : Int) = (k : Int) + 1 by omega, cN_s (by omega)]
    have := bI_01 (p := q k)
    omega
