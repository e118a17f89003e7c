theorem cPairs2 {f f' : Int → Int → Int} {N : Int} (h : ∀ a b, 0 ≤ a → a < N → 0 ≤ b → b < N → f a b + f b a = f' a b + f' b a) : ∀ n : Nat, (n : Int) ≤ N → cSum (fun a => cSum (f a) n) n = cSum (fun a => cSum (f' a) n) n
  | 0, _ => rfl
  | n + 1, hn => by
    rw [show ((n + 1 : Nat) : Int) = (n : Int) + 1 by omega, cSS n, cSS n, cPairs2 h n (by omega), cSum_c (f := fun a => f a n + f n a) (f' := fun a => f' a n + f' n a) (fun a z1 z2 => h a n z1 (by omega) (by omega) (by omega))]
    have := h n n (by omega) (by omega) (by omega) (by omega)
    omega
/-- one is left out -/
theorem cN_one {q : Int → Prop} [DecidablePred q] {a : Int} (h0 : 0 ≤ a) (ha : q a) : ∀ m : Nat, cN q m = cN (fun b => b ≠ a ∧ q b) m + bI (a < m)
  | 0 => by rw [bI_f (by omega)]; rfl
  | m + 1 => by
    have ih := cN_one h0 ha m
    rw [show ((m + 1 : Nat) : Int) = (m : Int) + 1 by omega, cN_s (by omega), cN_s (by omega), ih]
    by_cases e : (m : Int) = a
    · rw [bI_f (show ¬ a < (m : Int) by omega), bI_t (show a < (m : Int) + 1 by omega), bI_f (p := (m : Int) ≠ a ∧ q m) (fun z => z.1 e), bI_t (p := q m) (by rw [e]; exact ha)]
    · have e1 : bI (q m) = bI ((m : Int) ≠ a ∧ q m) := by
        by_cases w : q m
        · rw [bI_t w, bI_t ⟨e, w⟩]
        · rw [bI_f w, bI_f (fun z => w z.2)]
      have e2 : bI (a < (m : Int)) = bI (a < (m : Int) + 1) := by
        by_cases w : a < (m : Int)
        · rw [bI_t w, bI_t (by omega)]
        · rw [bI_f w, bI_f (by omega)]
      rw [e1, e2]
      omega
abbrev qP (h : Nat → Int → Int → Int) (p i : Int) : Prop := h 129 0 i = p
/-- how many others are there: as the class counts -/
theorem cOth {g h : Nat → Int → Int → Int} {m a pl : Int} (h0 : 0 ≤ m) (h7 : m ≤ 7) (hm : cMk g h m) (hf : ∀ a, 0 ≤ a → a < m → h 130 0 a = 0 ∨ h 130 0 a = 1) (ha : 0 ≤ a) (ha2 : a < m) (hp : h 129 0 a = pl) (p0 : 0 ≤ pl) (p8 : pl ≤ 80) : kBc (ax_or (g 214 0 pl) (g 215 0 pl)) = wOth (h 129 0) m a + 1 := by
  obtain ⟨m1, m2⟩ := hm pl p0 p8
  rw [m1, m2, mS_U h0 h7, (mS_A h0 h7).1, cN_cg (q' := qP h pl) (fun i z1 z2 => by have := hf i z1 z2; unfold qP; omega)]
  have := cN_one (q := qP h pl) ha hp m.toNat
  rw [show ((m.toNat : Nat) : Int) = m by omega] at this
  rw [this, bI_t ha2]
  have e : cN (fun b => b ≠ a ∧ qP h pl b) m = wOth (h 129 0) m a := by
    rw [cN_cg (q' := fun b => b ≠ a ∧ h 129 0 b = h 129 0 a) (fun i z1 z2 => by rw [hp])]
    rfl
  rw [e]
/-- that an ant meets, as the class sees it -/
theorem cMts {g h : Nat → Int → Int → Int} {m a pl : Int} (h0 : 0 ≤ m) (h7 : m ≤ 7) (hm : cMk g h m) (hf : ∀ a, 0 ≤ a → a < m → h 130 0 a = 0 ∨ h 130 0 a = 1) (ha : 0 ≤ a) (ha2 : a < m) (hp : h 129 0 a = pl) (p0 : 0 ≤ pl) (p8 : pl ≤ 80) : (g 214 0 pl ≠ 0 ∧ g 215 0 pl ≠ 0) ↔ wMt h a m ≠ 0 := by
  obtain ⟨m1, m2⟩ := hm pl p0 p8
  rw [m1, m2, mS_ex h0 h7, mS_ex h0 h7, wMt_X h0]
  have hfa := hf a ha ha2
  constructor
  · rintro ⟨⟨b, b1, b2, b3⟩, ⟨c, c1, c2, c3⟩⟩
    rcases hfa with e | e
    · exact ⟨b, b1, b2, by omega⟩
    · exact ⟨c, c1, c2, by omega⟩
  · rintro ⟨b, b1, b2, b3⟩
    have hfb := hf b b1 b2
    rcases hfa with e | e
    · exact ⟨⟨b, b1, b2, by omega⟩, ⟨a, ha, ha2, by omega⟩⟩
    · exact ⟨⟨a, ha, ha2, by omega⟩, ⟨b, b1, b2, by omega⟩⟩
/-- pairs, counted by those that face left -/
def cPF (h : Nat → Int → Int → Int) (m i : Int) : Int := if 0 ≤ h 129 0 i ∧ h 130 0 i = 1 then cN (qR h (h 129 0 i)) m else 0
theorem cPF_z {h : Nat → Int → Int → Int} {m i : Int} (h0 : 0 ≤ m) (h7 : m ≤ 7) (hz : wMt h i m = 0) : cPF h m i = 0 := by
  unfold cPF
  split
  · rename_i c
    have hA := mS_A (q := qR h (h 129 0 i)) h0 h7
    have : mS (qR h (h 129 0 i)) m = 0 := by
      by_cases z : mS (qR h (h 129 0 i)) m = 0
      · exact z
      · obtain ⟨b, b1, b2, b3⟩ := (mS_ex h0 h7).mp z
        exact absurd hz ((wMt_X h0).mpr ⟨b, b1, b2, by unfold cnd; omega⟩)
    rw [← hA.1, this]
    decide
  · rfl
theorem cPF_in {h : Nat → Int → Int → Int} {m : Int} (h0 : 0 ≤ m) (h7 : m ≤ 7) (i : Int) : 0 ≤ cPF h m i ∧ cPF h m i ≤ 7 := by
  unfold cPF
  split
  · have := cN_in (q := qR h (h 129 0 i)) h0
    omega
  · omega
theorem cPF_sum {h : Nat → Int → Int → Int} (h0 : 0 ≤ h 50 0 2) (h7 : h 50 0 2 ≤ 7) (hf : ∀ a, 0 ≤ a → a < h 50 0 2 → h 130 0 a = 0 ∨ h 130 0 a = 1) (hp : 0 ≤ h 50 0 40 ∧ h 50 0 40 ≤ 90000) : wPrO h (h 50 0 2) = h 50 0 40 + cSum (cPF h (h 50 0 2)) (h 50 0 2) := by
  rw [wPrO_v h0 h7 hp h0 h7]
  unfold cPr
  have key := cPairs2 (f := fun a b => bI (cnd h a b ∧ a < b)) (f' := fun a b => bI ((0 ≤ h 129 0 a ∧ h 130 0 a = 1) ∧ qR h (h 129 0 a) b)) (N := h 50 0 2) (fun a b z1 z2 z3 z4 => by
    have fa := hf a z1 z2
    have fb := hf b z3 z4
    by_cases c : cnd h a b
    · have c' : cnd h b a := by unfold cnd at *; omega
      by_cases w : a < b
      · rw [bI_t ⟨c, w⟩, bI_f (show ¬ (cnd h b a ∧ b < a) by omega)]
        rcases fa with fa | fa
        · rw [bI_f (show ¬ ((0 ≤ h 129 0 a ∧ h 130 0 a = 1) ∧ qR h (h 129 0 a) b) by omega), bI_t (show (0 ≤ h 129 0 b ∧ h 130 0 b = 1) ∧ qR h (h 129 0 b) a by omega)]
          omega
        · rw [bI_t (show ((0 ≤ h 129 0 a ∧ h 130 0 a = 1) ∧ qR h (h 129 0 a) b) by omega), bI_f (show ¬ ((0 ≤ h 129 0 b ∧ h 130 0 b = 1) ∧ qR h (h 129 0 b) a) by omega)]
      · have w' : b < a := by
          have : a ≠ b := fun e => by rw [e] at c; exact c.2.2 rfl
          omega
        rw [bI_f (show ¬ (cnd h a b ∧ a < b) by omega), bI_t ⟨c', w'⟩]
        rcases fa with fa | fa
        · rw [bI_f (show ¬ ((0 ≤ h 129 0 a ∧ h 130 0 a = 1) ∧ qR h (h 129 0 a) b) by omega), bI_t (show (0 ≤ h 129 0 b ∧ h 130 0 b = 1) ∧ qR h (h 129 0 b) a by omega)]
        · rw [bI_t (show ((0 ≤ h 129 0 a ∧ h 130 0 a = 1) ∧ qR h (h 129 0 a) b) by omega), bI_f (show ¬ ((0 ≤ h 129 0 b ∧ h 130 0 b = 1) ∧ qR h (h 129 0 b) a) by omega)]
          omega
    · have c' : ¬ cnd h b a := by unfold cnd at *; omega
      rw [bI_f (fun z => c z.1), bI_f (fun z => c' z.1), bI_f (show ¬ ((0 ≤ h 129 0 a ∧ h 130 0 a = 1) ∧ qR h (h 129 0 a) b) by unfold cnd at *; omega), bI_f (show ¬ ((0 ≤ h 129 0 b ∧ h 130 0 b = 1) ∧ qR h (h 129 0 b) a) by unfold cnd at *; omega)]) (h 50 0 2).toNat (by omega)
  rw [show (((h 50 0 2).toNat : Nat) : Int) = h 50 0 2 by omega] at key
  rw [key]
  congr 1
  refine cSum_c fun a z1 z2 => ?_
  unfold cPF
  by_cases c : 0 ≤ h 129 0 a ∧ h 130 0 a = 1
  · rw [if_pos c, cN_sum]
    refine cSum_c fun b y1 y2 => ?_
    by_cases w : qR h (h 129 0 a) b
    · rw [bI_t ⟨c, w⟩, bI_t w]
    · rw [bI_f (fun z => w z.2), bI_f w]
  · rw [if_neg c]
    have : ∀ m : Nat, cSum (fun b => bI ((0 ≤ h 129 0 a ∧ h 130 0 a = 1) ∧ qR h (h 129 0 a) b)) m = 0 := by
      intro m
      induction m with
      | zero => rfl
      | succ m ih => rw [show ((m + 1 : Nat) : Int) = (m : Int) + 1 by omega, cSum_s (by omega), ih, bI_f (fun z => c z.1)]; omega
    have := this (h 50 0 2).toNat
    rw [show (((h 50 0 2).toNat : Nat) : Int) = h 50 0 2 by omega] at this
    exact this
def TMt (i : Int) : Nat → Int → Int → Prop := fun f o j => f = 216 ∨ f = 604 ∨ (f = 2 ∧ o = 0 ∧ (j = 6 ∨ j = 7)) ∨ (f = 5 ∧ (0 ≤ o ∧ o < i) ∧ (j = 4 ∨ j = 5 ∨ j = 6 ∨ j = 8))
/-- an ant that doesn't meet stays as it is -/
theorem cMt_n {X h : Nat → Int → Int → Int} {i : Int} (i1 : 0 ≤ i) (i2 : i < h 50 0 2) (hz : wMt h i (h 50 0 2) = 0) (hd : cD1 X h i) : cD1 X (wMeet h) i := by
  unfold cD1 at *
  have o : ∀ f, f ≠ 130 → f ≠ 131 → f ≠ 132 → f ≠ 134 → f ≠ 137 → f ≠ 138 → f ≠ 50 → wMeet h f 0 i = h f 0 i := fun f a b c d e k l => mt_o ⟨a, b, c, d, e, k⟩ (fun z => absurd z l)
  rw [o 129 (by decide) (by decide) (by decide) (by decide) (by decide) (by decide) (by decide), o 133 (by decide) (by decide) (by decide) (by decide) (by decide) (by decide) (by decide), o 135 (by decide) (by decide) (by decide) (by decide) (by decide) (by decide) (by decide), o 136 (by decide) (by decide) (by decide) (by decide) (by decide) (by decide) (by decide), mt_o (f := 50) (j := 42) (by decide) (fun _ => by decide), mt_130 i1 i2, mt_131 i1 i2, mt_132 i1 i2, mt_134 i1 i2, hz, if_neg (c := (0 : Int) ≠ 0 ∧ wWil h i ≠ 0) (fun z => z.1 rfl), if_neg (c := (0 : Int) ≠ 0) (fun z => z rfl), if_neg (c := (0 : Int) ≠ 0) (fun z => z rfl), if_neg (c := (0 : Int) ≠ 0) (fun z => z rfl)]
  exact hd
theorem cMt_y {g X h : Nat → Int → Int → Int} {V : Int → (Int → Int) → Int} {k i : Int} (i1 : 0 ≤ i) (i2 : i < h 50 0 2) (hz : wMt h i (h 50 0 2) ≠ 0) (hd : cD1 g h i) (hq : cMAq g V k i X) (ht : g 2 0 13 = h 50 0 42) (hk : k = h 103 0 i) (hn : g 500 i 3 = h 107 0 i) (hV : ∀ p nm, V p nm = wVl h (3 * h 50 0 11 + p) nm) (hnm : ∀ j, 0 ≤ j → j < 6 → cNm g i j = wNm h i j) (hVn : cVn V) (h132 : 0 ≤ h 132 0 i ∧ h 132 0 i ≤ 100000) : cD1 X (wMeet h) i := by
  obtain ⟨d2, d3, d33, d4, d5, d6, d7, d8, d9, d10⟩ := hd
  obtain ⟨q1, q5, q8, qy, qn⟩ := hq
  have ev : ∀ p, V p (cNm g i) = wEvA h p i := fun p => (hVn p _ _ hnm).trans (hV p _)
  have hw : cTu g V k i ↔ wWil h i ≠ 0 := by
    unfold cTu wWil
    rw [ev, ht, hk, hn, d5]
    constructor
    · intro c; rw [if_pos c]; decide
    · intro c
      by_cases z : h 50 0 42 = 0 ∧ wTurns (h 103 0 i) (h 131 0 i) (h 107 0 i) ≠ 0 ∧ wEvA h 0 i ≠ 0
      · exact z
      · rw [if_neg z] at c; exact absurd rfl c
  have o : ∀ f, f ≠ 130 → f ≠ 131 → f ≠ 132 → f ≠ 134 → f ≠ 137 → f ≠ 138 → f ≠ 50 → wMeet h f 0 i = h f 0 i := fun f a b c d e k l => mt_o ⟨a, b, c, d, e, k⟩ (fun z => absurd z l)
  have fr : ∀ j, j ≠ 4 → j ≠ 5 → j ≠ 6 → j ≠ 8 → X 5 i j = g 5 i j := fun j a b c d => q1 5 i j (by unfold TMa; omega)
  unfold cD1
  rw [o 129 (by decide) (by decide) (by decide) (by decide) (by decide) (by decide) (by decide), o 133 (by decide) (by decide) (by decide) (by decide) (by decide) (by decide) (by decide), o 135 (by decide) (by decide) (by decide) (by decide) (by decide) (by decide) (by decide), o 136 (by decide) (by decide) (by decide) (by decide) (by decide) (by decide) (by decide), mt_o (f := 50) (j := 42) (by decide) (fun _ => by decide), mt_130 i1 i2, mt_131 i1 i2, mt_132 i1 i2, mt_134 i1 i2, if_pos hz, if_pos hz, if_pos hz, fr 2 (by decide) (by decide) (by decide) (by decide), fr 3 (by decide) (by decide) (by decide) (by decide), fr 7 (by decide) (by decide) (by decide) (by decide), fr 9 (by decide) (by decide) (by decide) (by decide), fr 10 (by decide) (by decide) (by decide) (by decide)]
  have h8 : h 50 0 42 = 0 → X 5 i 8 = wHea h i := fun z => by
    rw [q8 (by rw [ht]; exact z), d8 z, ev]
    rfl
  by_cases w : wWil h i ≠ 0
  · obtain ⟨y4, y6⟩ := qy (hw.mpr w)
    rw [if_pos ⟨hz, w⟩, bI_t w]
    exact ⟨d2, d3, d33, by rw [y4, d4], by rw [q5, d5], by rw [y6, d6], d7, h8, d9, d10⟩
  · obtain ⟨y4, y6⟩ := qn (fun z => w (hw.mp z))
    rw [if_neg (fun z => w z.2), bI_f w]
    exact ⟨d2, d3, d33, by rw [y4, d4], by rw [q5, d5], by rw [y6, d6, ax_bm (by omega)]; omega, d7, h8, d9, d10⟩
