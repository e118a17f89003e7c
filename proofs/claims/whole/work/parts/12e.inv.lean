/-! ===== what stands behind a beat, more of it; pairs that meet, counted in two ways ===== -/
def cSum (f : Int → Int) (m : Int) : Int := wFI (fun a s => s + f a) 0 m
theorem cSum_s {f : Int → Int} {m : Int} (h : 0 ≤ m) : cSum f (m + 1) = cSum f m + f m := wFI_s h
theorem cSum_c {f f' : Int → Int} {m : Int} (h : ∀ a, 0 ≤ a → a < m → f a = f' a) : cSum f m = cSum f' m := by
  unfold cSum
  exact wFI_c fun a t z1 z2 => by rw [h a z1 z2]
theorem cSum_a {f f' : Int → Int} : ∀ m : Nat, cSum (fun a => f a + f' a) m = cSum f m + cSum f' m
  | 0 => rfl
  | m + 1 => by
    rw [show ((m + 1 : Nat) : Int) = (m : Int) + 1 by omega, cSum_s (by omega), cSum_s (by omega), cSum_s (by omega), cSum_a m]
    omega
theorem cSum_in {f : Int → Int} {c : Int} (h : ∀ a, 0 ≤ f a ∧ f a ≤ c) : ∀ m : Nat, 0 ≤ cSum f m ∧ cSum f m ≤ c * m
  | 0 => ⟨Int.le_refl _, by rw [show ((0 : Nat) : Int) = 0 from rfl, Int.mul_zero]; exact Int.le_refl _⟩
  | m + 1 => by
    have ih := cSum_in h m
    have := h m
    rw [show ((m + 1 : Nat) : Int) = (m : Int) + 1 by omega, cSum_s (by omega), Int.mul_add, Int.mul_one]
    omega
theorem cN_sum {q : Int → Prop} [DecidablePred q] {m : Int} : cN q m = cSum (fun i => bI (q i)) m := rfl
theorem cSS {f : Int → Int → Int} (n : Nat) : cSum (fun a => cSum (f a) ((n : Int) + 1)) ((n : Int) + 1) = cSum (fun a => cSum (f a) n) n + (cSum (fun a => f a n + f n a) n + f n n) := by
  rw [cSum_s (by omega), cSum_s (by omega), cSum_c (f := fun a => cSum (f a) ((n : Int) + 1)) (f' := fun a => cSum (f a) n + f a n) (fun a _ _ => cSum_s (by omega)), cSum_a n, cSum_a n]
  have : cSum (fun a => f n a) n = cSum (f n) n := rfl
  omega
/-- two ways to count pairs -/
theorem cPairs {f f' : Int → Int → Int} (h : ∀ a b, f a b + f b a = f' a b + f' b a) : ∀ n : Nat, cSum (fun a => cSum (f a) n) n = cSum (fun a => cSum (f' a) n) n
  | 0 => rfl
  | n + 1 => by
    rw [show ((n + 1 : Nat) : Int) = (n : Int) + 1 by omega, cSS n, cSS n, cPairs h n, cSum_c (f := fun a => f a n + f n a) (f' := fun a => f' a n + f' n a) (fun a _ _ => h a n)]
    have := h n n
    omega
/-- a and b meet -/
abbrev cnd (g : Nat → Int → Int → Int) (a b : Int) : Prop := 0 ≤ g 129 0 a ∧ g 129 0 b = g 129 0 a ∧ g 130 0 b ≠ g 130 0 a
theorem wMt_ex {g : Nat → Int → Int → Int} {a : Int} : ∀ k : Nat, wMt g a k ≠ 0 ↔ ∃ b : Int, 0 ≤ b ∧ b < k ∧ cnd g a b
  | 0 => ⟨fun h => absurd rfl h, fun ⟨b, h1, h2, _⟩ => by omega⟩
  | k + 1 => by
    have ih := wMt_ex (g := g) (a := a) k
    rw [show ((k + 1 : Nat) : Int) = (k : Int) + 1 by omega, show wMt g a ((k : Int) + 1) = if 0 ≤ g 129 0 a ∧ g 129 0 k = g 129 0 a ∧ g 130 0 k ≠ g 130 0 a then 1 else wMt g a k from wFI_s (by omega)]
    by_cases c : cnd g a k
    · rw [if_pos c]
      exact ⟨fun _ => ⟨k, by omega, by omega, c⟩, fun _ => by decide⟩
    · rw [if_neg c, ih]
      constructor
      · rintro ⟨b, h1, h2, h3⟩
        exact ⟨b, h1, by omega, h3⟩
      · rintro ⟨b, h1, h2, h3⟩
        refine ⟨b, h1, ?_, h3⟩
        by_cases e : b = k
        · rw [e] at h3; exact absurd h3 c
        · omega
theorem wMt_X {g : Nat → Int → Int → Int} {a k : Int} (h : 0 ≤ k) : wMt g a k ≠ 0 ↔ ∃ b : Int, 0 ≤ b ∧ b < k ∧ cnd g a b := by
  have := wMt_ex (g := g) (a := a) k.toNat
  rw [show ((k.toNat : Nat) : Int) = k by omega] at this
  exact this
theorem wPr_v {g : Nat → Int → Int → Int} {a p : Int} (hp : 0 ≤ p ∧ p ≤ 100000) : ∀ k : Nat, k ≤ 7 → wPr g a k p = p + cSum (fun b => bI (cnd g a b ∧ a < b)) k
  | 0, _ => by show p = p + 0; omega
  | k + 1, h => by
    have ih := wPr_v (g := g) (a := a) hp k (by omega)
    have hc := cSum_in (f := fun b => bI (cnd g a b ∧ a < b)) (c := 1) (fun b => by have := bI_01 (p := cnd g a b ∧ a < b); omega) k
    rw [show ((k + 1 : Nat) : Int) = (k : Int) + 1 by omega, cSum_s (by omega), show wPr g a ((k : Int) + 1) p = if 0 ≤ g 129 0 a ∧ g 129 0 k = g 129 0 a ∧ g 130 0 k ≠ g 130 0 a then Int.bmod (wPr g a k p + bI (a < k)) 4294967296 else wPr g a k p from wFI_s (by omega), ih]
    have h1 := bI_01 (p := a < (k : Int))
    by_cases c : cnd g a k
    · rw [if_pos c, ax_bm (by omega)]
      have : bI (cnd g a k ∧ a < (k : Int)) = bI (a < (k : Int)) := by
        by_cases w : a < (k : Int)
        · rw [bI_t w, bI_t ⟨c, w⟩]
        · rw [bI_f w, bI_f (fun z => w z.2)]
      rw [this]
      omega
    · rw [if_neg c, bI_f (fun z => c z.1)]
      omega
/-- how many pairs meet -/
def cPr (g : Nat → Int → Int → Int) (n k : Int) : Int := cSum (fun a => cSum (fun b => bI (cnd g a b ∧ a < b)) n) k
theorem cPr_in {g : Nat → Int → Int → Int} {n : Int} (h0 : 0 ≤ n) (h7 : n ≤ 7) {k : Int} (hk : 0 ≤ k) : 0 ≤ cPr g n k ∧ cPr g n k ≤ 7 * k := by
  have h := cSum_in (f := fun a => cSum (fun b => bI (cnd g a b ∧ a < b)) n) (c := 7) (fun a => by
    have := cSum_in (f := fun b => bI (cnd g a b ∧ a < b)) (c := 1) (fun b => by have := bI_01 (p := cnd g a b ∧ a < b); omega) n.toNat
    rw [show ((n.toNat : Nat) : Int) = n by omega] at this
    omega) k.toNat
  rw [show ((k.toNat : Nat) : Int) = k by omega] at h
  exact h
theorem wPrO_v {g : Nat → Int → Int → Int} (h0 : 0 ≤ g 50 0 2) (h7 : g 50 0 2 ≤ 7) (hp : 0 ≤ g 50 0 40 ∧ g 50 0 40 ≤ 90000) {k : Int} (hk : 0 ≤ k) (hk7 : k ≤ 7) : wPrO g k = g 50 0 40 + cPr g (g 50 0 2) k := by
  suffices H : ∀ m : Nat, m ≤ 7 → wPrO g m = g 50 0 40 + cPr g (g 50 0 2) m by
    have := H k.toNat (by omega)
    rw [show ((k.toNat : Nat) : Int) = k by omega] at this
    exact this
  intro m
  induction m with
  | zero => intro _; show g 50 0 40 = g 50 0 40 + 0; omega
  | succ m ih =>
    intro hm
    have hb := cPr_in (g := g) h0 h7 (k := m) (by omega)
    have hv := wPr_v (g := g) (a := m) (p := wPrO g m) (by rw [ih (by omega)]; omega) (g 50 0 2).toNat (by omega)
    rw [show (((g 50 0 2).toNat : Nat) : Int) = g 50 0 2 by omega] at hv
    rw [show ((m + 1 : Nat) : Int) = (m : Int) + 1 by omega, show wPrO g ((m : Int) + 1) = wPr g m (g 50 0 2) (wPrO g m) from wFI_s (by omega), hv, ih (by omega)]
    unfold cPr
    rw [cSum_s (by omega)]
    omega
/-- more that stands behind each beat -/
def wOx (g : Nat → Int → Int → Int) : Prop := (0 ≤ g 50 0 40 ∧ g 50 0 40 ≤ 49 * (g 50 0 39 + 1)) ∧ ∀ a, 0 ≤ a → a < g 50 0 2 → (g 135 0 a = -1 ∨ 0 ≤ g 135 0 a) ∧ (0 ≤ g 135 0 a → g 129 0 a = -1 ∧ 2 * g 106 0 a ≤ g 50 0 39 ∧ g 135 0 a ≤ g 50 0 39) ∧ (0 ≤ g 129 0 a → g 135 0 a = -1 ∧ 2 * g 106 0 a ≤ g 50 0 39) ∧ (g 129 0 a = -1 → g 135 0 a = -1 → g 50 0 39 < 2 * g 106 0 a) ∧ (g 50 0 1 = 1 → g 135 0 a = -1)
theorem st_rd {g : Nat → Int → Int → Int} {a : Int} (h1 : 0 ≤ a) (h2 : a < g 50 0 2) : wMeet (wSt1 g) 129 0 a = nW g a ∧ wMeet (wSt1 g) 135 0 a = g 135 0 a ∧ wMeet (wSt1 g) 136 0 a = g 136 0 a ∧ wMeet (wSt1 g) 133 0 a = g 133 0 a ∧ wMeet (wSt1 g) 50 0 0 = g 50 0 0 ∧ wMeet (wSt1 g) 50 0 1 = g 50 0 1 ∧ wMeet (wSt1 g) 50 0 39 = g 50 0 39 + 1 ∧ wMeet (wSt1 g) 50 0 2 = g 50 0 2 := by
  refine ⟨?_, ?_, ?_, ?_, ?_, ?_, ?_, ?_⟩
  · rw [mt_o (by decide) (fun q => absurd q (by decide)), st1_129 h1 h2]
  · rw [mt_o (by decide) (fun q => absurd q (by decide)), st1_o (by decide) (fun q => absurd q (by decide))]
  · rw [mt_o (by decide) (fun q => absurd q (by decide)), st1_o (by decide) (fun q => absurd q (by decide))]
  · rw [mt_o (by decide) (fun q => absurd q (by decide)), st1_o (by decide) (fun q => absurd q (by decide))]
  · rw [mt_o (by decide) (fun _ => by decide), st1_o (by decide) (fun _ => by decide)]
  · rw [mt_o (by decide) (fun _ => by decide), st1_o (by decide) (fun _ => by decide)]
  · rw [mt_o (by decide) (fun _ => by decide), st1_b]
  · rw [mt_sz, st1_sz]
theorem step_ox {g : Nat → Int → Int → Int} (hs : wOs g) (hd : wOd g) (hx : wOx g) (hb : g 50 0 39 ≤ 1000) : wOx (wStep g) := by
  have eb := (step_od hs hd).2
  have h2 := hs.2.2.1
  refine ⟨?_, fun a h1 h3 => ?_⟩
  · rw [eb]
    have e : wStep g 50 0 40 = wPrO (wSt1 g) (wSt1 g 50 0 2) := by
      unfold wStep
      rw [en_o rfl (by decide) (by decide), mt_40]
    have e4 : wSt1 g 50 0 40 = g 50 0 40 := st1_o (by decide) (fun _ => by decide)
    have hp := hx.1
    have hd1 := hd.1
    rw [e, wPrO_v (by rw [st1_sz]; omega) (by rw [st1_sz]; omega) (by rw [e4]; omega) (by rw [st1_sz]; omega) (by rw [st1_sz]; omega), e4]
    have hc := cPr_in (g := wSt1 g) (n := wSt1 g 50 0 2) (by rw [st1_sz]; omega) (by rw [st1_sz]; omega) (k := wSt1 g 50 0 2) (by rw [st1_sz]; omega)
    rw [st1_sz] at hc ⊢
    omega
  · have e2 : wStep g 50 0 2 = g 50 0 2 := step_ss.2 _ _ (by omega)
    rw [e2] at h3
    have e1 : wStep g 50 0 1 = g 50 0 1 := step_ss.2 _ _ (by omega)
    have e106 : wStep g 106 0 a = g 106 0 a := by rw [step_ss.1 106 (by decide) (by omega)]
    obtain ⟨r1, r2, r3, r4, r5, r6, r7, r8⟩ := st_rd h1 h3
    have z129 := en_V (g := wMeet (wSt1 g)) (f := 129) rfl h1 (by rw [r8]; exact h3)
    have z135 := en_V (g := wMeet (wSt1 g)) (f := 135) rfl h1 (by rw [r8]; exact h3)
    change wStep g 129 0 a = _ at z129
    change wStep g 135 0 a = _ at z135
    have hA := wAE_v (g := wMeet (wSt1 g)) (a := a)
    rw [r1, r5, r6] at hA
    rw [r1] at z129
    rw [r2, r7] at z135
    obtain ⟨x1, x2, x3, x4, x5⟩ := hx.2 a h1 h3
    have hin := nW_in hs hd h1 h3
    have hst := (hs.2.2.2.2.2.2 a h1 h3).2.2.2.1
    have hkn := (hs.2.2.2.2.2.2 a h1 h3).2.1
    have hk := hs.1
    have hr := hs.2.1
    have hd1 := hd.1
    obtain ⟨d1, d2, d3⟩ := hd.2 a h1 h3
    have hW : (g 50 0 39 + 1 = 2 * g 106 0 a ∧ nW g a = 2 * g 104 0 a) ∨ (g 50 0 39 + 1 ≠ 2 * g 106 0 a ∧ g 129 0 a < 0 ∧ nW g a = g 129 0 a) ∨ (g 50 0 39 + 1 ≠ 2 * g 106 0 a ∧ 0 ≤ g 129 0 a ∧ 0 ≤ nW g a) := by
      by_cases c1 : g 50 0 39 + 1 = 2 * g 106 0 a
      · exact Or.inl ⟨c1, by unfold nW; rw [if_pos c1]⟩
      · by_cases c2 : g 129 0 a < 0
        · exact Or.inr (Or.inl ⟨c1, c2, by unfold nW; rw [if_neg c1, if_pos c2]⟩)
        · refine Or.inr (Or.inr ⟨c1, by omega, ?_⟩)
          unfold nW
          rw [if_neg c1, if_neg c2, wStp_v (by omega) (by omega)]
          repeat' split
          all_goals omega
    rw [e1, e106, eb, z129, z135]
    by_cases q : wAE (wMeet (wSt1 g)) a ≠ 0
    · have q' := hA.mp q
      rw [if_pos q, if_pos q]
      by_cases q2 : wWb (wMeet (wSt1 g)) a ≠ 0
      · rw [if_pos q2, if_pos q2]
        simp
        omega
      · rw [if_neg q2, if_neg q2]
        simp
        omega
    · rw [if_neg q, if_neg q]
      omega
theorem beg_ox {g : Nat → Int → Int → Int} (hs : wOs g) {ways : Int} : wOx (wBegin g ways) := by
  have v := beg_v (g := g) (ways := ways)
  refine ⟨by rw [v.2.1, v.1]; decide, fun a h1 h3 => ?_⟩
  have e2 : wBegin g ways 50 0 2 = g 50 0 2 := beg_ss.2 _ _ (by omega)
  have e106 : wBegin g ways 106 0 a = g 106 0 a := by rw [beg_ss.1 106 (by decide) (by omega)]
  rw [e2] at h3
  have hst := (hs.2.2.2.2.2.2 a h1 h3).2.2.2.1
  rw [beg_r (by omega) h1 h3, beg_r (by omega) h1 h3, e106, v.1]
  simp [wBegA]
  omega
