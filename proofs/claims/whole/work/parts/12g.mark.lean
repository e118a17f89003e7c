abbrev qL (h : Nat → Int → Int → Int) (p i : Int) : Prop := h 129 0 i = p ∧ h 130 0 i = 1
abbrev qR (h : Nat → Int → Int → Int) (p i : Int) : Prop := h 129 0 i = p ∧ h 130 0 i = 0
def cMk (g h : Nat → Int → Int → Int) (m : Int) : Prop := ∀ p, 0 ≤ p → p ≤ 80 → g 214 0 p = mS (qL h p) m ∧ g 215 0 p = mS (qR h p) m
def TMk : Nat → Int → Int → Prop := fun f _ _ => f = 214 ∨ f = 215
theorem cMk_n {g h : Nat → Int → Int → Int} {i : Int} (i1 : 0 ≤ i) (hm : cMk g h i) (ho : h 129 0 i < 0) : cMk g h (i + 1) := by
  intro p h1 h2
  obtain ⟨a, b⟩ := hm p h1 h2
  rw [mS_s i1, mS_s i1, if_neg (by omega), if_neg (by omega)]
  exact ⟨a, b⟩
theorem cMk_L {g h : Nat → Int → Int → Int} {i pl x : Int} (i1 : 0 ≤ i) (i7 : i < 7) (hm : cMk g h i) (hp : h 129 0 i = pl) (h1 : 0 ≤ pl) (h8 : pl ≤ 80) (hf : h 130 0 i = 1) (hx : x = ax_or (g 214 0 pl) (ax_shl 1 i)) : cMk (ax_u3 g 214 0 pl x) h (i + 1) := by
  intro p z1 z2
  obtain ⟨a, b⟩ := hm p z1 z2
  rw [mS_s i1, mS_s i1, ax_u3_f (f' := 215) (by decide), if_neg (fun z => by omega : ¬ qR h p i)]
  refine ⟨?_, b⟩
  by_cases e : p = pl
  · rw [e, ax_u3_s, if_pos ⟨hp, hf⟩, hx, ← e, a, mS_or i1 i7]
  · rw [ax_u3_n (by omega), if_neg (fun z => by omega : ¬ qL h p i)]
    exact a
theorem cMk_R {g h : Nat → Int → Int → Int} {i pl x : Int} (i1 : 0 ≤ i) (i7 : i < 7) (hm : cMk g h i) (hp : h 129 0 i = pl) (h1 : 0 ≤ pl) (h8 : pl ≤ 80) (hf : h 130 0 i = 0) (hx : x = ax_or (g 215 0 pl) (ax_shl 1 i)) : cMk (ax_u3 g 215 0 pl x) h (i + 1) := by
  intro p z1 z2
  obtain ⟨a, b⟩ := hm p z1 z2
  rw [mS_s i1, mS_s i1, ax_u3_f (f' := 214) (by decide), if_neg (fun z => by omega : ¬ qL h p i)]
  refine ⟨a, ?_⟩
  by_cases e : p = pl
  · rw [e, ax_u3_s, if_pos ⟨hp, hf⟩, hx, ← e, b, mS_or i1 i7]
  · rw [ax_u3_n (by omega), if_neg (fun z => by omega : ¬ qR h p i)]
    exact b
/-- who has it next: the first that stands against the carrier -/
theorem wNx_v {g : Nat → Int → Int → Int} {a x : Int} (ha : a = g 50 0 41) : ∀ k : Nat, wNx g a k x = if cF (cnd g a) k < k then cF (cnd g a) k else x
  | 0 => by show x = if (0 : Int) < 0 then (0 : Int) else x; rw [if_neg (by omega)]
  | k + 1 => by
    have ih := wNx_v (x := x) ha k
    have hw := wMt_ex (g := g) (a := a) k
    obtain ⟨v1, v2⟩ := cF_v (q := cnd g a) k
    have hle : cF (cnd g a) k ≤ k := by
      suffices H : ∀ k : Nat, cF (cnd g a) k ≤ k from H k
      intro k
      induction k with
      | zero => exact Int.le_refl _
      | succ k ih =>
        rw [show ((k + 1 : Nat) : Int) = (k : Int) + 1 by omega, cF_s (by omega)]
        split <;> first | omega | (split <;> omega)
    rw [show ((k + 1 : Nat) : Int) = (k : Int) + 1 by omega, cF_s (by omega), show wNx g a ((k : Int) + 1) x = if (0 ≤ g 129 0 a ∧ g 129 0 k = g 129 0 a ∧ g 130 0 k ≠ g 130 0 a) ∧ a = g 50 0 41 ∧ wMt g a k = 0 then (k : Int) else wNx g a k x from wFI_s (by omega), ih]
    by_cases c : cF (cnd g a) k < k
    · have hm : wMt g a k ≠ 0 := hw.mpr ⟨_, by
        by_cases z : 0 ≤ cF (cnd g a) k
        · exact z
        · exfalso
          have : 0 ≤ cF (cnd g a) k := by
            suffices H : ∀ k : Nat, 0 ≤ cF (cnd g a) k from H k
            intro k
            induction k with
            | zero => exact Int.le_refl _
            | succ k ih =>
              rw [show ((k + 1 : Nat) : Int) = (k : Int) + 1 by omega, cF_s (by omega)]
              split <;> first | omega | (split <;> omega)
          omega, c, v1 c⟩
      rw [if_neg (fun z => hm z.2.2), if_pos c, if_pos c, if_pos (by omega)]
    · have e : cF (cnd g a) k = k := by omega
      rw [e] at v2
      have hm : wMt g a k = 0 := by
        by_cases z : wMt g a k = 0
        · exact z
        · obtain ⟨b, b1, b2, b3⟩ := hw.mp z
          exact absurd b3 (v2 b b1 b2)
      by_cases q : cnd g a k
      · rw [if_pos ⟨q, ha, hm⟩, if_neg c, if_pos q, if_pos (by omega)]
      · rw [if_neg (fun z => q z.1), if_neg c, if_neg c, if_neg q, if_neg (by omega)]
theorem wNx_n {g : Nat → Int → Int → Int} {a x : Int} (ha : a ≠ g 50 0 41) (k : Int) : wNx g a k x = x := by
  unfold wNx wFI
  generalize k.toNat = m
  induction m with
  | zero => rfl
  | succ m ih =>
    unfold wF
    rw [if_neg (fun z => ha z.2.1)]
    exact ih
theorem wNxO_v {g : Nat → Int → Int → Int} {n : Int} (hn : 0 ≤ n) (e : g 50 0 2 = n) : wNxO g n = if (0 ≤ g 50 0 41 ∧ g 50 0 41 < n) ∧ cF (cnd g (g 50 0 41)) n < n then cF (cnd g (g 50 0 41)) n else g 50 0 41 := by
  suffices H : ∀ k : Nat, wNxO g k = if (0 ≤ g 50 0 41 ∧ g 50 0 41 < k) ∧ cF (cnd g (g 50 0 41)) n < n then cF (cnd g (g 50 0 41)) n else g 50 0 41 by
    have := H n.toNat
    rw [show ((n.toNat : Nat) : Int) = n by omega] at this
    exact this
  intro k
  induction k with
  | zero => show g 50 0 41 = _; rw [if_neg (by omega)]
  | succ k ih =>
    rw [show ((k + 1 : Nat) : Int) = (k : Int) + 1 by omega, show wNxO g ((k : Int) + 1) = wNx g k (g 50 0 2) (wNxO g k) from wFI_s (by omega), ih, e]
    by_cases c : (k : Int) = g 50 0 41
    · have hv := wNx_v (g := g) (a := k) (x := if (0 ≤ g 50 0 41 ∧ g 50 0 41 < k) ∧ cF (cnd g (g 50 0 41)) n < n then cF (cnd g (g 50 0 41)) n else g 50 0 41) c n.toNat
      rw [show ((n.toNat : Nat) : Int) = n by omega] at hv
      rw [hv, c, if_neg (c := (0 ≤ g 50 0 41 ∧ g 50 0 41 < g 50 0 41) ∧ _) (by omega)]
      by_cases z : cF (cnd g (g 50 0 41)) n < n
      · rw [if_pos z, if_pos ⟨by omega, z⟩]
      · rw [if_neg z, if_neg (fun y => z y.2)]
    · rw [wNx_n c]
      by_cases z : (0 ≤ g 50 0 41 ∧ g 50 0 41 < k) ∧ cF (cnd g (g 50 0 41)) n < n
      · rw [if_pos z, if_pos ⟨by omega, z.2⟩]
      · rw [if_neg z, if_neg (fun y => z ⟨by omega, y.2⟩)]
set_option maxRecDepth 100000 in
set_option maxHeartbeats 4000000 in
theorem cp_mark (P : Nat → Int → Prop) (g : Nat → Int → Int → Int) (r0 : Nat → Int → Int → Option (Nat × Int)) (n : Nat → Int → Int) (hA : cAn P r0 n (g 2 0 1)) (h : Nat → Int → Int → Int) (hP : cPl g h n) (hf : ∀ a, 0 ≤ a → a < h 50 0 2 → h 130 0 a = 0 ∨ h 130 0 a = 1) (hD : ∀ a, 0 ≤ a → a < h 50 0 2 → cD1 g h a) (hn2 : n 214 0 = 81 ∧ n 215 0 = 81) (hz : ∀ p, 0 ≤ p → p ≤ 80 → g 214 0 p = 0 ∧ g 215 0 p = 0) : ax_S yX2_mark cX2_mark 3 none 0 0 0 [.inr (.inr (some (2, 0)))] (P, g, r0, n) (fun r M' => r = none ∧ ∃ g', M' = (P, g', r0, n) ∧ cFr TMk g' g ∧ cMk g' h (h 50 0 2)) := by
  have hA1 := hA.1
  have hP1 := hP.1
  refine ax_S_of (own := 2) (by decide) rfl (fun h => absurd h (by decide)) rfl (Nat.le_of_ble_eq_true rfl) ?_
  change ax_J _ _ _ _ _ _ _ _ _ _ [some (.inr (.inr (some (2, 0)))), none, none] _ _
  refine aj_run (C := True) (pc' := 2) (la' := [some (.inr (.inr (some (2, 0)))), some (.inl 0), none]) (st' := []) (M' := (P, g, r0, n)) ok_X2_mark true 2 rfl trivial ?_
  refine aj_forget (la' := [some (.inr (.inr (some (2, 0)))), some (.inl 0), none]) (by simp [ax_fg]) ?_
  refine aj_loop (σ := (Int) × (Nat → Int → Int → Int)) (fun xL => 0 ≤ xL.1 ∧ xL.1 ≤ g 2 0 1 ∧ cFr TMk xL.2 g ∧ cMk xL.2 h xL.1) (fun xL => (g 2 0 1 - xL.1).toNat) (fun xL => [some (.inr (.inr (some (2, 0)))), some (.inl xL.1), none]) (fun xL => []) (fun xL => (P, xL.2, r0, n)) ?_ (0, g) ?_
  rotate_left
  · exact ⟨by omega, by omega, fun _ _ _ _ => rfl, fun p z1 z2 => hz p z1 z2⟩
  rintro ⟨i, g1⟩ hI ih2
  try dsimp only at hI ih2
  obtain ⟨i1, i2, i3, i4⟩ := hI
  change ax_J _ _ _ _ _ _ _ _ _ 2 [some (.inr (.inr (some (2, 0)))), some (.inl i), none] [] (P, g1, r0, n)
  have hsz1 : g1 2 0 1 = g 2 0 1 := i3 2 0 1 (by unfold TMk; omega)
  refine aj_run (C := True) (pc' := 7) (la' := [some (.inr (.inr (some (2, 0)))), some (.inl i), none]) (st' := [.inl (g1 2 0 1), .inl i]) (M' := (P, g1, r0, n)) ok_X2_mark true 3 rfl trivial ?_
  refine aj_icmp_ge (tgt := 71) (ax_dec2 (i := .if_icmp .ge 64) (n := 3) ok_X2_mark rfl) (by decide) (fun c1 => ?_) (fun c1 => ?_)
  · refine aj_ret (r := none) (ax_dec2 (i := .return_) (n := 1) ok_X2_mark rfl) ⟨?_, ?_, by decide, by decide⟩ rfl
    · exact ⟨rfl, g1, rfl, i3, by rw [← hP.1.1, show g 2 0 1 = i by omega]; exact i4⟩
    · exact trivial
  · have hih : i < h 50 0 2 := by omega
    obtain ⟨d2, d3, d33, d4, d5⟩ := hD i i1 hih
    have q2 := i3 5 i 2 (by unfold TMk; omega)
    have q3 := i3 5 i 3 (by unfold TMk; omega)
    have q4 := i3 5 i 4 (by unfold TMk; omega)
    have hfi := hf i i1 hih
    have hb01 := bI_01 (p := 0 ≤ h 129 0 i)
    refine aj_run (C := True) (pc' := 15) (la' := [some (.inr (.inr (some (2, 0)))), some (.inl i), none]) (st' := [.inl i, .inr (.inr (some (200, 0)))]) (M' := (P, g1, r0, n)) ok_X2_mark true 3 rfl trivial ?_
    refine aj_aald (f := 200) (g := 5) (o := 0) (i := i) (u := i) (E := "AntsTurn$Ant") rfl rfl rfl ⟨by omega, by have z9 := hA.1.1; show i < n 200 0; omega⟩ (hA.2 i (by omega) (by omega)).1.1 (hA.2 i (by omega) (by omega)).1.2 (ax_dec2 (i := .aaload) (n := 1) ok_X2_mark rfl) ?_
    refine aj_run (C := True) (pc' := 21) (la' := [some (.inr (.inr (some (2, 0)))), some (.inl i), some (.inr (.inr (some (5, i))))]) (st' := [.inl (g1 5 i 2)]) (M' := (P, g1, r0, n)) ok_X2_mark true 3 rfl trivial ?_
    refine aj_if_eq (tgt := 65) (ax_dec2 (i := .ifCond .eq 44) (n := 3) ok_X2_mark rfl) (by decide) (fun c2 => ?_) (fun c2 => ?_)
    · refine aj_run (C := (-2147483648 ≤ i + 1 ∧ i + 1 ≤ 2147483647) ∧ True) (pc' := 2) (la' := [some (.inr (.inr (some (2, 0)))), some (.inl (i + 1)), some (.inr (.inr (some (5, i))))]) (st' := []) (M' := (P, g1, r0, n)) ok_X2_mark true 2 rfl (by refine ⟨?_, trivial⟩ <;> (omega)) ?_
      refine aj_forget (la' := [some (.inr (.inr (some (2, 0)))), some (.inl (i + 1)), none]) (by simp [ax_fg]) ?_
      refine ih2 (i + 1, g1) ?_ ?_
      · (try dsimp only); exact ⟨by omega, by omega, i3, cMk_n i1 i4 (by have := bI_e0 (p := 0 ≤ h 129 0 i) (by omega); omega)⟩
      · omega
    · refine aj_run (C := True) (pc' := 29) (la' := [some (.inr (.inr (some (2, 0)))), some (.inl i), some (.inr (.inr (some (5, i))))]) (st' := [.inl 1, .inl (g1 5 i 4)]) (M' := (P, g1, r0, n)) ok_X2_mark true 3 rfl trivial ?_
      refine aj_icmp_ne (tgt := 50) (ax_dec2 (i := .if_icmp .ne 21) (n := 3) ok_X2_mark rfl) (by decide) (fun c3 => ?_) (fun c3 => ?_)
      · refine aj_run (C := (0 ≤ g1 5 i 3 ∧ g1 5 i 3 < n 215 0) ∧ (0 ≤ g1 5 i 3 ∧ g1 5 i 3 < n 215 0) ∧ (-2147483648 ≤ i + 1 ∧ i + 1 ≤ 2147483647) ∧ True) (pc' := 2) (la' := [some (.inr (.inr (some (2, 0)))), some (.inl (i + 1)), some (.inr (.inr (some (5, i))))]) (st' := []) (M' := (P, ax_u3 g1 215 0 (g1 5 i 3) (ax_or (g1 215 0 (g1 5 i 3)) (ax_shl 1 i)), r0, n)) ok_X2_mark true 13 rfl (by refine ⟨?_, ?_, ?_, trivial⟩ <;> (omega)) ?_
        refine aj_forget (la' := [some (.inr (.inr (some (2, 0)))), some (.inl (i + 1)), none]) (by simp [ax_fg]) ?_
        refine ih2 (i + 1, ax_u3 g1 215 0 (g1 5 i 3) (ax_or (g1 215 0 (g1 5 i 3)) (ax_shl 1 i))) ?_ ?_
        · (try dsimp only); (have hon := bI_n0 (p := 0 ≤ h 129 0 i) (by omega); have hp := d3 hon; exact ⟨by omega, by omega, fun f o j w => by unfold TMk at w; rw [ax_u3_n (by omega)]; exact i3 f o j w, cMk_R i1 (by omega) i4 (by omega) (by omega) (by omega) (by omega) rfl⟩)
        · omega
      · refine aj_run (C := (0 ≤ g1 5 i 3 ∧ g1 5 i 3 < n 214 0) ∧ (0 ≤ g1 5 i 3 ∧ g1 5 i 3 < n 214 0) ∧ (-2147483648 ≤ i + 1 ∧ i + 1 ≤ 2147483647) ∧ True) (pc' := 2) (la' := [some (.inr (.inr (some (2, 0)))), some (.inl (i + 1)), some (.inr (.inr (some (5, i))))]) (st' := []) (M' := (P, ax_u3 g1 214 0 (g1 5 i 3) (ax_or (g1 214 0 (g1 5 i 3)) (ax_shl 1 i)), r0, n)) ok_X2_mark true 14 rfl (by refine ⟨?_, ?_, ?_, trivial⟩ <;> (omega)) ?_
        refine aj_forget (la' := [some (.inr (.inr (some (2, 0)))), some (.inl (i + 1)), none]) (by simp [ax_fg]) ?_
        refine ih2 (i + 1, ax_u3 g1 214 0 (g1 5 i 3) (ax_or (g1 214 0 (g1 5 i 3)) (ax_shl 1 i))) ?_ ?_
        · (try dsimp only); (have hon := bI_n0 (p := 0 ≤ h 129 0 i) (by omega); have hp := d3 hon; exact ⟨by omega, by omega, fun f o j w => by unfold TMk at w; rw [ax_u3_n (by omega)]; exact i3 f o j w, cMk_L i1 (by omega) i4 (by omega) (by omega) (by omega) (by omega) rfl⟩)
        · omega

set_option maxRecDepth 100000 in
set_option maxHeartbeats 4000000 in
theorem cp_unmark (P : Nat → Int → Prop) (g : Nat → Int → Int → Int) (r0 : Nat → Int → Int → Option (Nat × Int)) (n : Nat → Int → Int) (hA : cAn P r0 n (g 2 0 1)) (hn2 : n 214 0 = 81 ∧ n 215 0 = 81) (hp : ∀ a, 0 ≤ a → a < g 2 0 1 → 0 ≤ g 5 a 3 ∧ g 5 a 3 ≤ 80) (hz : ∀ p, 0 ≤ p → p ≤ 80 → (∀ a, 0 ≤ a → a < g 2 0 1 → g 5 a 3 ≠ p) → g 214 0 p = 0 ∧ g 215 0 p = 0) : ax_S yX2_unmark cX2_unmark 2 none 0 0 0 [.inr (.inr (some (2, 0)))] (P, g, r0, n) (fun r M' => r = none ∧ ∃ g', M' = (P, g', r0, n) ∧ cFr TMk g' g ∧ ∀ p, 0 ≤ p → p ≤ 80 → g' 214 0 p = 0 ∧ g' 215 0 p = 0) := by
  have hA1 := hA.1
  refine ax_S_of (own := 2) (by decide) rfl (fun h => absurd h (by decide)) rfl (Nat.le_of_ble_eq_true rfl) ?_
  change ax_J _ _ _ _ _ _ _ _ _ _ [some (.inr (.inr (some (2, 0)))), none] _ _
  refine aj_run (C := True) (pc' := 2) (la' := [some (.inr (.inr (some (2, 0)))), some (.inl 0)]) (st' := []) (M' := (P, g, r0, n)) ok_X2_unmark true 2 rfl trivial ?_
  refine aj_loop (σ := (Int) × (Nat → Int → Int → Int)) (fun xL => 0 ≤ xL.1 ∧ xL.1 ≤ g 2 0 1 ∧ cFr TMk xL.2 g ∧ ∀ p, 0 ≤ p → p ≤ 80 → (∀ a, xL.1 ≤ a → a < g 2 0 1 → g 5 a 3 ≠ p) → xL.2 214 0 p = 0 ∧ xL.2 215 0 p = 0) (fun xL => (g 2 0 1 - xL.1).toNat) (fun xL => [some (.inr (.inr (some (2, 0)))), some (.inl xL.1)]) (fun xL => []) (fun xL => (P, xL.2, r0, n)) ?_ (0, g) ?_
  rotate_left
  · exact ⟨by omega, by omega, fun _ _ _ _ => rfl, hz⟩
  rintro ⟨i, g1⟩ hI ih2
  try dsimp only at hI ih2
  obtain ⟨i1, i2, i3, i4⟩ := hI
  change ax_J _ _ _ _ _ _ _ _ _ 2 [some (.inr (.inr (some (2, 0)))), some (.inl i)] [] (P, g1, r0, n)
  have hsz1 : g1 2 0 1 = g 2 0 1 := i3 2 0 1 (by unfold TMk; omega)
  refine aj_run (C := True) (pc' := 7) (la' := [some (.inr (.inr (some (2, 0)))), some (.inl i)]) (st' := [.inl (g1 2 0 1), .inl i]) (M' := (P, g1, r0, n)) ok_X2_unmark true 3 rfl trivial ?_
  refine aj_icmp_ge (tgt := 46) (ax_dec2 (i := .if_icmp .ge 39) (n := 3) ok_X2_unmark rfl) (by decide) (fun c1 => ?_) (fun c1 => ?_)
  · refine aj_ret (r := none) (ax_dec2 (i := .return_) (n := 1) ok_X2_unmark rfl) ⟨?_, ?_, by decide, by decide⟩ rfl
    · exact ⟨rfl, g1, rfl, i3, fun p z1 z2 => i4 p z1 z2 (fun a y1 y2 => by omega)⟩
    · exact trivial
  · have hpi := hp i i1 (by omega)
    have q3 := i3 5 i 3 (by unfold TMk; omega)
    refine aj_run (C := True) (pc' := 19) (la' := [some (.inr (.inr (some (2, 0)))), some (.inl i)]) (st' := [.inl i, .inr (.inr (some (200, 0))), .inr (.inr (some (214, 0)))]) (M' := (P, g1, r0, n)) ok_X2_unmark true 5 rfl trivial ?_
    refine aj_aald (f := 200) (g := 5) (o := 0) (i := i) (u := i) (E := "AntsTurn$Ant") rfl rfl rfl ⟨by omega, by have z9 := hA.1.1; show i < n 200 0; omega⟩ (hA.2 i (by omega) (by omega)).1.1 (hA.2 i (by omega) (by omega)).1.2 (ax_dec2 (i := .aaload) (n := 1) ok_X2_unmark rfl) ?_
    refine aj_run (C := (0 ≤ g1 5 i 3 ∧ g1 5 i 3 < n 214 0) ∧ True) (pc' := 34) (la' := [some (.inr (.inr (some (2, 0)))), some (.inl i)]) (st' := [.inl i, .inr (.inr (some (200, 0))), .inr (.inr (some (215, 0)))]) (M' := (P, ax_u3 g1 214 0 (g1 5 i 3) 0, r0, n)) ok_X2_unmark true 8 rfl (by refine ⟨?_, trivial⟩ <;> (omega)) ?_
    refine aj_aald (f := 200) (g := 5) (o := 0) (i := i) (u := i) (E := "AntsTurn$Ant") rfl rfl rfl ⟨by omega, by have z9 := hA.1.1; show i < n 200 0; omega⟩ (hA.2 i (by omega) (by omega)).1.1 (hA.2 i (by omega) (by omega)).1.2 (ax_dec2 (i := .aaload) (n := 1) ok_X2_unmark rfl) ?_
    refine aj_run (C := (0 ≤ g1 5 i 3 ∧ g1 5 i 3 < n 215 0) ∧ (-2147483648 ≤ i + 1 ∧ i + 1 ≤ 2147483647) ∧ True) (pc' := 2) (la' := [some (.inr (.inr (some (2, 0)))), some (.inl (i + 1))]) (st' := []) (M' := (P, ax_u3 (ax_u3 g1 214 0 (g1 5 i 3) 0) 215 0 (g1 5 i 3) 0, r0, n)) ok_X2_unmark true 5 rfl (by refine ⟨?_, ?_, trivial⟩ <;> (omega)) ?_
    refine ih2 (i + 1, ax_u3 (ax_u3 g1 214 0 (g1 5 i 3) 0) 215 0 (g1 5 i 3) 0) ?_ ?_
    · (try dsimp only); exact ⟨by omega, by omega, fun f o j w => by unfold TMk at w; rw [ax_u3_n (by omega), ax_u3_n (by omega)]; exact i3 f o j w, fun p z1 z2 z3 => by
      by_cases e : p = g1 5 i 3
      · rw [ax_u3_f (f' := 214) (by decide), e, ax_u3_s]
        exact ⟨rfl, ax_u3_s⟩
      · rw [ax_u3_n (by omega), ax_u3_n (by omega), ax_u3_n (by omega), ax_u3_n (by omega)]
        exact i4 p z1 z2 (fun a y1 y2 => by by_cases ea : a = i; rw [ea]; omega; exact z3 a (by omega) y2)⟩
    · omega

/-- the row of bits of those that stand against an ant -/
theorem cFace {g h : Nat → Int → Int → Int} {a pl : Int} (hm : cMk g h (h 50 0 2)) (hf : ∀ a, 0 ≤ a → a < h 50 0 2 → h 130 0 a = 0 ∨ h 130 0 a = 1) (h0 : 0 ≤ pl) (h8 : pl ≤ 80) (hp : h 129 0 a = pl) : (h 130 0 a = 1 → g 215 0 pl = mS (cnd h a) (h 50 0 2)) ∧ (h 130 0 a = 0 → g 214 0 pl = mS (cnd h a) (h 50 0 2)) := by
  obtain ⟨m1, m2⟩ := hm pl h0 h8
  refine ⟨fun c => ?_, fun c => ?_⟩
  · rw [m2]
    exact mS_cg fun i z1 z2 => by have := hf i z1 z2; unfold cnd; omega
  · rw [m1]
    exact mS_cg fun i z1 z2 => by have := hf i z1 z2; unfold cnd; omega
set_option maxRecDepth 100000 in
set_option maxHeartbeats 4000000 in
theorem cp_handOver (P : Nat → Int → Prop) (g : Nat → Int → Int → Int) (r0 : Nat → Int → Int → Option (Nat × Int)) (n : Nat → Int → Int) (hA : cAn P r0 n (g 2 0 1)) (h : Nat → Int → Int → Int) (hP : cPl g h n) (hf : ∀ a, 0 ≤ a → a < h 50 0 2 → h 130 0 a = 0 ∨ h 130 0 a = 1) (hD : ∀ a, 0 ≤ a → a < h 50 0 2 → cD1 g h a) (hn2 : n 214 0 = 81 ∧ n 215 0 = 81) (hm : cMk g h (h 50 0 2)) (hc5 : g 2 0 5 = h 50 0 41) (hcr0 : h 50 0 41 = -1 ∨ (0 ≤ h 50 0 41 ∧ h 50 0 41 < h 50 0 2)) : ax_S yX2_handOver cX2_handOver 3 none 1 0 0 [.inr (.inr (some (2, 0)))] (P, g, r0, n) (fun r M' => r = none ∧ ∃ g', M' = (P, g', r0, n) ∧ cFr (fun f o j => f = 2 ∧ o = 0 ∧ j = 5) g' g ∧ g' 2 0 5 = wNxO h (h 50 0 2)) := by
  have hA1 := hA.1
  have hP1 := hP.1
  refine ax_S_of (own := 2) (by decide) rfl (fun h => absurd h (by decide)) rfl (Nat.le_of_ble_eq_true rfl) ?_
  change ax_J _ _ _ _ _ _ _ _ _ _ [some (.inr (.inr (some (2, 0)))), none, none] _ _
  refine aj_run (C := True) (pc' := 5) (la' := [some (.inr (.inr (some (2, 0)))), none, none]) (st' := [.inl (-1), .inl (g 2 0 5)]) (M' := (P, g, r0, n)) ok_X2_handOver true 3 rfl trivial ?_
  refine aj_icmp_eq (tgt := 23) (ax_dec2 (i := .if_icmp .eq 18) (n := 3) ok_X2_handOver rfl) (by decide) (fun c1 => ?_) (fun c1 => ?_)
  · refine aj_ret (r := none) (ax_dec2 (i := .return_) (n := 1) ok_X2_handOver rfl) ⟨?_, ?_, by decide, by decide⟩ rfl
    · first | exact ⟨rfl, _, rfl, fun f o j w => rfl, by rw [wNxO_v (by omega) rfl, ← hc5, if_neg (by omega)]⟩ | (have hof := bI_e0 (p := 0 ≤ h 129 0 (g 2 0 5)) (by omega); exact ⟨rfl, _, rfl, fun f o j w => rfl, by rw [wNxO_v (by omega) rfl, ← hc5, if_neg (fun z => hof ((cF_V (q := cnd h (g 2 0 5)) (m := h 50 0 2) (by omega)).1 z.2).1)]⟩) | (have hon := bI_n0 (p := 0 ≤ h 129 0 (g 2 0 5)) (by omega); have hpl := (d3 hon).symm; have hF := cFace hm hf (by omega) (by omega) hpl; have hA9 := mS_A (q := cnd h (g 2 0 5)) (m := h 50 0 2) (by omega) (by omega); have e9 : mS (cnd h (g 2 0 5)) (h 50 0 2) = 0 := (by first | (rw [← hF.1 (by omega)]; omega) | (rw [← hF.2 (by omega)]; omega)); exact ⟨rfl, _, rfl, fun f o j w => rfl, by rw [wNxO_v (by omega) rfl, ← hc5, if_neg (by have := hA9.2.1.mp e9; omega)]⟩)
    · exact trivial
  · have hcr : 0 ≤ g 2 0 5 ∧ g 2 0 5 < h 50 0 2 := by omega
    obtain ⟨d2, d3, d33, d4, d5⟩ := hD _ hcr.1 hcr.2
    have hfi := hf _ hcr.1 hcr.2
    have hb01 := bI_01 (p := 0 ≤ h 129 0 (g 2 0 5))
    refine aj_run (C := True) (pc' := 16) (la' := [some (.inr (.inr (some (2, 0)))), none, none]) (st' := [.inl (g 2 0 5), .inr (.inr (some (200, 0)))]) (M' := (P, g, r0, n)) ok_X2_handOver true 4 rfl trivial ?_
    refine aj_aald (f := 200) (g := 5) (o := 0) (i := g 2 0 5) (u := g 2 0 5) (E := "AntsTurn$Ant") rfl rfl rfl ⟨by omega, by have z9 := hA.1.1; show g 2 0 5 < n 200 0; omega⟩ (hA.2 (g 2 0 5) (by omega) (by omega)).1.1 (hA.2 (g 2 0 5) (by omega) (by omega)).1.2 (ax_dec2 (i := .aaload) (n := 1) ok_X2_handOver rfl) ?_
    refine aj_run (C := True) (pc' := 20) (la' := [some (.inr (.inr (some (2, 0)))), none, none]) (st' := [.inl (g 5 (g 2 0 5) 2)]) (M' := (P, g, r0, n)) ok_X2_handOver true 1 rfl trivial ?_
    refine aj_if_ne (tgt := 24) (ax_dec2 (i := .ifCond .ne 4) (n := 3) ok_X2_handOver rfl) (by decide) (fun c2 => ?_) (fun c2 => ?_)
    · refine aj_run (C := True) (pc' := 32) (la' := [some (.inr (.inr (some (2, 0)))), none, none]) (st' := [.inl (g 2 0 5), .inr (.inr (some (200, 0)))]) (M' := (P, g, r0, n)) ok_X2_handOver true 4 rfl trivial ?_
      refine aj_aald (f := 200) (g := 5) (o := 0) (i := g 2 0 5) (u := g 2 0 5) (E := "AntsTurn$Ant") rfl rfl rfl ⟨by omega, by have z9 := hA.1.1; show g 2 0 5 < n 200 0; omega⟩ (hA.2 (g 2 0 5) (by omega) (by omega)).1.1 (hA.2 (g 2 0 5) (by omega) (by omega)).1.2 (ax_dec2 (i := .aaload) (n := 1) ok_X2_handOver rfl) ?_
      refine aj_run (C := True) (pc' := 39) (la' := [some (.inr (.inr (some (2, 0)))), some (.inr (.inr (some (5, g 2 0 5)))), none]) (st' := [.inl 1, .inl (g 5 (g 2 0 5) 4)]) (M' := (P, g, r0, n)) ok_X2_handOver true 4 rfl trivial ?_
      refine aj_icmp_ne (tgt := 54) (ax_dec2 (i := .if_icmp .ne 15) (n := 3) ok_X2_handOver rfl) (by decide) (fun c3 => ?_) (fun c3 => ?_)
      · refine aj_run (C := (0 ≤ g 5 (g 2 0 5) 3 ∧ g 5 (g 2 0 5) 3 < n 214 0) ∧ True) (pc' := 65) (la' := [some (.inr (.inr (some (2, 0)))), some (.inr (.inr (some (5, g 2 0 5)))), some (.inl (g 214 0 (g 5 (g 2 0 5) 3)))]) (st' := [.inl (g 214 0 (g 5 (g 2 0 5) 3))]) (M' := (P, g, r0, n)) ok_X2_handOver true 7 rfl (by refine ⟨?_, trivial⟩ <;> (omega)) ?_
        refine aj_if_eq (tgt := 81) (ax_dec2 (i := .ifCond .eq 16) (n := 3) ok_X2_handOver rfl) (by decide) (fun c4 => ?_) (fun c4 => ?_)
        · refine aj_ret (r := none) (ax_dec2 (i := .return_) (n := 1) ok_X2_handOver rfl) ⟨?_, ?_, by decide, by decide⟩ rfl
          · first | exact ⟨rfl, _, rfl, fun f o j w => rfl, by rw [wNxO_v (by omega) rfl, ← hc5, if_neg (by omega)]⟩ | (have hof := bI_e0 (p := 0 ≤ h 129 0 (g 2 0 5)) (by omega); exact ⟨rfl, _, rfl, fun f o j w => rfl, by rw [wNxO_v (by omega) rfl, ← hc5, if_neg (fun z => hof ((cF_V (q := cnd h (g 2 0 5)) (m := h 50 0 2) (by omega)).1 z.2).1)]⟩) | (have hon := bI_n0 (p := 0 ≤ h 129 0 (g 2 0 5)) (by omega); have hpl := (d3 hon).symm; have hF := cFace hm hf (by omega) (by omega) hpl; have hA9 := mS_A (q := cnd h (g 2 0 5)) (m := h 50 0 2) (by omega) (by omega); have e9 : mS (cnd h (g 2 0 5)) (h 50 0 2) = 0 := (by first | (rw [← hF.1 (by omega)]; omega) | (rw [← hF.2 (by omega)]; omega)); exact ⟨rfl, _, rfl, fun f o j w => rfl, by rw [wNxO_v (by omega) rfl, ← hc5, if_neg (by have := hA9.2.1.mp e9; omega)]⟩)
          · exact trivial
        · refine aj_run (C := True) (pc' := 71) (la' := [some (.inr (.inr (some (2, 0)))), some (.inr (.inr (some (5, g 2 0 5)))), some (.inl (g 214 0 (g 5 (g 2 0 5) 3)))]) (st' := [.inl (g 214 0 (g 5 (g 2 0 5) 3)), .inl (g 214 0 (g 5 (g 2 0 5) 3)), .inr (.inr (some (2, 0)))]) (M' := (P, g, r0, n)) ok_X2_handOver true 3 rfl trivial ?_
          refine aj_run (C := True) (pc' := 72) (la' := [some (.inr (.inr (some (2, 0)))), some (.inr (.inr (some (5, g 2 0 5)))), some (.inl (g 214 0 (g 5 (g 2 0 5) 3)))]) (st' := [.inl (Int.bmod (-(g 214 0 (g 5 (g 2 0 5) 3))) 4294967296), .inl (g 214 0 (g 5 (g 2 0 5) 3)), .inr (.inr (some (2, 0)))]) (M' := (P, g, r0, n)) ok_X2_handOver false 1 rfl trivial ?_
          refine aj_run (C := True) (pc' := 74) (la' := [some (.inr (.inr (some (2, 0)))), some (.inr (.inr (some (5, g 2 0 5)))), some (.inl (g 214 0 (g 5 (g 2 0 5) 3)))]) (st' := [.inl 1, .inl (ax_and (g 214 0 (g 5 (g 2 0 5) 3)) (Int.bmod (-(g 214 0 (g 5 (g 2 0 5) 3))) 4294967296)), .inr (.inr (some (2, 0)))]) (M' := (P, g, r0, n)) ok_X2_handOver true 2 rfl trivial ?_
          refine aj_run (C := True) (pc' := 75) (la' := [some (.inr (.inr (some (2, 0)))), some (.inr (.inr (some (5, g 2 0 5)))), some (.inl (g 214 0 (g 5 (g 2 0 5) 3)))]) (st' := [.inl (Int.bmod ((ax_and (g 214 0 (g 5 (g 2 0 5) 3)) (Int.bmod (-(g 214 0 (g 5 (g 2 0 5) 3))) 4294967296)) - 1) 4294967296), .inr (.inr (some (2, 0)))]) (M' := (P, g, r0, n)) ok_X2_handOver false 1 rfl trivial ?_
          refine aj_callS (av := [.inl (Int.bmod ((ax_and (g 214 0 (g 5 (g 2 0 5) 3)) (Int.bmod (-(g 214 0 (g 5 (g 2 0 5) 3))) 4294967296)) - 1) 4294967296)]) (st := [.inr (.inr (some (2, 0)))]) cal_J6_bitCount_0f7a4 lk_2_103 stc_J6_bitCount_0f7a4 (cp_bitCount (Int.bmod ((ax_and (g 214 0 (g 5 (g 2 0 5) 3)) (Int.bmod (-(g 214 0 (g 5 (g 2 0 5) 3))) 4294967296)) - 1) 4294967296) _ _ _ _) ⟨by decide, by decide, by decide, by decide⟩ (Nat.le_of_ble_eq_true rfl) (ax_dec2 (i := .invokestatic 103) (n := 3) ok_X2_handOver rfl) (fun r M' hq => ?_)
          obtain ⟨rfl, rfl⟩ := hq
          change ax_J _ _ _ _ _ _ _ _ _ 78 [some (.inr (.inr (some (2, 0)))), some (.inr (.inr (some (5, g 2 0 5)))), some (.inl (g 214 0 (g 5 (g 2 0 5) 3)))] [.inl (kBc (Int.bmod ((ax_and (g 214 0 (g 5 (g 2 0 5) 3)) (Int.bmod (-(g 214 0 (g 5 (g 2 0 5) 3))) 4294967296)) - 1) 4294967296)), .inr (.inr (some (2, 0)))] (P, g, r0, n)
          refine aj_run (C := True) (pc' := 81) (la' := [some (.inr (.inr (some (2, 0)))), some (.inr (.inr (some (5, g 2 0 5)))), some (.inl (g 214 0 (g 5 (g 2 0 5) 3)))]) (st' := []) (M' := (P, ax_u3 g 2 0 5 (kBc (Int.bmod ((ax_and (g 214 0 (g 5 (g 2 0 5) 3)) (Int.bmod (-(g 214 0 (g 5 (g 2 0 5) 3))) 4294967296)) - 1) 4294967296)), r0, n)) ok_X2_handOver true 1 rfl trivial ?_
          refine aj_ret (r := none) (ax_dec2 (i := .return_) (n := 1) ok_X2_handOver rfl) ⟨?_, ?_, by decide, by decide⟩ rfl
          · (have hon := bI_n0 (p := 0 ≤ h 129 0 (g 2 0 5)) (by omega); have hpl := (d3 hon).symm; have hF := cFace hm hf (by omega) (by omega) hpl; have hA9 := mS_A (q := cnd h (g 2 0 5)) (m := h 50 0 2) (by omega) (by omega); have e9 : g 214 0 (g 5 (g 2 0 5) 3) = mS (cnd h (g 2 0 5)) (h 50 0 2) := (by first | exact hF.1 (by omega) | exact hF.2 (by omega)); exact ⟨rfl, _, rfl, fun f o j w => ax_u3_n w, by rw [ax_u3_s, wNxO_v (by omega) rfl, ← hc5]; rw [e9] at *; rw [hA9.2.2.2 (by omega), if_pos ⟨hcr, by have := hA9.2.1; have := hA9.2.2.1; omega⟩]⟩)
          · exact trivial
      · refine aj_run (C := (0 ≤ g 5 (g 2 0 5) 3 ∧ g 5 (g 2 0 5) 3 < n 215 0) ∧ True) (pc' := 65) (la' := [some (.inr (.inr (some (2, 0)))), some (.inr (.inr (some (5, g 2 0 5)))), some (.inl (g 215 0 (g 5 (g 2 0 5) 3)))]) (st' := [.inl (g 215 0 (g 5 (g 2 0 5) 3))]) (M' := (P, g, r0, n)) ok_X2_handOver true 8 rfl (by refine ⟨?_, trivial⟩ <;> (omega)) ?_
        refine aj_if_eq (tgt := 81) (ax_dec2 (i := .ifCond .eq 16) (n := 3) ok_X2_handOver rfl) (by decide) (fun c5 => ?_) (fun c5 => ?_)
        · refine aj_ret (r := none) (ax_dec2 (i := .return_) (n := 1) ok_X2_handOver rfl) ⟨?_, ?_, by decide, by decide⟩ rfl
          · first | exact ⟨rfl, _, rfl, fun f o j w => rfl, by rw [wNxO_v (by omega) rfl, ← hc5, if_neg (by omega)]⟩ | (have hof := bI_e0 (p := 0 ≤ h 129 0 (g 2 0 5)) (by omega); exact ⟨rfl, _, rfl, fun f o j w => rfl, by rw [wNxO_v (by omega) rfl, ← hc5, if_neg (fun z => hof ((cF_V (q := cnd h (g 2 0 5)) (m := h 50 0 2) (by omega)).1 z.2).1)]⟩) | (have hon := bI_n0 (p := 0 ≤ h 129 0 (g 2 0 5)) (by omega); have hpl := (d3 hon).symm; have hF := cFace hm hf (by omega) (by omega) hpl; have hA9 := mS_A (q := cnd h (g 2 0 5)) (m := h 50 0 2) (by omega) (by omega); have e9 : mS (cnd h (g 2 0 5)) (h 50 0 2) = 0 := (by first | (rw [← hF.1 (by omega)]; omega) | (rw [← hF.2 (by omega)]; omega)); exact ⟨rfl, _, rfl, fun f o j w => rfl, by rw [wNxO_v (by omega) rfl, ← hc5, if_neg (by have := hA9.2.1.mp e9; omega)]⟩)
          · exact trivial
        · refine aj_run (C := True) (pc' := 71) (la' := [some (.inr (.inr (some (2, 0)))), some (.inr (.inr (some (5, g 2 0 5)))), some (.inl (g 215 0 (g 5 (g 2 0 5) 3)))]) (st' := [.inl (g 215 0 (g 5 (g 2 0 5) 3)), .inl (g 215 0 (g 5 (g 2 0 5) 3)), .inr (.inr (some (2, 0)))]) (M' := (P, g, r0, n)) ok_X2_handOver true 3 rfl trivial ?_
          refine aj_run (C := True) (pc' := 72) (la' := [some (.inr (.inr (some (2, 0)))), some (.inr (.inr (some (5, g 2 0 5)))), some (.inl (g 215 0 (g 5 (g 2 0 5) 3)))]) (st' := [.inl (Int.bmod (-(g 215 0 (g 5 (g 2 0 5) 3))) 4294967296), .inl (g 215 0 (g 5 (g 2 0 5) 3)), .inr (.inr (some (2, 0)))]) (M' := (P, g, r0, n)) ok_X2_handOver false 1 rfl trivial ?_
          refine aj_run (C := True) (pc' := 74) (la' := [some (.inr (.inr (some (2, 0)))), some (.inr (.inr (some (5, g 2 0 5)))), some (.inl (g 215 0 (g 5 (g 2 0 5) 3)))]) (st' := [.inl 1, .inl (ax_and (g 215 0 (g 5 (g 2 0 5) 3)) (Int.bmod (-(g 215 0 (g 5 (g 2 0 5) 3))) 4294967296)), .inr (.inr (some (2, 0)))]) (M' := (P, g, r0, n)) ok_X2_handOver true 2 rfl trivial ?_
          refine aj_run (C := True) (pc' := 75) (la' := [some (.inr (.inr (some (2, 0)))), some (.inr (.inr (some (5, g 2 0 5)))), some (.inl (g 215 0 (g 5 (g 2 0 5) 3)))]) (st' := [.inl (Int.bmod ((ax_and (g 215 0 (g 5 (g 2 0 5) 3)) (Int.bmod (-(g 215 0 (g 5 (g 2 0 5) 3))) 4294967296)) - 1) 4294967296), .inr (.inr (some (2, 0)))]) (M' := (P, g, r0, n)) ok_X2_handOver false 1 rfl trivial ?_
          refine aj_callS (av := [.inl (Int.bmod ((ax_and (g 215 0 (g 5 (g 2 0 5) 3)) (Int.bmod (-(g 215 0 (g 5 (g 2 0 5) 3))) 4294967296)) - 1) 4294967296)]) (st := [.inr (.inr (some (2, 0)))]) cal_J6_bitCount_0f7a4 lk_2_103 stc_J6_bitCount_0f7a4 (cp_bitCount (Int.bmod ((ax_and (g 215 0 (g 5 (g 2 0 5) 3)) (Int.bmod (-(g 215 0 (g 5 (g 2 0 5) 3))) 4294967296)) - 1) 4294967296) _ _ _ _) ⟨by decide, by decide, by decide, by decide⟩ (Nat.le_of_ble_eq_true rfl) (ax_dec2 (i := .invokestatic 103) (n := 3) ok_X2_handOver rfl) (fun r M' hq => ?_)
          obtain ⟨rfl, rfl⟩ := hq
          change ax_J _ _ _ _ _ _ _ _ _ 78 [some (.inr (.inr (some (2, 0)))), some (.inr (.inr (some (5, g 2 0 5)))), some (.inl (g 215 0 (g 5 (g 2 0 5) 3)))] [.inl (kBc (Int.bmod ((ax_and (g 215 0 (g 5 (g 2 0 5) 3)) (Int.bmod (-(g 215 0 (g 5 (g 2 0 5) 3))) 4294967296)) - 1) 4294967296)), .inr (.inr (some (2, 0)))] (P, g, r0, n)
          refine aj_run (C := True) (pc' := 81) (la' := [some (.inr (.inr (some (2, 0)))), some (.inr (.inr (some (5, g 2 0 5)))), some (.inl (g 215 0 (g 5 (g 2 0 5) 3)))]) (st' := []) (M' := (P, ax_u3 g 2 0 5 (kBc (Int.bmod ((ax_and (g 215 0 (g 5 (g 2 0 5) 3)) (Int.bmod (-(g 215 0 (g 5 (g 2 0 5) 3))) 4294967296)) - 1) 4294967296)), r0, n)) ok_X2_handOver true 1 rfl trivial ?_
          refine aj_ret (r := none) (ax_dec2 (i := .return_) (n := 1) ok_X2_handOver rfl) ⟨?_, ?_, by decide, by decide⟩ rfl
          · (have hon := bI_n0 (p := 0 ≤ h 129 0 (g 2 0 5)) (by omega); have hpl := (d3 hon).symm; have hF := cFace hm hf (by omega) (by omega) hpl; have hA9 := mS_A (q := cnd h (g 2 0 5)) (m := h 50 0 2) (by omega) (by omega); have e9 : g 215 0 (g 5 (g 2 0 5) 3) = mS (cnd h (g 2 0 5)) (h 50 0 2) := (by first | exact hF.1 (by omega) | exact hF.2 (by omega)); exact ⟨rfl, _, rfl, fun f o j w => ax_u3_n w, by rw [ax_u3_s, wNxO_v (by omega) rfl, ← hc5]; rw [e9] at *; rw [hA9.2.2.2 (by omega), if_pos ⟨hcr, by have := hA9.2.1; have := hA9.2.2.1; omega⟩]⟩)
          · exact trivial
    · refine aj_ret (r := none) (ax_dec2 (i := .return_) (n := 1) ok_X2_handOver rfl) ⟨?_, ?_, by decide, by decide⟩ rfl
      · first | exact ⟨rfl, _, rfl, fun f o j w => rfl, by rw [wNxO_v (by omega) rfl, ← hc5, if_neg (by omega)]⟩ | (have hof := bI_e0 (p := 0 ≤ h 129 0 (g 2 0 5)) (by omega); exact ⟨rfl, _, rfl, fun f o j w => rfl, by rw [wNxO_v (by omega) rfl, ← hc5, if_neg (fun z => hof ((cF_V (q := cnd h (g 2 0 5)) (m := h 50 0 2) (by omega)).1 z.2).1)]⟩) | (have hon := bI_n0 (p := 0 ≤ h 129 0 (g 2 0 5)) (by omega); have hpl := (d3 hon).symm; have hF := cFace hm hf (by omega) (by omega) hpl; have hA9 := mS_A (q := cnd h (g 2 0 5)) (m := h 50 0 2) (by omega) (by omega); have e9 : mS (cnd h (g 2 0 5)) (h 50 0 2) = 0 := (by first | (rw [← hF.1 (by omega)]; omega) | (rw [← hF.2 (by omega)]; omega)); exact ⟨rfl, _, rfl, fun f o j w => rfl, by rw [wNxO_v (by omega) rfl, ← hc5, if_neg (by have := hA9.2.1.mp e9; omega)]⟩)
      · exact trivial

