/-! ===== the ends of the plank, in the class ===== -/
def TEn (i : Int) : Nat → Int → Int → Prop := fun f o j => f = 216 ∨ f = 604 ∨ (f = 2 ∧ o = 0 ∧ j = 8) ∨ (f = 5 ∧ (0 ≤ o ∧ o < i) ∧ (j = 2 ∨ j = 4 ∨ j = 6 ∨ j = 7 ∨ j = 9 ∨ j = 10))
/-- how many leave -/
def cLv (h : Nat → Int → Int → Int) (k : Int) : Int := cSum (fun a => bI (wAE h a ≠ 0 ∧ wWb h a = 0)) k
theorem cLv_in {h : Nat → Int → Int → Int} {k : Int} (hk : 0 ≤ k) : 0 ≤ cLv h k ∧ cLv h k ≤ k := by
  have := cSum_in (f := fun a => bI (wAE h a ≠ 0 ∧ wWb h a = 0)) (c := 1) (fun a => by have := bI_01 (p := wAE h a ≠ 0 ∧ wWb h a = 0); omega) k.toNat
  rw [show ((k.toNat : Nat) : Int) = k by omega] at this
  unfold cLv
  omega
theorem cLv_s {h : Nat → Int → Int → Int} {k : Int} (hk : 0 ≤ k) : cLv h (k + 1) = cLv h k + bI (wAE h k ≠ 0 ∧ wWb h k = 0) := cSum_s hk
theorem wWb_v {h : Nat → Int → Int → Int} {i : Int} : wWb h i ≠ 0 ↔ (wBacks (h 103 0 i) (h 133 0 i) (h 107 0 i) ≠ 0 ∨ wEvA h 1 i ≠ 0) := by
  unfold wWb
  constructor
  · intro z
    by_cases c : wBacks (h 103 0 i) (h 133 0 i) (h 107 0 i) ≠ 0 ∨ wEvA h 1 i ≠ 0
    · exact c
    · rw [if_neg c] at z
      exact absurd rfl z
  · intro c
    rw [if_pos c]
    decide
theorem cNm_e2 {G h0 h : Nat → Int → Int → Int} {i : Int} (h00 : 0 ≤ h0 50 0 2) (h7 : h0 50 0 2 ≤ 7) (hm : cMk G h0 (h0 50 0 2)) (hf : ∀ a, 0 ≤ a → a < h0 50 0 2 → h0 130 0 a = 0 ∨ h0 130 0 a = 1) (i1 : 0 ≤ i) (i2 : i < h0 50 0 2) (z2 : h 50 0 2 = h0 50 0 2) (z129 : h 129 0 = h0 129 0) (hon : 0 ≤ h 129 0 i) (hd : cD1 G h i) (hb : G 2 0 12 = h 50 0 39) : ∀ j, 0 ≤ j → j < 6 → cNm G i j = wNm h i j := by
  obtain ⟨d2, d3, d33, d4, d5, d6, d7, d8, d9, d10⟩ := hd
  have d3' := d3 hon
  have ho := cOth h00 h7 hm hf i1 i2 (by rw [← z129]; exact d3'.symm) d33.1 d33.2
  intro j j1 j2
  unfold cNm wNm
  have e : j = 0 ∨ j = 1 ∨ j = 2 ∨ j = 3 ∨ j = 4 ∨ j = 5 := by omega
  rcases e with rfl | rfl | rfl | rfl | rfl | rfl
  · simp [d5]
  · simp [d3']
  · simp [d4]
  · simp [hb]
  · simp [ho, z129, z2]
  · simp
theorem cEn_0 {G h : Nat → Int → Int → Int} {i : Int} (hr : h 50 0 1 = 0) (hfi : h 130 0 i = 0 ∨ h 130 0 i = 1) (hk : 2 ≤ h 50 0 0) (hd : cD1 G h i) (hc : G 5 i 2 ≠ 0 → ¬ ((G 5 i 4 = 1 ∧ G 5 i 3 = 0) ∨ (G 5 i 4 ≠ 1 ∧ G 5 i 3 = 2 * h 50 0 0))) : wAE h i = 0 := by
  by_cases z : wAE h i = 0
  · exact z
  · obtain ⟨z1, z2⟩ := wAE_v.mp z
    obtain ⟨d2, d3, d33, d4, d5⟩ := hd
    have hon : 0 ≤ h 129 0 i := by omega
    have := d3 hon
    rw [bI_t hon] at d2
    exact absurd (by omega) (hc (by omega))
theorem cEn_n {X h : Nat → Int → Int → Int} {i : Int} (i1 : 0 ≤ i) (i2 : i < h 50 0 2) (hz : wAE h i = 0) (hd : cD1 X h i) : cD1 X (wEnds h) i := by
  have e : ∀ f, wE2C f = true → wEnds h f 0 i = h f 0 i := fun f hf => by rw [en_V hf i1 i2, if_neg (fun z => z hz)]
  unfold cD1 at *
  rw [e 129 rfl, e 130 rfl, e 132 rfl, e 133 rfl, e 135 rfl, e 136 rfl, en_o (f := 131) rfl (by decide) (by decide), en_o (f := 134) rfl (by decide) (by decide), en_o (f := 50) rfl (by decide) (by decide)]
  exact hd
theorem cEn_y {X G h : Nat → Int → Int → Int} {i : Int} (i1 : 0 ≤ i) (i2 : i < h 50 0 2) (hA : wAE h i ≠ 0) (hw : wWb h i ≠ 0) (hd : cD1 G h i) (hX : ∀ j, j ≠ 4 → j ≠ 6 → j ≠ 7 → X 5 i j = G 5 i j) (h4 : X 5 i 4 = 1 - G 5 i 4) (h6 : X 5 i 6 = Int.bmod (G 5 i 6 + 1) 4294967296) (h7 : X 5 i 7 = Int.bmod (G 5 i 7 + 1) 4294967296) : cD1 X (wEnds h) i := by
  obtain ⟨d2, d3, d33, d4, d5, d6, d7, d8, d9, d10⟩ := hd
  have e129 : wEnds h 129 0 i = h 129 0 i := by rw [en_V (f := 129) rfl i1 i2, if_pos hA, if_pos hw]; rfl
  have e130 : wEnds h 130 0 i = 1 - h 130 0 i := by rw [en_V (f := 130) rfl i1 i2, if_pos hA, if_pos hw]; rfl
  have e132 : wEnds h 132 0 i = Int.bmod (h 132 0 i + 1) 4294967296 := by rw [en_V (f := 132) rfl i1 i2, if_pos hA, if_pos hw]; rfl
  have e133 : wEnds h 133 0 i = Int.bmod (h 133 0 i + 1) 4294967296 := by rw [en_V (f := 133) rfl i1 i2, if_pos hA, if_pos hw]; rfl
  have e135 : wEnds h 135 0 i = h 135 0 i := by rw [en_V (f := 135) rfl i1 i2, if_pos hA, if_pos hw]; rfl
  have e136 : wEnds h 136 0 i = h 136 0 i := by rw [en_V (f := 136) rfl i1 i2, if_pos hA, if_pos hw]; rfl
  unfold cD1
  rw [e129, e130, e132, e133, e135, e136, en_o (f := 131) rfl (by decide) (by decide), en_o (f := 134) rfl (by decide) (by decide), en_o (f := 50) rfl (by decide) (by decide), h4, h6, h7, hX 2 (by decide) (by decide) (by decide), hX 3 (by decide) (by decide) (by decide), hX 5 (by decide) (by decide) (by decide), hX 8 (by decide) (by decide) (by decide), hX 9 (by decide) (by decide) (by decide), hX 10 (by decide) (by decide) (by decide), d4, d6, d7]
  exact ⟨d2, d3, d33, rfl, d5, rfl, rfl, d8, d9, d10⟩
theorem cEn_z {X G h : Nat → Int → Int → Int} {i : Int} (i1 : 0 ≤ i) (i2 : i < h 50 0 2) (hk : 2 ≤ h 50 0 0) (hA : wAE h i ≠ 0) (hw : wWb h i = 0) (hd : cD1 G h i) (hX : ∀ j, j ≠ 2 → j ≠ 9 → j ≠ 10 → X 5 i j = G 5 i j) (h2 : X 5 i 2 = 0) (h9 : X 5 i 9 = h 50 0 39) (h10 : X 5 i 10 = 1 - G 5 i 4) : cD1 X (wEnds h) i := by
  obtain ⟨d2, d3, d33, d4, d5, d6, d7, d8, d9, d10⟩ := hd
  have hw' : ¬ wWb h i ≠ 0 := fun z => z hw
  have e129 : wEnds h 129 0 i = -1 := by rw [en_V (f := 129) rfl i1 i2, if_pos hA, if_neg hw']; rfl
  have e130 : wEnds h 130 0 i = h 130 0 i := by rw [en_V (f := 130) rfl i1 i2, if_pos hA, if_neg hw']; rfl
  have e132 : wEnds h 132 0 i = h 132 0 i := by rw [en_V (f := 132) rfl i1 i2, if_pos hA, if_neg hw']; rfl
  have e133 : wEnds h 133 0 i = h 133 0 i := by rw [en_V (f := 133) rfl i1 i2, if_pos hA, if_neg hw']; rfl
  have e135 : wEnds h 135 0 i = h 50 0 39 := by rw [en_V (f := 135) rfl i1 i2, if_pos hA, if_neg hw']; rfl
  have e136 : wEnds h 136 0 i = bI (h 129 0 i ≠ 0) := by rw [en_V (f := 136) rfl i1 i2, if_pos hA, if_neg hw']; rfl
  obtain ⟨z1, z2⟩ := wAE_v.mp hA
  have e10 : bI (h 129 0 i ≠ 0) = 1 - h 130 0 i := by
    rcases z2 with z2 | z2
    · rw [bI_f (by omega)]; omega
    · rw [bI_t (by omega)]; omega
  unfold cD1
  rw [e129, e130, e132, e133, e135, e136, en_o (f := 131) rfl (by decide) (by decide), en_o (f := 134) rfl (by decide) (by decide), en_o (f := 50) rfl (by decide) (by decide), h2, h9, h10, hX 3 (by decide) (by decide) (by decide), hX 4 (by decide) (by decide) (by decide), hX 5 (by decide) (by decide) (by decide), hX 6 (by decide) (by decide) (by decide), hX 7 (by decide) (by decide) (by decide), hX 8 (by decide) (by decide) (by decide), d4, e10]
  exact ⟨by rw [bI_f (by omega)], fun z => absurd z (by decide), d33, rfl, d5, d6, d7, d8, rfl, rfl⟩
theorem cEn_fr {X g g1 : Nat → Int → Int → Int} {i : Int} (i1 : 0 ≤ i) (i3 : cFr (TEn i) g1 g) (hX : ∀ f o j, ¬ (f = 216 ∨ f = 604 ∨ (f = 2 ∧ o = 0 ∧ j = 8) ∨ (f = 5 ∧ o = i ∧ (j = 2 ∨ j = 4 ∨ j = 6 ∨ j = 7 ∨ j = 9 ∨ j = 10))) → X f o j = g1 f o j) : cFr (TEn (i + 1)) X g := fun f o j w => by
  unfold TEn at w
  exact (hX f o j (by omega)).trans (i3 f o j (by unfold TEn; omega))
theorem cEn_an {X g1 h : Nat → Int → Int → Int} {i : Int} (i4 : ∀ a, 0 ≤ a → a < i → cD1 g1 (wEnds h) a) (hi : cD1 X (wEnds h) i) (hfr : ∀ a j, a ≠ i → X 5 a j = g1 5 a j) : ∀ a, 0 ≤ a → a < i + 1 → cD1 X (wEnds h) a := fun a z1 z2 => by
  by_cases e : a = i
  · rw [e]; exact hi
  · exact cD1_c (fun j => hfr a j e) (i4 a z1 (by omega))
set_option maxRecDepth 100000 in
set_option maxHeartbeats 4000000 in
theorem cp_lookAtEnds (P : Nat → Int → Prop) (g : Nat → Int → Int → Int) (r0 : Nat → Int → Int → Option (Nat × Int)) (n : Nat → Int → Int) (hA : cAn P r0 n (g 2 0 1)) (h : Nat → Int → Int → Int) (hP : cPl g h n) (hf : ∀ a, 0 ≤ a → a < h 50 0 2 → h 130 0 a = 0 ∨ h 130 0 a = 1) (hD : ∀ a, 0 ≤ a → a < h 50 0 2 → cD1 g h a) (h6 : n 216 0 = 6) (hn2 : n 214 0 = 81 ∧ n 215 0 = 81) (h0 : Nat → Int → Int → Int) (z2 : h 50 0 2 = h0 50 0 2) (z129 : h 129 0 = h0 129 0) (hf0 : ∀ a, 0 ≤ a → a < h0 50 0 2 → h0 130 0 a = 0 ∨ h0 130 0 a = 1) (hm : cMk g h0 (h0 50 0 2)) (hr : h 50 0 1 = 0) (hkn : 2 ≤ h 50 0 0 ∧ h 50 0 0 ≤ 40) (hb : g 2 0 12 = h 50 0 39) (hst : 0 ≤ g 2 0 8 ∧ g 2 0 8 ≤ 7) (t : Int) (V : Int → (Int → Int) → Int) (hru : (r0 2 0 4 = some (6, t) ∧ P 6 t) ∧ cRu g n t V) (hVn : cVn V) (hV : ∀ p nm, V p nm = wVl h (3 * h 50 0 11 + p) nm) : ax_S yX2_lookAtEnds cX2_lookAtEnds 3 none 9 0 0 [.inr (.inr (some (2, 0)))] (P, g, r0, n) (fun r M' => r = none ∧ ∃ g', M' = (P, g', r0, n) ∧ cFr (TEn (g 2 0 1)) g' g ∧ (∀ a, 0 ≤ a → a < h 50 0 2 → cD1 g' (wEnds h) a) ∧ g' 2 0 8 = g 2 0 8 - cLv h (h 50 0 2)) := by
  have hA1 := hA.1
  have hP1 := hP.1
  refine ax_S_of (own := 2) (by decide) rfl (fun h => absurd h (by decide)) rfl (Nat.le_of_ble_eq_true rfl) ?_
  change ax_J _ _ _ _ _ _ _ _ _ _ [some (.inr (.inr (some (2, 0)))), none, none] _ _
  refine aj_run (C := True) (pc' := 2) (la' := [some (.inr (.inr (some (2, 0)))), some (.inl 0), none]) (st' := []) (M' := (P, g, r0, n)) ok_X2_lookAtEnds true 2 rfl trivial ?_
  refine aj_forget (la' := [some (.inr (.inr (some (2, 0)))), some (.inl 0), none]) (by simp [ax_fg]) ?_
  refine aj_loop (σ := (Int) × (Nat → Int → Int → Int)) (fun xL => 0 ≤ xL.1 ∧ xL.1 ≤ g 2 0 1 ∧ cFr (TEn xL.1) xL.2 g ∧ (∀ a, 0 ≤ a → a < xL.1 → cD1 xL.2 (wEnds h) a) ∧ xL.2 2 0 8 = g 2 0 8 - cLv h xL.1) (fun xL => (g 2 0 1 - xL.1).toNat) (fun xL => [some (.inr (.inr (some (2, 0)))), some (.inl xL.1), none]) (fun xL => []) (fun xL => (P, xL.2, r0, n)) ?_ (0, g) ?_
  rotate_left
  · (try dsimp only); exact ⟨by omega, by omega, fun _ _ _ _ => rfl, fun a z1 z2 => by omega, by rw [show cLv h 0 = 0 from rfl]; omega⟩
  rintro ⟨i, g1⟩ hI ih2
  try dsimp only at hI ih2
  obtain ⟨i1, i2, i3, i4, i5⟩ := hI
  change ax_J _ _ _ _ _ _ _ _ _ 2 [some (.inr (.inr (some (2, 0)))), some (.inl i), none] [] (P, g1, r0, n)
  have hsz1 : g1 2 0 1 = g 2 0 1 := i3 2 0 1 (by unfold TEn; omega)
  refine aj_run (C := True) (pc' := 7) (la' := [some (.inr (.inr (some (2, 0)))), some (.inl i), none]) (st' := [.inl (g1 2 0 1), .inl i]) (M' := (P, g1, r0, n)) ok_X2_lookAtEnds true 3 rfl trivial ?_
  refine aj_icmp_ge (tgt := 118) (ax_dec2 (i := .if_icmp .ge 111) (n := 3) ok_X2_lookAtEnds rfl) (by decide) (fun c1 => ?_) (fun c1 => ?_)
  · refine aj_ret (r := none) (ax_dec2 (i := .return_) (n := 1) ok_X2_lookAtEnds rfl) ⟨?_, ?_, by decide, by decide⟩ rfl
    · exact ⟨rfl, g1, rfl, fun f o j w => i3 f o j (fun z => w (by unfold TEn at *; omega)), fun a z1 z2 => i4 a z1 (by omega), by rw [show h 50 0 2 = i by omega]; exact i5⟩
    · exact trivial
  · have hih : i < h 50 0 2 := by omega
    have hih0 : i < h0 50 0 2 := by omega
    have hDi := hD i i1 hih
    have q := fun k => i3 5 i k (by unfold TEn; omega)
    have hDi1 : cD1 g1 h i := cD1_c q hDi
    obtain ⟨d2, d3, d33, d4, d5, d6, d7, d8, d9, d10⟩ := id hDi1
    have hfi := hf i i1 hih
    have hb01 := bI_01 (p := 0 ≤ h 129 0 i)
    have hm1 : cMk g1 h0 (h0 50 0 2) := fun p z1 z2 => by rw [i3 214 0 p (by unfold TEn; omega), i3 215 0 p (by unfold TEn; omega)]; exact hm p z1 z2
    have p12 := i3 2 0 12 (by unfold TEn; omega)
    have p2 := i3 2 0 2 (by unfold TEn; omega)
    have hAi := hA.2 i i1 (by omega)
    obtain ⟨e0, e1, e2, e3, e4⟩ := hP.2 i i1 hih
    have t3 := i3 500 i 3 (by unfold TEn; omega)
    have hLs := cLv_s (h := h) i1
    have hLi := cLv_in (h := h) i1
    have hbL := bI_01 (p := wAE h i ≠ 0 ∧ wWb h i = 0)
    refine aj_run (C := True) (pc' := 15) (la' := [some (.inr (.inr (some (2, 0)))), some (.inl i), none]) (st' := [.inl i, .inr (.inr (some (200, 0)))]) (M' := (P, g1, r0, n)) ok_X2_lookAtEnds true 3 rfl trivial ?_
    refine aj_aald (f := 200) (g := 5) (o := 0) (i := i) (u := i) (E := "AntsTurn$Ant") rfl rfl rfl ⟨by omega, by have z9 := hA.1.1; show i < n 200 0; omega⟩ (hA.2 i (by omega) (by omega)).1.1 (hA.2 i (by omega) (by omega)).1.2 (ax_dec2 (i := .aaload) (n := 1) ok_X2_lookAtEnds rfl) ?_
    refine aj_run (C := True) (pc' := 21) (la' := [some (.inr (.inr (some (2, 0)))), some (.inl i), some (.inr (.inr (some (5, i))))]) (st' := [.inl (g1 5 i 2)]) (M' := (P, g1, r0, n)) ok_X2_lookAtEnds true 3 rfl trivial ?_
    refine aj_if_eq (tgt := 112) (ax_dec2 (i := .ifCond .eq 91) (n := 3) ok_X2_lookAtEnds rfl) (by decide) (fun c2 => ?_) (fun c2 => ?_)
    · refine aj_run (C := (-2147483648 ≤ i + 1 ∧ i + 1 ≤ 2147483647) ∧ True) (pc' := 2) (la' := [some (.inr (.inr (some (2, 0)))), some (.inl (i + 1)), some (.inr (.inr (some (5, i))))]) (st' := []) (M' := (P, g1, r0, n)) ok_X2_lookAtEnds true 2 rfl (by refine ⟨?_, trivial⟩ <;> (first | omega | (constructor <;> omega))) ?_
      refine aj_forget (la' := [some (.inr (.inr (some (2, 0)))), some (.inl (i + 1)), none]) (by simp [ax_fg]) ?_
      refine ih2 (i + 1, g1) ?_ ?_
      · (try dsimp only); (have hz : wAE h i = 0 := cEn_0 hr hfi (by omega) hDi1 (by omega); exact ⟨by omega, by omega, cEn_fr i1 i3 (fun _ _ _ _ => rfl), cEn_an i4 (cEn_n i1 hih hz hDi1) (fun _ _ _ => rfl), by rw [hLs, bI_f (fun z => z.1 hz)]; omega⟩)
      · omega
    · refine aj_run (C := True) (pc' := 33) (la' := [some (.inr (.inr (some (2, 0)))), some (.inl i), some (.inr (.inr (some (5, i))))]) (st' := [.inl 1, .inl (g1 5 i 4), .inl (g1 5 i 3)]) (M' := (P, g1, r0, n)) ok_X2_lookAtEnds true 5 rfl trivial ?_
      refine aj_icmp_ne (tgt := 40) (ax_dec2 (i := .if_icmp .ne 7) (n := 3) ok_X2_lookAtEnds rfl) (by decide) (fun c3 => ?_) (fun c3 => ?_)
      · refine aj_run (C := (-2147483648 ≤ 2 * (g1 2 0 2) ∧ 2 * (g1 2 0 2) ≤ 2147483647) ∧ True) (pc' := 46) (la' := [some (.inr (.inr (some (2, 0)))), some (.inl i), some (.inr (.inr (some (5, i))))]) (st' := [.inl (2 * (g1 2 0 2)), .inl (g1 5 i 3)]) (M' := (P, g1, r0, n)) ok_X2_lookAtEnds true 4 rfl (by refine ⟨?_, trivial⟩ <;> (first | omega | (constructor <;> omega))) ?_
        refine aj_icmp_ne (tgt := 112) (ax_dec2 (i := .if_icmp .ne 66) (n := 3) ok_X2_lookAtEnds rfl) (by decide) (fun c4 => ?_) (fun c4 => ?_)
        · refine aj_run (C := (-2147483648 ≤ i + 1 ∧ i + 1 ≤ 2147483647) ∧ True) (pc' := 2) (la' := [some (.inr (.inr (some (2, 0)))), some (.inl (i + 1)), some (.inr (.inr (some (5, i))))]) (st' := []) (M' := (P, g1, r0, n)) ok_X2_lookAtEnds true 2 rfl (by refine ⟨?_, trivial⟩ <;> (first | omega | (constructor <;> omega))) ?_
          refine aj_forget (la' := [some (.inr (.inr (some (2, 0)))), some (.inl (i + 1)), none]) (by simp [ax_fg]) ?_
          refine ih2 (i + 1, g1) ?_ ?_
          · (try dsimp only); (have hz : wAE h i = 0 := cEn_0 hr hfi (by omega) hDi1 (by omega); exact ⟨by omega, by omega, cEn_fr i1 i3 (fun _ _ _ _ => rfl), cEn_an i4 (cEn_n i1 hih hz hDi1) (fun _ _ _ => rfl), by rw [hLs, bI_f (fun z => z.1 hz)]; omega⟩)
          · omega
        · have hon := bI_n0 (p := 0 ≤ h 129 0 i) (by omega)
          have hpl := d3 hon
          have hAE : wAE h i ≠ 0 := wAE_v.mpr ⟨hr, by omega⟩
          have hnm := cNm_e2 (by omega) (by omega) hm1 hf0 i1 hih0 z2 z129 hon hDi1 (by rw [p12]; exact hb)
          have hev : wEvA h 1 i = V 1 (cNm g1 i) := ((hVn 1 _ _ hnm).trans (hV 1 _)).symm
          have hbk : wBacks (kOf (n 5 i)) (g1 5 i 7) (g1 500 i 3) = wBacks (h 103 0 i) (h 133 0 i) (h 107 0 i) := by rw [e4, d7, t3, e3]
          have hWv := wWb_v (h := h) (i := i)
          rw [hev, ← hbk] at hWv
          have hkb : 0 ≤ kBc (ax_or (g1 214 0 (g1 5 i 3)) (g1 215 0 (g1 5 i 3))) ∧ kBc (ax_or (g1 214 0 (g1 5 i 3)) (g1 215 0 (g1 5 i 3))) ≤ 7 := by obtain ⟨m1, m2⟩ := hm1 _ d33.1 d33.2; rw [m1, m2, mS_U (q := qL h0 (g1 5 i 3)) (q' := qR h0 (g1 5 i 3)) (by omega) (by omega), (mS_A (by omega) (by omega)).1]; have := cN_in (q := fun b => qL h0 (g1 5 i 3) b ∨ qR h0 (g1 5 i 3) b) (m := h0 50 0 2) (by omega); omega
          have hruG : cRu g1 n t V := cRu_c (fun f j z1 z2 => i3 f t j (by unfold TEn; omega)) hru.2
          refine aj_run (C := True) (pc' := 52) (la' := [some (.inr (.inr (some (2, 0)))), some (.inl i), some (.inr (.inr (some (5, i))))]) (st' := [.inr (.inr (some (5, i))), .inl i, .inr (.inr (some (2, 0)))]) (M' := (P, g1, r0, n)) ok_X2_lookAtEnds true 3 rfl trivial ?_
          refine aj_callV (av := [.inl i, .inr (.inr (some (5, i)))]) (st := []) (f := 2) (o := 0) (ci := 2) cal_X2_look lk_2_112 ins_X2_look rfl sel_X2_look rfl (fun c9 h9 _ => by simpa [ax_ok] using h9) (cp_look i _ _ _ _ h6 hn2 d33 hkb) ⟨by decide, by decide, by decide, by decide⟩ (Nat.le_of_ble_eq_true rfl) (ax_dec2 (i := .invokevirtual 112) (n := 3) ok_X2_lookAtEnds rfl) (fun r M' hq => ?_)
          obtain ⟨rfl, rfl⟩ := hq
          change ax_J _ _ _ _ _ _ _ _ _ 55 [some (.inr (.inr (some (2, 0)))), some (.inl i), some (.inr (.inr (some (5, i))))] [] (P, cLook g1 i, r0, n)
          refine aj_run (C := True) (pc' := 56) (la' := [some (.inr (.inr (some (2, 0)))), some (.inl i), some (.inr (.inr (some (5, i))))]) (st' := [.inr (.inr (some (5, i)))]) (M' := (P, cLook g1 i, r0, n)) ok_X2_lookAtEnds true 1 rfl trivial ?_
          refine aj_d_returns lk_2_147 hAi.2.2 hAi.2.1.1 ⟨by decide, by decide, by decide, by decide⟩ (Nat.le_of_ble_eq_true rfl) (ax_dec2 (i := .invokevirtual 147) (n := 3) ok_X2_lookAtEnds rfl) ?_
          change ax_J _ _ _ _ _ _ _ _ _ 59 [some (.inr (.inr (some (2, 0)))), some (.inl i), some (.inr (.inr (some (5, i))))] [.inl (wBacks (kOf (n 5 i)) (g1 5 i 7) (g1 500 i 3))] (P, cLook g1 i, r0, n)
          refine aj_if_ne (tgt := 77) (ax_dec2 (i := .ifCond .ne 18) (n := 3) ok_X2_lookAtEnds rfl) (by decide) (fun c5 => ?_) (fun c5 => ?_)
          · refine aj_run (C := True) (pc' := 78) (la' := [some (.inr (.inr (some (2, 0)))), some (.inl i), some (.inr (.inr (some (5, i))))]) (st' := [.inr (.inr (some (5, i)))]) (M' := (P, cLook g1 i, r0, n)) ok_X2_lookAtEnds true 1 rfl trivial ?_
            refine aj_d_turnRound lk_2_144 hAi.2.2 (by show g1 5 i 4 = 0 ∨ g1 5 i 4 = 1; omega) ⟨by decide, by decide, by decide, by decide⟩ (Nat.le_of_ble_eq_true rfl) (ax_dec2 (i := .invokevirtual 144) (n := 3) ok_X2_lookAtEnds rfl) ?_
            change ax_J _ _ _ _ _ _ _ _ _ 81 [some (.inr (.inr (some (2, 0)))), some (.inl i), some (.inr (.inr (some (5, i))))] [] (P, ax_u3 (ax_u3 (cLook g1 i) 5 i 4 (1 - ((cLook g1 i) 5 i 4))) 5 i 6 (Int.bmod (((cLook g1 i) 5 i 6) + 1) 4294967296), r0, n)
            refine aj_run (C := True) (pc' := 86) (la' := [some (.inr (.inr (some (2, 0)))), some (.inl i), some (.inr (.inr (some (5, i))))]) (st' := [.inl ((ax_u3 (ax_u3 (cLook g1 i) 5 i 4 (1 - ((cLook g1 i) 5 i 4))) 5 i 6 (Int.bmod (((cLook g1 i) 5 i 6) + 1) 4294967296)) 5 i 7), .inr (.inr (some (5, i)))]) (M' := (P, ax_u3 (ax_u3 (cLook g1 i) 5 i 4 (1 - ((cLook g1 i) 5 i 4))) 5 i 6 (Int.bmod (((cLook g1 i) 5 i 6) + 1) 4294967296), r0, n)) ok_X2_lookAtEnds true 3 rfl trivial ?_
            refine aj_cast rfl (congrArg (fun (z9 : Int) => ([.inl z9, .inr (.inr (some (5, i)))] : List ax_V)) (show (ax_u3 (ax_u3 (cLook g1 i) 5 i 4 (1 - ((cLook g1 i) 5 i 4))) 5 i 6 (Int.bmod (((cLook g1 i) 5 i 6) + 1) 4294967296)) 5 i 7 = g1 5 i 7 from ((ax_u3_n (fun q => absurd q.2.2 (by decide))).trans (ax_u3_n (fun q => absurd q.2.2 (by decide)))).trans (rfl))) rfl ?_
            refine aj_run (C := True) (pc' := 87) (la' := [some (.inr (.inr (some (2, 0)))), some (.inl i), some (.inr (.inr (some (5, i))))]) (st' := [.inl 1, .inl (g1 5 i 7), .inr (.inr (some (5, i)))]) (M' := (P, ax_u3 (ax_u3 (cLook g1 i) 5 i 4 (1 - ((cLook g1 i) 5 i 4))) 5 i 6 (Int.bmod (((cLook g1 i) 5 i 6) + 1) 4294967296), r0, n)) ok_X2_lookAtEnds true 1 rfl trivial ?_
            refine aj_run (C := True) (pc' := 88) (la' := [some (.inr (.inr (some (2, 0)))), some (.inl i), some (.inr (.inr (some (5, i))))]) (st' := [.inl (Int.bmod ((g1 5 i 7) + 1) 4294967296), .inr (.inr (some (5, i)))]) (M' := (P, ax_u3 (ax_u3 (cLook g1 i) 5 i 4 (1 - ((cLook g1 i) 5 i 4))) 5 i 6 (Int.bmod (((cLook g1 i) 5 i 6) + 1) 4294967296), r0, n)) ok_X2_lookAtEnds false 1 rfl trivial ?_
            refine aj_run (C := (-2147483648 ≤ i + 1 ∧ i + 1 ≤ 2147483647) ∧ True) (pc' := 2) (la' := [some (.inr (.inr (some (2, 0)))), some (.inl (i + 1)), some (.inr (.inr (some (5, i))))]) (st' := []) (M' := (P, ax_u3 (ax_u3 (ax_u3 (cLook g1 i) 5 i 4 (1 - ((cLook g1 i) 5 i 4))) 5 i 6 (Int.bmod (((cLook g1 i) 5 i 6) + 1) 4294967296)) 5 i 7 (Int.bmod ((g1 5 i 7) + 1) 4294967296), r0, n)) ok_X2_lookAtEnds true 4 rfl (by refine ⟨?_, trivial⟩ <;> (first | omega | (constructor <;> omega))) ?_
            refine aj_forget (la' := [some (.inr (.inr (some (2, 0)))), some (.inl (i + 1)), none]) (by simp [ax_fg]) ?_
            refine ih2 (i + 1, ax_u3 (ax_u3 (ax_u3 (cLook g1 i) 5 i 4 (1 - ((cLook g1 i) 5 i 4))) 5 i 6 (Int.bmod (((cLook g1 i) 5 i 6) + 1) 4294967296)) 5 i 7 (Int.bmod ((g1 5 i 7) + 1) 4294967296)) ?_ ?_
            · (try dsimp only); (have hX : ∀ f o j, ¬ (f = 216 ∨ f = 604 ∨ (f = 2 ∧ o = 0 ∧ j = 8) ∨ (f = 5 ∧ o = i ∧ (j = 2 ∨ j = 4 ∨ j = 6 ∨ j = 7 ∨ j = 9 ∨ j = 10))) → (ax_u3 (ax_u3 (ax_u3 (cLook g1 i) 5 i 4 (1 - ((cLook g1 i) 5 i 4))) 5 i 6 (Int.bmod (((cLook g1 i) 5 i 6) + 1) 4294967296)) 5 i 7 (Int.bmod ((g1 5 i 7) + 1) 4294967296)) f o j = g1 f o j := (fun f o j w9 => by rw [ax_u3_n (by omega), ax_u3_n (by omega), ax_u3_n (by omega)]; exact cLook_f (by omega)); have hB : ∀ j, (cLook g1 i) 5 i j = g1 5 i j := (fun j => cLook_f (by omega)); have hWb := hWv.mpr (by first | (exact Or.inl (by assumption)) | (exact Or.inr (by assumption))); exact ⟨by omega, by omega, cEn_fr i1 i3 hX, cEn_an i4 (cEn_y i1 hih hAE hWb hDi1 (fun j y4 y6 y7 => by rw [ax_u3_n (by omega), ax_u3_n (by omega), ax_u3_n (by omega)]; exact hB j) (by rw [ax_u3_n (by omega), ax_u3_n (by omega), ax_u3_s, hB]) (by rw [ax_u3_n (by omega), ax_u3_s, hB]) (by first | exact ax_u3_s | (rw [ax_u3_s, hB]) | (rw [ax_u3_s, k57]))) (fun a j z => hX 5 a j (by omega)), by rw [ax_u3_n (by omega), ax_u3_n (by omega), ax_u3_n (by omega), hLs, bI_f (fun z => hWb z.2)]; first | exact i5.trans (by omega) | exact k28.trans (i5.trans (by omega))⟩)
            · omega
          · refine aj_run (C := True) (pc' := 63) (la' := [some (.inr (.inr (some (2, 0)))), some (.inl i), some (.inr (.inr (some (5, i))))]) (st' := [.inr (.inr (some (2, 0)))]) (M' := (P, cLook g1 i, r0, n)) ok_X2_lookAtEnds true 1 rfl trivial ?_
            refine aj_getR (f := 2) (k := 4) (g := 6) (o := 0) (u := t) (ax_lk_ok (q := (2, 4)) rfl) rfl rfl hru.1.1 hru.1.2 (ax_dec2 (i := .getfield 119) (n := 3) ok_X2_lookAtEnds rfl) ?_
            refine aj_run (C := True) (pc' := 71) (la' := [some (.inr (.inr (some (2, 0)))), some (.inl i), some (.inr (.inr (some (5, i))))]) (st' := [.inr (.inr (some (216, 0))), .inl 1, .inr (.inr (some (6, t)))]) (M' := (P, cLook g1 i, r0, n)) ok_X2_lookAtEnds true 3 rfl trivial ?_
            refine aj_callV (av := [.inl 1, .inr (.inr (some (216, 0)))]) (st := []) (f := 6) (o := t) (ci := 4) cal_X4_worth lk_2_123 ins_X4_worth rfl sel_X4_worth rfl (fun c9 h9 _ => by simpa [ax_ok] using h9) (cp_worth t 1 _ _ _ _ (by decide) ((cRu_c (fun f j y1 y2 => cLook_f (by omega)) hruG) 1 (by decide) (by decide)).1 h6) ⟨by decide, by decide, by decide, by decide⟩ (Nat.le_of_ble_eq_true rfl) (ax_dec2 (i := .invokevirtual 123) (n := 3) ok_X2_lookAtEnds rfl) (fun r M' hq => ?_)
            obtain ⟨rfl, g3, rfl, kfg3⟩ := hq
            rw [show cRe (cLook g1 i) t 1 ((cLook g1 i) 216 0) ((cLook g1 i) 604 t) = V 1 (cNm g1 i) from (((cRu_c (fun f j y1 y2 => cLook_f (by omega)) hruG) 1 (by decide) (by decide)).2 _ _).trans (hVn _ _ _ (fun j y1 y2 => cLook_r y1 y2))]
            have k28 : g3 2 0 8 = g1 2 0 8 := kfg3 2 0 8 (by omega)
            have k212 : g3 2 0 12 = g1 2 0 12 := kfg3 2 0 12 (by omega)
            have k54 : g3 5 i 4 = g1 5 i 4 := kfg3 5 i 4 (by omega)
            have k57 : g3 5 i 7 = g1 5 i 7 := kfg3 5 i 7 (by omega)
            change ax_J _ _ _ _ _ _ _ _ _ 74 [some (.inr (.inr (some (2, 0)))), some (.inl i), some (.inr (.inr (some (5, i))))] [.inl (V 1 (cNm g1 i))] (P, g3, r0, n)
            refine aj_if_eq (tgt := 94) (ax_dec2 (i := .ifCond .eq 20) (n := 3) ok_X2_lookAtEnds rfl) (by decide) (fun c6 => ?_) (fun c6 => ?_)
            · refine aj_run (C := True) (pc' := 99) (la' := [some (.inr (.inr (some (2, 0)))), some (.inl i), some (.inr (.inr (some (5, i))))]) (st' := [.inl (g3 2 0 12), .inr (.inr (some (5, i)))]) (M' := (P, g3, r0, n)) ok_X2_lookAtEnds true 3 rfl trivial ?_
              refine aj_d_leave lk_2_153 hAi.2.2 (by show g3 5 i 4 = 0 ∨ g3 5 i 4 = 1; omega) ⟨by decide, by decide, by decide, by decide⟩ (Nat.le_of_ble_eq_true rfl) (ax_dec2 (i := .invokevirtual 153) (n := 3) ok_X2_lookAtEnds rfl) ?_
              change ax_J _ _ _ _ _ _ _ _ _ 102 [some (.inr (.inr (some (2, 0)))), some (.inl i), some (.inr (.inr (some (5, i))))] [] (P, ax_u3 (ax_u3 (ax_u3 g3 5 i 2 0) 5 i 9 (g3 2 0 12)) 5 i 10 (1 - (g3 5 i 4)), r0, n)
              refine aj_run (C := (-2147483648 ≤ (g3 2 0 8) - 1 ∧ (g3 2 0 8) - 1 ≤ 2147483647) ∧ (-2147483648 ≤ i + 1 ∧ i + 1 ≤ 2147483647) ∧ True) (pc' := 2) (la' := [some (.inr (.inr (some (2, 0)))), some (.inl (i + 1)), some (.inr (.inr (some (5, i))))]) (st' := []) (M' := (P, ax_u3 (ax_u3 (ax_u3 (ax_u3 g3 5 i 2 0) 5 i 9 (g3 2 0 12)) 5 i 10 (1 - (g3 5 i 4))) 2 0 8 ((g3 2 0 8) - 1), r0, n)) ok_X2_lookAtEnds true 8 rfl (by refine ⟨?_, ?_, trivial⟩ <;> (first | omega | (constructor <;> omega))) ?_
              refine aj_forget (la' := [some (.inr (.inr (some (2, 0)))), some (.inl (i + 1)), none]) (by simp [ax_fg]) ?_
              refine ih2 (i + 1, ax_u3 (ax_u3 (ax_u3 (ax_u3 g3 5 i 2 0) 5 i 9 (g3 2 0 12)) 5 i 10 (1 - (g3 5 i 4))) 2 0 8 ((g3 2 0 8) - 1)) ?_ ?_
              · (try dsimp only); (have hX : ∀ f o j, ¬ (f = 216 ∨ f = 604 ∨ (f = 2 ∧ o = 0 ∧ j = 8) ∨ (f = 5 ∧ o = i ∧ (j = 2 ∨ j = 4 ∨ j = 6 ∨ j = 7 ∨ j = 9 ∨ j = 10))) → (ax_u3 (ax_u3 (ax_u3 (ax_u3 g3 5 i 2 0) 5 i 9 (g3 2 0 12)) 5 i 10 (1 - (g3 5 i 4))) 2 0 8 ((g3 2 0 8) - 1)) f o j = g1 f o j := (fun f o j w9 => by rw [ax_u3_n (by omega), ax_u3_n (by omega), ax_u3_n (by omega), ax_u3_n (by omega)]; exact (kfg3 _ _ _ (by omega)).trans (cLook_f (by omega))); have hB : ∀ j, (g3) 5 i j = g1 5 i j := (fun j => (kfg3 _ _ _ (by omega)).trans (cLook_f (by omega))); have hWb : wWb h i = 0 := (by by_cases z : wWb h i = 0; exact z; (rcases hWv.mp z with z9 | z9 <;> exact absurd z9 (by omega))); exact ⟨by omega, by omega, cEn_fr i1 i3 hX, cEn_an i4 (cEn_z i1 hih (by omega) hAE hWb hDi1 (fun j y2 y9 y10 => by rw [ax_u3_n (by omega), ax_u3_n (by omega), ax_u3_n (by omega), ax_u3_n (by omega)]; exact hB j) (by rw [ax_u3_n (by omega), ax_u3_n (by omega), ax_u3_n (by omega), ax_u3_s]) (by rw [ax_u3_n (by omega), ax_u3_n (by omega), ax_u3_s]; omega) (by rw [ax_u3_n (by omega), ax_u3_s, hB])) (fun a j z => hX 5 a j (by omega)), by rw [ax_u3_s, hLs, bI_t ⟨hAE, hWb⟩]; omega⟩)
              · omega
            · refine aj_run (C := True) (pc' := 78) (la' := [some (.inr (.inr (some (2, 0)))), some (.inl i), some (.inr (.inr (some (5, i))))]) (st' := [.inr (.inr (some (5, i)))]) (M' := (P, g3, r0, n)) ok_X2_lookAtEnds true 1 rfl trivial ?_
              refine aj_d_turnRound lk_2_144 hAi.2.2 (by show g3 5 i 4 = 0 ∨ g3 5 i 4 = 1; omega) ⟨by decide, by decide, by decide, by decide⟩ (Nat.le_of_ble_eq_true rfl) (ax_dec2 (i := .invokevirtual 144) (n := 3) ok_X2_lookAtEnds rfl) ?_
              change ax_J _ _ _ _ _ _ _ _ _ 81 [some (.inr (.inr (some (2, 0)))), some (.inl i), some (.inr (.inr (some (5, i))))] [] (P, ax_u3 (ax_u3 g3 5 i 4 (1 - (g3 5 i 4))) 5 i 6 (Int.bmod ((g3 5 i 6) + 1) 4294967296), r0, n)
              refine aj_run (C := True) (pc' := 86) (la' := [some (.inr (.inr (some (2, 0)))), some (.inl i), some (.inr (.inr (some (5, i))))]) (st' := [.inl ((ax_u3 (ax_u3 g3 5 i 4 (1 - (g3 5 i 4))) 5 i 6 (Int.bmod ((g3 5 i 6) + 1) 4294967296)) 5 i 7), .inr (.inr (some (5, i)))]) (M' := (P, ax_u3 (ax_u3 g3 5 i 4 (1 - (g3 5 i 4))) 5 i 6 (Int.bmod ((g3 5 i 6) + 1) 4294967296), r0, n)) ok_X2_lookAtEnds true 3 rfl trivial ?_
              refine aj_cast rfl (congrArg (fun (z9 : Int) => ([.inl z9, .inr (.inr (some (5, i)))] : List ax_V)) (show (ax_u3 (ax_u3 g3 5 i 4 (1 - (g3 5 i 4))) 5 i 6 (Int.bmod ((g3 5 i 6) + 1) 4294967296)) 5 i 7 = g3 5 i 7 from (ax_u3_n (fun q => absurd q.2.2 (by decide))).trans (ax_u3_n (fun q => absurd q.2.2 (by decide))))) rfl ?_
              refine aj_run (C := True) (pc' := 87) (la' := [some (.inr (.inr (some (2, 0)))), some (.inl i), some (.inr (.inr (some (5, i))))]) (st' := [.inl 1, .inl (g3 5 i 7), .inr (.inr (some (5, i)))]) (M' := (P, ax_u3 (ax_u3 g3 5 i 4 (1 - (g3 5 i 4))) 5 i 6 (Int.bmod ((g3 5 i 6) + 1) 4294967296), r0, n)) ok_X2_lookAtEnds true 1 rfl trivial ?_
              refine aj_run (C := True) (pc' := 88) (la' := [some (.inr (.inr (some (2, 0)))), some (.inl i), some (.inr (.inr (some (5, i))))]) (st' := [.inl (Int.bmod ((g3 5 i 7) + 1) 4294967296), .inr (.inr (some (5, i)))]) (M' := (P, ax_u3 (ax_u3 g3 5 i 4 (1 - (g3 5 i 4))) 5 i 6 (Int.bmod ((g3 5 i 6) + 1) 4294967296), r0, n)) ok_X2_lookAtEnds false 1 rfl trivial ?_
              refine aj_run (C := (-2147483648 ≤ i + 1 ∧ i + 1 ≤ 2147483647) ∧ True) (pc' := 2) (la' := [some (.inr (.inr (some (2, 0)))), some (.inl (i + 1)), some (.inr (.inr (some (5, i))))]) (st' := []) (M' := (P, ax_u3 (ax_u3 (ax_u3 g3 5 i 4 (1 - (g3 5 i 4))) 5 i 6 (Int.bmod ((g3 5 i 6) + 1) 4294967296)) 5 i 7 (Int.bmod ((g3 5 i 7) + 1) 4294967296), r0, n)) ok_X2_lookAtEnds true 4 rfl (by refine ⟨?_, trivial⟩ <;> (first | omega | (constructor <;> omega))) ?_
              refine aj_forget (la' := [some (.inr (.inr (some (2, 0)))), some (.inl (i + 1)), none]) (by simp [ax_fg]) ?_
              refine ih2 (i + 1, ax_u3 (ax_u3 (ax_u3 g3 5 i 4 (1 - (g3 5 i 4))) 5 i 6 (Int.bmod ((g3 5 i 6) + 1) 4294967296)) 5 i 7 (Int.bmod ((g3 5 i 7) + 1) 4294967296)) ?_ ?_
              · (try dsimp only); (have hX : ∀ f o j, ¬ (f = 216 ∨ f = 604 ∨ (f = 2 ∧ o = 0 ∧ j = 8) ∨ (f = 5 ∧ o = i ∧ (j = 2 ∨ j = 4 ∨ j = 6 ∨ j = 7 ∨ j = 9 ∨ j = 10))) → (ax_u3 (ax_u3 (ax_u3 g3 5 i 4 (1 - (g3 5 i 4))) 5 i 6 (Int.bmod ((g3 5 i 6) + 1) 4294967296)) 5 i 7 (Int.bmod ((g3 5 i 7) + 1) 4294967296)) f o j = g1 f o j := (fun f o j w9 => by rw [ax_u3_n (by omega), ax_u3_n (by omega), ax_u3_n (by omega)]; exact (kfg3 _ _ _ (by omega)).trans (cLook_f (by omega))); have hB : ∀ j, (g3) 5 i j = g1 5 i j := (fun j => (kfg3 _ _ _ (by omega)).trans (cLook_f (by omega))); have hWb := hWv.mpr (by first | (exact Or.inl (by assumption)) | (exact Or.inr (by assumption))); exact ⟨by omega, by omega, cEn_fr i1 i3 hX, cEn_an i4 (cEn_y i1 hih hAE hWb hDi1 (fun j y4 y6 y7 => by rw [ax_u3_n (by omega), ax_u3_n (by omega), ax_u3_n (by omega)]; exact hB j) (by rw [ax_u3_n (by omega), ax_u3_n (by omega), ax_u3_s, hB]) (by rw [ax_u3_n (by omega), ax_u3_s, hB]) (by first | exact ax_u3_s | (rw [ax_u3_s, hB]) | (rw [ax_u3_s, k57]))) (fun a j z => hX 5 a j (by omega)), by rw [ax_u3_n (by omega), ax_u3_n (by omega), ax_u3_n (by omega), hLs, bI_f (fun z => hWb z.2)]; first | exact i5.trans (by omega) | exact k28.trans (i5.trans (by omega))⟩)
              · omega
      · refine aj_run (C := True) (pc' := 46) (la' := [some (.inr (.inr (some (2, 0)))), some (.inl i), some (.inr (.inr (some (5, i))))]) (st' := [.inl 0, .inl (g1 5 i 3)]) (M' := (P, g1, r0, n)) ok_X2_lookAtEnds true 2 rfl trivial ?_
        refine aj_icmp_ne (tgt := 112) (ax_dec2 (i := .if_icmp .ne 66) (n := 3) ok_X2_lookAtEnds rfl) (by decide) (fun c7 => ?_) (fun c7 => ?_)
        · refine aj_run (C := (-2147483648 ≤ i + 1 ∧ i + 1 ≤ 2147483647) ∧ True) (pc' := 2) (la' := [some (.inr (.inr (some (2, 0)))), some (.inl (i + 1)), some (.inr (.inr (some (5, i))))]) (st' := []) (M' := (P, g1, r0, n)) ok_X2_lookAtEnds true 2 rfl (by refine ⟨?_, trivial⟩ <;> (first | omega | (constructor <;> omega))) ?_
          refine aj_forget (la' := [some (.inr (.inr (some (2, 0)))), some (.inl (i + 1)), none]) (by simp [ax_fg]) ?_
          refine ih2 (i + 1, g1) ?_ ?_
          · (try dsimp only); (have hz : wAE h i = 0 := cEn_0 hr hfi (by omega) hDi1 (by omega); exact ⟨by omega, by omega, cEn_fr i1 i3 (fun _ _ _ _ => rfl), cEn_an i4 (cEn_n i1 hih hz hDi1) (fun _ _ _ => rfl), by rw [hLs, bI_f (fun z => z.1 hz)]; omega⟩)
          · omega
        · have hon := bI_n0 (p := 0 ≤ h 129 0 i) (by omega)
          have hpl := d3 hon
          have hAE : wAE h i ≠ 0 := wAE_v.mpr ⟨hr, by omega⟩
          have hnm := cNm_e2 (by omega) (by omega) hm1 hf0 i1 hih0 z2 z129 hon hDi1 (by rw [p12]; exact hb)
          have hev : wEvA h 1 i = V 1 (cNm g1 i) := ((hVn 1 _ _ hnm).trans (hV 1 _)).symm
          have hbk : wBacks (kOf (n 5 i)) (g1 5 i 7) (g1 500 i 3) = wBacks (h 103 0 i) (h 133 0 i) (h 107 0 i) := by rw [e4, d7, t3, e3]
          have hWv := wWb_v (h := h) (i := i)
          rw [hev, ← hbk] at hWv
          have hkb : 0 ≤ kBc (ax_or (g1 214 0 (g1 5 i 3)) (g1 215 0 (g1 5 i 3))) ∧ kBc (ax_or (g1 214 0 (g1 5 i 3)) (g1 215 0 (g1 5 i 3))) ≤ 7 := by obtain ⟨m1, m2⟩ := hm1 _ d33.1 d33.2; rw [m1, m2, mS_U (q := qL h0 (g1 5 i 3)) (q' := qR h0 (g1 5 i 3)) (by omega) (by omega), (mS_A (by omega) (by omega)).1]; have := cN_in (q := fun b => qL h0 (g1 5 i 3) b ∨ qR h0 (g1 5 i 3) b) (m := h0 50 0 2) (by omega); omega
          have hruG : cRu g1 n t V := cRu_c (fun f j z1 z2 => i3 f t j (by unfold TEn; omega)) hru.2
          refine aj_run (C := True) (pc' := 52) (la' := [some (.inr (.inr (some (2, 0)))), some (.inl i), some (.inr (.inr (some (5, i))))]) (st' := [.inr (.inr (some (5, i))), .inl i, .inr (.inr (some (2, 0)))]) (M' := (P, g1, r0, n)) ok_X2_lookAtEnds true 3 rfl trivial ?_
          refine aj_callV (av := [.inl i, .inr (.inr (some (5, i)))]) (st := []) (f := 2) (o := 0) (ci := 2) cal_X2_look lk_2_112 ins_X2_look rfl sel_X2_look rfl (fun c9 h9 _ => by simpa [ax_ok] using h9) (cp_look i _ _ _ _ h6 hn2 d33 hkb) ⟨by decide, by decide, by decide, by decide⟩ (Nat.le_of_ble_eq_true rfl) (ax_dec2 (i := .invokevirtual 112) (n := 3) ok_X2_lookAtEnds rfl) (fun r M' hq => ?_)
          obtain ⟨rfl, rfl⟩ := hq
          change ax_J _ _ _ _ _ _ _ _ _ 55 [some (.inr (.inr (some (2, 0)))), some (.inl i), some (.inr (.inr (some (5, i))))] [] (P, cLook g1 i, r0, n)
          refine aj_run (C := True) (pc' := 56) (la' := [some (.inr (.inr (some (2, 0)))), some (.inl i), some (.inr (.inr (some (5, i))))]) (st' := [.inr (.inr (some (5, i)))]) (M' := (P, cLook g1 i, r0, n)) ok_X2_lookAtEnds true 1 rfl trivial ?_
          refine aj_d_returns lk_2_147 hAi.2.2 hAi.2.1.1 ⟨by decide, by decide, by decide, by decide⟩ (Nat.le_of_ble_eq_true rfl) (ax_dec2 (i := .invokevirtual 147) (n := 3) ok_X2_lookAtEnds rfl) ?_
          change ax_J _ _ _ _ _ _ _ _ _ 59 [some (.inr (.inr (some (2, 0)))), some (.inl i), some (.inr (.inr (some (5, i))))] [.inl (wBacks (kOf (n 5 i)) (g1 5 i 7) (g1 500 i 3))] (P, cLook g1 i, r0, n)
          refine aj_if_ne (tgt := 77) (ax_dec2 (i := .ifCond .ne 18) (n := 3) ok_X2_lookAtEnds rfl) (by decide) (fun c8 => ?_) (fun c8 => ?_)
          · refine aj_run (C := True) (pc' := 78) (la' := [some (.inr (.inr (some (2, 0)))), some (.inl i), some (.inr (.inr (some (5, i))))]) (st' := [.inr (.inr (some (5, i)))]) (M' := (P, cLook g1 i, r0, n)) ok_X2_lookAtEnds true 1 rfl trivial ?_
            refine aj_d_turnRound lk_2_144 hAi.2.2 (by show g1 5 i 4 = 0 ∨ g1 5 i 4 = 1; omega) ⟨by decide, by decide, by decide, by decide⟩ (Nat.le_of_ble_eq_true rfl) (ax_dec2 (i := .invokevirtual 144) (n := 3) ok_X2_lookAtEnds rfl) ?_
            change ax_J _ _ _ _ _ _ _ _ _ 81 [some (.inr (.inr (some (2, 0)))), some (.inl i), some (.inr (.inr (some (5, i))))] [] (P, ax_u3 (ax_u3 (cLook g1 i) 5 i 4 (1 - ((cLook g1 i) 5 i 4))) 5 i 6 (Int.bmod (((cLook g1 i) 5 i 6) + 1) 4294967296), r0, n)
            refine aj_run (C := True) (pc' := 86) (la' := [some (.inr (.inr (some (2, 0)))), some (.inl i), some (.inr (.inr (some (5, i))))]) (st' := [.inl ((ax_u3 (ax_u3 (cLook g1 i) 5 i 4 (1 - ((cLook g1 i) 5 i 4))) 5 i 6 (Int.bmod (((cLook g1 i) 5 i 6) + 1) 4294967296)) 5 i 7), .inr (.inr (some (5, i)))]) (M' := (P, ax_u3 (ax_u3 (cLook g1 i) 5 i 4 (1 - ((cLook g1 i) 5 i 4))) 5 i 6 (Int.bmod (((cLook g1 i) 5 i 6) + 1) 4294967296), r0, n)) ok_X2_lookAtEnds true 3 rfl trivial ?_
            refine aj_cast rfl (congrArg (fun (z9 : Int) => ([.inl z9, .inr (.inr (some (5, i)))] : List ax_V)) (show (ax_u3 (ax_u3 (cLook g1 i) 5 i 4 (1 - ((cLook g1 i) 5 i 4))) 5 i 6 (Int.bmod (((cLook g1 i) 5 i 6) + 1) 4294967296)) 5 i 7 = g1 5 i 7 from ((ax_u3_n (fun q => absurd q.2.2 (by decide))).trans (ax_u3_n (fun q => absurd q.2.2 (by decide)))).trans (rfl))) rfl ?_
            refine aj_run (C := True) (pc' := 87) (la' := [some (.inr (.inr (some (2, 0)))), some (.inl i), some (.inr (.inr (some (5, i))))]) (st' := [.inl 1, .inl (g1 5 i 7), .inr (.inr (some (5, i)))]) (M' := (P, ax_u3 (ax_u3 (cLook g1 i) 5 i 4 (1 - ((cLook g1 i) 5 i 4))) 5 i 6 (Int.bmod (((cLook g1 i) 5 i 6) + 1) 4294967296), r0, n)) ok_X2_lookAtEnds true 1 rfl trivial ?_
            refine aj_run (C := True) (pc' := 88) (la' := [some (.inr (.inr (some (2, 0)))), some (.inl i), some (.inr (.inr (some (5, i))))]) (st' := [.inl (Int.bmod ((g1 5 i 7) + 1) 4294967296), .inr (.inr (some (5, i)))]) (M' := (P, ax_u3 (ax_u3 (cLook g1 i) 5 i 4 (1 - ((cLook g1 i) 5 i 4))) 5 i 6 (Int.bmod (((cLook g1 i) 5 i 6) + 1) 4294967296), r0, n)) ok_X2_lookAtEnds false 1 rfl trivial ?_
            refine aj_run (C := (-2147483648 ≤ i + 1 ∧ i + 1 ≤ 2147483647) ∧ True) (pc' := 2) (la' := [some (.inr (.inr (some (2, 0)))), some (.inl (i + 1)), some (.inr (.inr (some (5, i))))]) (st' := []) (M' := (P, ax_u3 (ax_u3 (ax_u3 (cLook g1 i) 5 i 4 (1 - ((cLook g1 i) 5 i 4))) 5 i 6 (Int.bmod (((cLook g1 i) 5 i 6) + 1) 4294967296)) 5 i 7 (Int.bmod ((g1 5 i 7) + 1) 4294967296), r0, n)) ok_X2_lookAtEnds true 4 rfl (by refine ⟨?_, trivial⟩ <;> (first | omega | (constructor <;> omega))) ?_
            refine aj_forget (la' := [some (.inr (.inr (some (2, 0)))), some (.inl (i + 1)), none]) (by simp [ax_fg]) ?_
            refine ih2 (i + 1, ax_u3 (ax_u3 (ax_u3 (cLook g1 i) 5 i 4 (1 - ((cLook g1 i) 5 i 4))) 5 i 6 (Int.bmod (((cLook g1 i) 5 i 6) + 1) 4294967296)) 5 i 7 (Int.bmod ((g1 5 i 7) + 1) 4294967296)) ?_ ?_
            · (try dsimp only); (have hX : ∀ f o j, ¬ (f = 216 ∨ f = 604 ∨ (f = 2 ∧ o = 0 ∧ j = 8) ∨ (f = 5 ∧ o = i ∧ (j = 2 ∨ j = 4 ∨ j = 6 ∨ j = 7 ∨ j = 9 ∨ j = 10))) → (ax_u3 (ax_u3 (ax_u3 (cLook g1 i) 5 i 4 (1 - ((cLook g1 i) 5 i 4))) 5 i 6 (Int.bmod (((cLook g1 i) 5 i 6) + 1) 4294967296)) 5 i 7 (Int.bmod ((g1 5 i 7) + 1) 4294967296)) f o j = g1 f o j := (fun f o j w9 => by rw [ax_u3_n (by omega), ax_u3_n (by omega), ax_u3_n (by omega)]; exact cLook_f (by omega)); have hB : ∀ j, (cLook g1 i) 5 i j = g1 5 i j := (fun j => cLook_f (by omega)); have hWb := hWv.mpr (by first | (exact Or.inl (by assumption)) | (exact Or.inr (by assumption))); exact ⟨by omega, by omega, cEn_fr i1 i3 hX, cEn_an i4 (cEn_y i1 hih hAE hWb hDi1 (fun j y4 y6 y7 => by rw [ax_u3_n (by omega), ax_u3_n (by omega), ax_u3_n (by omega)]; exact hB j) (by rw [ax_u3_n (by omega), ax_u3_n (by omega), ax_u3_s, hB]) (by rw [ax_u3_n (by omega), ax_u3_s, hB]) (by first | exact ax_u3_s | (rw [ax_u3_s, hB]) | (rw [ax_u3_s, k57]))) (fun a j z => hX 5 a j (by omega)), by rw [ax_u3_n (by omega), ax_u3_n (by omega), ax_u3_n (by omega), hLs, bI_f (fun z => hWb z.2)]; first | exact i5.trans (by omega) | exact k28.trans (i5.trans (by omega))⟩)
            · omega
          · refine aj_run (C := True) (pc' := 63) (la' := [some (.inr (.inr (some (2, 0)))), some (.inl i), some (.inr (.inr (some (5, i))))]) (st' := [.inr (.inr (some (2, 0)))]) (M' := (P, cLook g1 i, r0, n)) ok_X2_lookAtEnds true 1 rfl trivial ?_
            refine aj_getR (f := 2) (k := 4) (g := 6) (o := 0) (u := t) (ax_lk_ok (q := (2, 4)) rfl) rfl rfl hru.1.1 hru.1.2 (ax_dec2 (i := .getfield 119) (n := 3) ok_X2_lookAtEnds rfl) ?_
            refine aj_run (C := True) (pc' := 71) (la' := [some (.inr (.inr (some (2, 0)))), some (.inl i), some (.inr (.inr (some (5, i))))]) (st' := [.inr (.inr (some (216, 0))), .inl 1, .inr (.inr (some (6, t)))]) (M' := (P, cLook g1 i, r0, n)) ok_X2_lookAtEnds true 3 rfl trivial ?_
            refine aj_callV (av := [.inl 1, .inr (.inr (some (216, 0)))]) (st := []) (f := 6) (o := t) (ci := 4) cal_X4_worth lk_2_123 ins_X4_worth rfl sel_X4_worth rfl (fun c9 h9 _ => by simpa [ax_ok] using h9) (cp_worth t 1 _ _ _ _ (by decide) ((cRu_c (fun f j y1 y2 => cLook_f (by omega)) hruG) 1 (by decide) (by decide)).1 h6) ⟨by decide, by decide, by decide, by decide⟩ (Nat.le_of_ble_eq_true rfl) (ax_dec2 (i := .invokevirtual 123) (n := 3) ok_X2_lookAtEnds rfl) (fun r M' hq => ?_)
            obtain ⟨rfl, g3, rfl, kfg3⟩ := hq
            rw [show cRe (cLook g1 i) t 1 ((cLook g1 i) 216 0) ((cLook g1 i) 604 t) = V 1 (cNm g1 i) from (((cRu_c (fun f j y1 y2 => cLook_f (by omega)) hruG) 1 (by decide) (by decide)).2 _ _).trans (hVn _ _ _ (fun j y1 y2 => cLook_r y1 y2))]
            have k28 : g3 2 0 8 = g1 2 0 8 := kfg3 2 0 8 (by omega)
            have k212 : g3 2 0 12 = g1 2 0 12 := kfg3 2 0 12 (by omega)
            have k54 : g3 5 i 4 = g1 5 i 4 := kfg3 5 i 4 (by omega)
            have k57 : g3 5 i 7 = g1 5 i 7 := kfg3 5 i 7 (by omega)
            change ax_J _ _ _ _ _ _ _ _ _ 74 [some (.inr (.inr (some (2, 0)))), some (.inl i), some (.inr (.inr (some (5, i))))] [.inl (V 1 (cNm g1 i))] (P, g3, r0, n)
            refine aj_if_eq (tgt := 94) (ax_dec2 (i := .ifCond .eq 20) (n := 3) ok_X2_lookAtEnds rfl) (by decide) (fun c9 => ?_) (fun c9 => ?_)
            · refine aj_run (C := True) (pc' := 99) (la' := [some (.inr (.inr (some (2, 0)))), some (.inl i), some (.inr (.inr (some (5, i))))]) (st' := [.inl (g3 2 0 12), .inr (.inr (some (5, i)))]) (M' := (P, g3, r0, n)) ok_X2_lookAtEnds true 3 rfl trivial ?_
              refine aj_d_leave lk_2_153 hAi.2.2 (by show g3 5 i 4 = 0 ∨ g3 5 i 4 = 1; omega) ⟨by decide, by decide, by decide, by decide⟩ (Nat.le_of_ble_eq_true rfl) (ax_dec2 (i := .invokevirtual 153) (n := 3) ok_X2_lookAtEnds rfl) ?_
              change ax_J _ _ _ _ _ _ _ _ _ 102 [some (.inr (.inr (some (2, 0)))), some (.inl i), some (.inr (.inr (some (5, i))))] [] (P, ax_u3 (ax_u3 (ax_u3 g3 5 i 2 0) 5 i 9 (g3 2 0 12)) 5 i 10 (1 - (g3 5 i 4)), r0, n)
              refine aj_run (C := (-2147483648 ≤ (g3 2 0 8) - 1 ∧ (g3 2 0 8) - 1 ≤ 2147483647) ∧ (-2147483648 ≤ i + 1 ∧ i + 1 ≤ 2147483647) ∧ True) (pc' := 2) (la' := [some (.inr (.inr (some (2, 0)))), some (.inl (i + 1)), some (.inr (.inr (some (5, i))))]) (st' := []) (M' := (P, ax_u3 (ax_u3 (ax_u3 (ax_u3 g3 5 i 2 0) 5 i 9 (g3 2 0 12)) 5 i 10 (1 - (g3 5 i 4))) 2 0 8 ((g3 2 0 8) - 1), r0, n)) ok_X2_lookAtEnds true 8 rfl (by refine ⟨?_, ?_, trivial⟩ <;> (first | omega | (constructor <;> omega))) ?_
              refine aj_forget (la' := [some (.inr (.inr (some (2, 0)))), some (.inl (i + 1)), none]) (by simp [ax_fg]) ?_
              refine ih2 (i + 1, ax_u3 (ax_u3 (ax_u3 (ax_u3 g3 5 i 2 0) 5 i 9 (g3 2 0 12)) 5 i 10 (1 - (g3 5 i 4))) 2 0 8 ((g3 2 0 8) - 1)) ?_ ?_
              · (try dsimp only); (have hX : ∀ f o j, ¬ (f = 216 ∨ f = 604 ∨ (f = 2 ∧ o = 0 ∧ j = 8) ∨ (f = 5 ∧ o = i ∧ (j = 2 ∨ j = 4 ∨ j = 6 ∨ j = 7 ∨ j = 9 ∨ j = 10))) → (ax_u3 (ax_u3 (ax_u3 (ax_u3 g3 5 i 2 0) 5 i 9 (g3 2 0 12)) 5 i 10 (1 - (g3 5 i 4))) 2 0 8 ((g3 2 0 8) - 1)) f o j = g1 f o j := (fun f o j w9 => by rw [ax_u3_n (by omega), ax_u3_n (by omega), ax_u3_n (by omega), ax_u3_n (by omega)]; exact (kfg3 _ _ _ (by omega)).trans (cLook_f (by omega))); have hB : ∀ j, (g3) 5 i j = g1 5 i j := (fun j => (kfg3 _ _ _ (by omega)).trans (cLook_f (by omega))); have hWb : wWb h i = 0 := (by by_cases z : wWb h i = 0; exact z; (rcases hWv.mp z with z9 | z9 <;> exact absurd z9 (by omega))); exact ⟨by omega, by omega, cEn_fr i1 i3 hX, cEn_an i4 (cEn_z i1 hih (by omega) hAE hWb hDi1 (fun j y2 y9 y10 => by rw [ax_u3_n (by omega), ax_u3_n (by omega), ax_u3_n (by omega), ax_u3_n (by omega)]; exact hB j) (by rw [ax_u3_n (by omega), ax_u3_n (by omega), ax_u3_n (by omega), ax_u3_s]) (by rw [ax_u3_n (by omega), ax_u3_n (by omega), ax_u3_s]; omega) (by rw [ax_u3_n (by omega), ax_u3_s, hB])) (fun a j z => hX 5 a j (by omega)), by rw [ax_u3_s, hLs, bI_t ⟨hAE, hWb⟩]; omega⟩)
              · omega
            · refine aj_run (C := True) (pc' := 78) (la' := [some (.inr (.inr (some (2, 0)))), some (.inl i), some (.inr (.inr (some (5, i))))]) (st' := [.inr (.inr (some (5, i)))]) (M' := (P, g3, r0, n)) ok_X2_lookAtEnds true 1 rfl trivial ?_
              refine aj_d_turnRound lk_2_144 hAi.2.2 (by show g3 5 i 4 = 0 ∨ g3 5 i 4 = 1; omega) ⟨by decide, by decide, by decide, by decide⟩ (Nat.le_of_ble_eq_true rfl) (ax_dec2 (i := .invokevirtual 144) (n := 3) ok_X2_lookAtEnds rfl) ?_
              change ax_J _ _ _ _ _ _ _ _ _ 81 [some (.inr (.inr (some (2, 0)))), some (.inl i), some (.inr (.inr (some (5, i))))] [] (P, ax_u3 (ax_u3 g3 5 i 4 (1 - (g3 5 i 4))) 5 i 6 (Int.bmod ((g3 5 i 6) + 1) 4294967296), r0, n)
              refine aj_run (C := True) (pc' := 86) (la' := [some (.inr (.inr (some (2, 0)))), some (.inl i), some (.inr (.inr (some (5, i))))]) (st' := [.inl ((ax_u3 (ax_u3 g3 5 i 4 (1 - (g3 5 i 4))) 5 i 6 (Int.bmod ((g3 5 i 6) + 1) 4294967296)) 5 i 7), .inr (.inr (some (5, i)))]) (M' := (P, ax_u3 (ax_u3 g3 5 i 4 (1 - (g3 5 i 4))) 5 i 6 (Int.bmod ((g3 5 i 6) + 1) 4294967296), r0, n)) ok_X2_lookAtEnds true 3 rfl trivial ?_
              refine aj_cast rfl (congrArg (fun (z9 : Int) => ([.inl z9, .inr (.inr (some (5, i)))] : List ax_V)) (show (ax_u3 (ax_u3 g3 5 i 4 (1 - (g3 5 i 4))) 5 i 6 (Int.bmod ((g3 5 i 6) + 1) 4294967296)) 5 i 7 = g3 5 i 7 from (ax_u3_n (fun q => absurd q.2.2 (by decide))).trans (ax_u3_n (fun q => absurd q.2.2 (by decide))))) rfl ?_
              refine aj_run (C := True) (pc' := 87) (la' := [some (.inr (.inr (some (2, 0)))), some (.inl i), some (.inr (.inr (some (5, i))))]) (st' := [.inl 1, .inl (g3 5 i 7), .inr (.inr (some (5, i)))]) (M' := (P, ax_u3 (ax_u3 g3 5 i 4 (1 - (g3 5 i 4))) 5 i 6 (Int.bmod ((g3 5 i 6) + 1) 4294967296), r0, n)) ok_X2_lookAtEnds true 1 rfl trivial ?_
              refine aj_run (C := True) (pc' := 88) (la' := [some (.inr (.inr (some (2, 0)))), some (.inl i), some (.inr (.inr (some (5, i))))]) (st' := [.inl (Int.bmod ((g3 5 i 7) + 1) 4294967296), .inr (.inr (some (5, i)))]) (M' := (P, ax_u3 (ax_u3 g3 5 i 4 (1 - (g3 5 i 4))) 5 i 6 (Int.bmod ((g3 5 i 6) + 1) 4294967296), r0, n)) ok_X2_lookAtEnds false 1 rfl trivial ?_
              refine aj_run (C := (-2147483648 ≤ i + 1 ∧ i + 1 ≤ 2147483647) ∧ True) (pc' := 2) (la' := [some (.inr (.inr (some (2, 0)))), some (.inl (i + 1)), some (.inr (.inr (some (5, i))))]) (st' := []) (M' := (P, ax_u3 (ax_u3 (ax_u3 g3 5 i 4 (1 - (g3 5 i 4))) 5 i 6 (Int.bmod ((g3 5 i 6) + 1) 4294967296)) 5 i 7 (Int.bmod ((g3 5 i 7) + 1) 4294967296), r0, n)) ok_X2_lookAtEnds true 4 rfl (by refine ⟨?_, trivial⟩ <;> (first | omega | (constructor <;> omega))) ?_
              refine aj_forget (la' := [some (.inr (.inr (some (2, 0)))), some (.inl (i + 1)), none]) (by simp [ax_fg]) ?_
              refine ih2 (i + 1, ax_u3 (ax_u3 (ax_u3 g3 5 i 4 (1 - (g3 5 i 4))) 5 i 6 (Int.bmod ((g3 5 i 6) + 1) 4294967296)) 5 i 7 (Int.bmod ((g3 5 i 7) + 1) 4294967296)) ?_ ?_
              · (try dsimp only); (have hX : ∀ f o j, ¬ (f = 216 ∨ f = 604 ∨ (f = 2 ∧ o = 0 ∧ j = 8) ∨ (f = 5 ∧ o = i ∧ (j = 2 ∨ j = 4 ∨ j = 6 ∨ j = 7 ∨ j = 9 ∨ j = 10))) → (ax_u3 (ax_u3 (ax_u3 g3 5 i 4 (1 - (g3 5 i 4))) 5 i 6 (Int.bmod ((g3 5 i 6) + 1) 4294967296)) 5 i 7 (Int.bmod ((g3 5 i 7) + 1) 4294967296)) f o j = g1 f o j := (fun f o j w9 => by rw [ax_u3_n (by omega), ax_u3_n (by omega), ax_u3_n (by omega)]; exact (kfg3 _ _ _ (by omega)).trans (cLook_f (by omega))); have hB : ∀ j, (g3) 5 i j = g1 5 i j := (fun j => (kfg3 _ _ _ (by omega)).trans (cLook_f (by omega))); have hWb := hWv.mpr (by first | (exact Or.inl (by assumption)) | (exact Or.inr (by assumption))); exact ⟨by omega, by omega, cEn_fr i1 i3 hX, cEn_an i4 (cEn_y i1 hih hAE hWb hDi1 (fun j y4 y6 y7 => by rw [ax_u3_n (by omega), ax_u3_n (by omega), ax_u3_n (by omega)]; exact hB j) (by rw [ax_u3_n (by omega), ax_u3_n (by omega), ax_u3_s, hB]) (by rw [ax_u3_n (by omega), ax_u3_s, hB]) (by first | exact ax_u3_s | (rw [ax_u3_s, hB]) | (rw [ax_u3_s, k57]))) (fun a j z => hX 5 a j (by omega)), by rw [ax_u3_n (by omega), ax_u3_n (by omega), ax_u3_n (by omega), hLs, bI_f (fun z => hWb z.2)]; first | exact i5.trans (by omega) | exact k28.trans (i5.trans (by omega))⟩)
              · omega

