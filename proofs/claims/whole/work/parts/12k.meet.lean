def cMIn (g h : Nat → Int → Int → Int) (i : Int) : Int := if wAny h i ≠ 0 then g 2 0 12 else g 2 0 7
theorem wAny_s {h : Nat → Int → Int → Int} {i : Int} (i1 : 0 ≤ i) : wAny h (i + 1) = if wAny h i ≠ 0 ∨ wMt h i (h 50 0 2) ≠ 0 then 1 else 0 := wFI_s i1
theorem cMIn_n {g h : Nat → Int → Int → Int} {i : Int} (i1 : 0 ≤ i) (hz : wMt h i (h 50 0 2) = 0) : cMIn g h (i + 1) = cMIn g h i := by
  have h01 := wAny_01 (g := h) (k := i)
  unfold cMIn
  rw [wAny_s i1]
  by_cases c : wAny h i ≠ 0
  · rw [if_pos (c := wAny h i ≠ 0 ∨ _) (Or.inl c), if_pos c, if_pos (by decide)]
  · rw [if_neg (c := wAny h i ≠ 0 ∨ _) (by omega), if_neg c, if_neg (by decide)]
theorem cMIn_y {g h : Nat → Int → Int → Int} {i : Int} (i1 : 0 ≤ i) (hz : wMt h i (h 50 0 2) ≠ 0) : cMIn g h (i + 1) = g 2 0 12 := by
  unfold cMIn
  rw [wAny_s i1, if_pos (c := wAny h i ≠ 0 ∨ _) (Or.inr hz), if_pos (by decide)]
theorem cMt_fn {g g1 : Nat → Int → Int → Int} {i : Int} (i3 : cFr (TMt i) g1 g) : cFr (TMt (i + 1)) g1 g := fun f o j w => i3 f o j (fun z => w (by unfold TMt at *; omega))
theorem cMt_an2 {X g1 h : Nat → Int → Int → Int} {i : Int} (i4 : ∀ a, 0 ≤ a → a < i → cD1 g1 (wMeet h) a) (hi : cD1 X (wMeet h) i) (hfr : ∀ a j, a ≠ i → X 5 a j = g1 5 a j) : ∀ a, 0 ≤ a → a < i + 1 → cD1 X (wMeet h) a := fun a z1 z2 => by
  by_cases e : a = i
  · rw [e]; exact hi
  · exact cD1_c (fun j => hfr a j e) (i4 a z1 (by omega))
theorem cMt_an {g1 h : Nat → Int → Int → Int} {i : Int} (i4 : ∀ a, 0 ≤ a → a < i → cD1 g1 (wMeet h) a) (hi : cD1 g1 (wMeet h) i) : ∀ a, 0 ≤ a → a < i + 1 → cD1 g1 (wMeet h) a := fun a z1 z2 => by
  by_cases e : a = i
  · rw [e]; exact hi
  · exact i4 a z1 (by omega)
/-- the names of an ant on the plank are the reference's -/
theorem cNm_e {G h : Nat → Int → Int → Int} {i : Int} (h0 : 0 ≤ h 50 0 2) (h7 : h 50 0 2 ≤ 7) (hm : cMk G h (h 50 0 2)) (hf : ∀ a, 0 ≤ a → a < h 50 0 2 → h 130 0 a = 0 ∨ h 130 0 a = 1) (i1 : 0 ≤ i) (i2 : i < h 50 0 2) (hon : 0 ≤ h 129 0 i) (hd : cD1 G h i) (hb : G 2 0 12 = h 50 0 39) : ∀ j, 0 ≤ j → j < 6 → cNm G i j = wNm h i j := by
  obtain ⟨d2, d3, d33, d4, d5, d6, d7, d8, d9, d10⟩ := hd
  have d3' := d3 hon
  have ho := cOth h0 h7 hm hf i1 i2 d3'.symm d33.1 d33.2
  intro j j1 j2
  unfold cNm wNm
  have e : j = 0 ∨ j = 1 ∨ j = 2 ∨ j = 3 ∨ j = 4 ∨ j = 5 := by omega
  rcases e with rfl | rfl | rfl | rfl | rfl | rfl
  · simp [d5]
  · simp [d3']
  · simp [d4]
  · simp [hb]
  · simp [ho]
  · simp
theorem cMt_z {G h : Nat → Int → Int → Int} {i : Int} (h0 : 0 ≤ h 50 0 2) (h7 : h 50 0 2 ≤ 7) (hm : cMk G h (h 50 0 2)) (hf : ∀ a, 0 ≤ a → a < h 50 0 2 → h 130 0 a = 0 ∨ h 130 0 a = 1) (i1 : 0 ≤ i) (i2 : i < h 50 0 2) (hd : cD1 G h i) (hz : G 5 i 2 = 0 ∨ G 214 0 (G 5 i 3) = 0 ∨ G 215 0 (G 5 i 3) = 0) : wMt h i (h 50 0 2) = 0 := by
  by_cases z : wMt h i (h 50 0 2) = 0
  · exact z
  · obtain ⟨b, b1, b2, b3⟩ := (wMt_X (by omega)).mp z
    have hon : 0 ≤ h 129 0 i := b3.1
    obtain ⟨d2, d3, d33, d4⟩ := hd
    rw [bI_t hon] at d2
    have := (cMts h0 h7 hm hf i1 i2 (d3 hon).symm d33.1 d33.2).mpr z
    omega
set_option maxRecDepth 100000 in
set_option maxHeartbeats 4000000 in
theorem cp_meet (P : Nat → Int → Prop) (g : Nat → Int → Int → Int) (r0 : Nat → Int → Int → Option (Nat × Int)) (n : Nat → Int → Int) (hA : cAn P r0 n (g 2 0 1)) (h : Nat → Int → Int → Int) (hP : cPl g h n) (hf : ∀ a, 0 ≤ a → a < h 50 0 2 → h 130 0 a = 0 ∨ h 130 0 a = 1) (hD : ∀ a, 0 ≤ a → a < h 50 0 2 → cD1 g h a) (h6 : n 216 0 = 6) (hn2 : n 214 0 = 81 ∧ n 215 0 = 81) (hm : cMk g h (h 50 0 2)) (hb : g 2 0 12 = h 50 0 39) (ht3 : g 2 0 13 = h 50 0 42) (hp6 : g 2 0 6 = h 50 0 40) (hp40 : 0 ≤ h 50 0 40 ∧ h 50 0 40 ≤ 90000) (h132 : ∀ a, 0 ≤ a → a < h 50 0 2 → 0 ≤ h 132 0 a ∧ h 132 0 a ≤ 100000) (t : Int) (V : Int → (Int → Int) → Int) (hru : (r0 2 0 4 = some (6, t) ∧ P 6 t) ∧ cRu g n t V) (hVn : cVn V) (hV : ∀ p nm, V p nm = wVl h (3 * h 50 0 11 + p) nm) : ax_S yX2_meet cX2_meet 3 none 10 0 0 [.inr (.inr (some (2, 0)))] (P, g, r0, n) (fun r M' => r = none ∧ ∃ g', M' = (P, g', r0, n) ∧ cFr (TMt (g 2 0 1)) g' g ∧ (∀ a, 0 ≤ a → a < h 50 0 2 → cD1 g' (wMeet h) a) ∧ g' 2 0 6 = wPrO h (h 50 0 2) ∧ g' 2 0 7 = cMIn g h (h 50 0 2)) := by
  have hA1 := hA.1
  have hP1 := hP.1
  refine ax_S_of (own := 2) (by decide) rfl (fun h => absurd h (by decide)) rfl (Nat.le_of_ble_eq_true rfl) ?_
  change ax_J _ _ _ _ _ _ _ _ _ _ [some (.inr (.inr (some (2, 0)))), none, none] _ _
  refine aj_run (C := True) (pc' := 2) (la' := [some (.inr (.inr (some (2, 0)))), some (.inl 0), none]) (st' := []) (M' := (P, g, r0, n)) ok_X2_meet true 2 rfl trivial ?_
  refine aj_forget (la' := [some (.inr (.inr (some (2, 0)))), some (.inl 0), none]) (by simp [ax_fg]) ?_
  refine aj_loop (σ := (Int) × (Nat → Int → Int → Int)) (fun xL => 0 ≤ xL.1 ∧ xL.1 ≤ g 2 0 1 ∧ cFr (TMt xL.1) xL.2 g ∧ (∀ a, 0 ≤ a → a < xL.1 → cD1 xL.2 (wMeet h) a) ∧ xL.2 2 0 6 = h 50 0 40 + cSum (cPF h (h 50 0 2)) xL.1 ∧ xL.2 2 0 7 = cMIn g h xL.1) (fun xL => (g 2 0 1 - xL.1).toNat) (fun xL => [some (.inr (.inr (some (2, 0)))), some (.inl xL.1), none]) (fun xL => []) (fun xL => (P, xL.2, r0, n)) ?_ (0, g) ?_
  rotate_left
  · (try dsimp only); exact ⟨by omega, by omega, fun _ _ _ _ => rfl, fun a z1 z2 => by omega, by rw [show cSum (cPF h (h 50 0 2)) 0 = 0 from rfl]; omega, (if_neg (show ¬ wAny h 0 ≠ 0 from fun z => z rfl)).symm⟩
  rintro ⟨i, g1⟩ hI ih2
  try dsimp only at hI ih2
  obtain ⟨i1, i2, i3, i4, i5, i6⟩ := hI
  change ax_J _ _ _ _ _ _ _ _ _ 2 [some (.inr (.inr (some (2, 0)))), some (.inl i), none] [] (P, g1, r0, n)
  have hsz1 : g1 2 0 1 = g 2 0 1 := i3 2 0 1 (by unfold TMt; omega)
  refine aj_run (C := True) (pc' := 7) (la' := [some (.inr (.inr (some (2, 0)))), some (.inl i), none]) (st' := [.inl (g1 2 0 1), .inl i]) (M' := (P, g1, r0, n)) ok_X2_meet true 3 rfl trivial ?_
  refine aj_icmp_ge (tgt := 97) (ax_dec2 (i := .if_icmp .ge 90) (n := 3) ok_X2_meet rfl) (by decide) (fun c1 => ?_) (fun c1 => ?_)
  · refine aj_ret (r := none) (ax_dec2 (i := .return_) (n := 1) ok_X2_meet rfl) ⟨?_, ?_, by decide, by decide⟩ rfl
    · exact ⟨rfl, g1, rfl, fun f o j w => i3 f o j (fun z => w (by unfold TMt at *; omega)), fun a z1 z2 => i4 a z1 (by omega), by rw [cPF_sum (by omega) (by omega) hf (by omega), show h 50 0 2 = i by omega]; rw [show h 50 0 2 = i by omega] at i5; exact i5, by rw [show h 50 0 2 = i by omega]; exact i6⟩
    · exact trivial
  · have hih : i < h 50 0 2 := by omega
    have hDi := hD i i1 hih
    have q := fun k => i3 5 i k (by unfold TMt; omega)
    have hDi1 : cD1 g1 h i := cD1_c q hDi
    obtain ⟨d2, d3, d33, d4, d5⟩ := id hDi1
    have hfi := hf i i1 hih
    have hb01 := bI_01 (p := 0 ≤ h 129 0 i)
    have hm1 : cMk g1 h (h 50 0 2) := fun p z1 z2 => by rw [i3 214 0 p (by unfold TMt; omega), i3 215 0 p (by unfold TMt; omega)]; exact hm p z1 z2
    have p12 := i3 2 0 12 (by unfold TMt; omega)
    have p13 := i3 2 0 13 (by unfold TMt; omega)
    have hAi := hA.2 i i1 (by omega)
    obtain ⟨e0, e1, e2, e3, e4⟩ := hP.2 i i1 hih
    have hts := cMts (m := h 50 0 2) (a := i) (pl := g1 5 i 3) (by omega) (by omega) hm1 hf i1 hih
    have hPF := cPF_in (h := h) (m := h 50 0 2) (by omega) (by omega) i
    have hS := cSum_s (f := cPF h (h 50 0 2)) i1
    have hSb := cSum_in (f := cPF h (h 50 0 2)) (c := 7) (fun a => cPF_in (by omega) (by omega) a) i.toNat
    rw [show ((i.toNat : Nat) : Int) = i by omega] at hSb
    refine aj_run (C := True) (pc' := 15) (la' := [some (.inr (.inr (some (2, 0)))), some (.inl i), none]) (st' := [.inl i, .inr (.inr (some (200, 0)))]) (M' := (P, g1, r0, n)) ok_X2_meet true 3 rfl trivial ?_
    refine aj_aald (f := 200) (g := 5) (o := 0) (i := i) (u := i) (E := "AntsTurn$Ant") rfl rfl rfl ⟨by omega, by have z9 := hA.1.1; show i < n 200 0; omega⟩ (hA.2 i (by omega) (by omega)).1.1 (hA.2 i (by omega) (by omega)).1.2 (ax_dec2 (i := .aaload) (n := 1) ok_X2_meet rfl) ?_
    refine aj_run (C := True) (pc' := 21) (la' := [some (.inr (.inr (some (2, 0)))), some (.inl i), some (.inr (.inr (some (5, i))))]) (st' := [.inl (g1 5 i 2)]) (M' := (P, g1, r0, n)) ok_X2_meet true 3 rfl trivial ?_
    refine aj_if_eq (tgt := 91) (ax_dec2 (i := .ifCond .eq 70) (n := 3) ok_X2_meet rfl) (by decide) (fun c2 => ?_) (fun c2 => ?_)
    · refine aj_run (C := (-2147483648 ≤ i + 1 ∧ i + 1 ≤ 2147483647) ∧ True) (pc' := 2) (la' := [some (.inr (.inr (some (2, 0)))), some (.inl (i + 1)), some (.inr (.inr (some (5, i))))]) (st' := []) (M' := (P, g1, r0, n)) ok_X2_meet true 2 rfl (by refine ⟨?_, trivial⟩ <;> (first | omega | (constructor <;> omega))) ?_
      refine aj_forget (la' := [some (.inr (.inr (some (2, 0)))), some (.inl (i + 1)), none]) (by simp [ax_fg]) ?_
      refine ih2 (i + 1, g1) ?_ ?_
      · (try dsimp only); (have hz := cMt_z (by omega) (by omega) hm1 hf i1 hih hDi1 (by first | exact Or.inl (by assumption) | exact Or.inr (Or.inl (by assumption)) | exact Or.inr (Or.inr (by assumption)) | omega); have hpz := cPF_z (by omega) (by omega) hz; exact ⟨by omega, by omega, cMt_fn i3, cMt_an i4 (cMt_n i1 hih hz hDi1), by rw [hS, hpz]; omega, by rw [cMIn_n i1 hz]; exact i6⟩)
      · omega
    · refine aj_run (C := (0 ≤ g1 5 i 3 ∧ g1 5 i 3 < n 214 0) ∧ True) (pc' := 33) (la' := [some (.inr (.inr (some (2, 0)))), some (.inl i), some (.inr (.inr (some (5, i))))]) (st' := [.inl (g1 214 0 (g1 5 i 3))]) (M' := (P, g1, r0, n)) ok_X2_meet true 5 rfl (by refine ⟨?_, trivial⟩ <;> (first | omega | (constructor <;> omega))) ?_
      refine aj_if_eq (tgt := 91) (ax_dec2 (i := .ifCond .eq 58) (n := 3) ok_X2_meet rfl) (by decide) (fun c3 => ?_) (fun c3 => ?_)
      · refine aj_run (C := (-2147483648 ≤ i + 1 ∧ i + 1 ≤ 2147483647) ∧ True) (pc' := 2) (la' := [some (.inr (.inr (some (2, 0)))), some (.inl (i + 1)), some (.inr (.inr (some (5, i))))]) (st' := []) (M' := (P, g1, r0, n)) ok_X2_meet true 2 rfl (by refine ⟨?_, trivial⟩ <;> (first | omega | (constructor <;> omega))) ?_
        refine aj_forget (la' := [some (.inr (.inr (some (2, 0)))), some (.inl (i + 1)), none]) (by simp [ax_fg]) ?_
        refine ih2 (i + 1, g1) ?_ ?_
        · (try dsimp only); (have hz := cMt_z (by omega) (by omega) hm1 hf i1 hih hDi1 (by first | exact Or.inl (by assumption) | exact Or.inr (Or.inl (by assumption)) | exact Or.inr (Or.inr (by assumption)) | omega); have hpz := cPF_z (by omega) (by omega) hz; exact ⟨by omega, by omega, cMt_fn i3, cMt_an i4 (cMt_n i1 hih hz hDi1), by rw [hS, hpz]; omega, by rw [cMIn_n i1 hz]; exact i6⟩)
        · omega
      · refine aj_run (C := (0 ≤ g1 5 i 3 ∧ g1 5 i 3 < n 215 0) ∧ True) (pc' := 45) (la' := [some (.inr (.inr (some (2, 0)))), some (.inl i), some (.inr (.inr (some (5, i))))]) (st' := [.inl (g1 215 0 (g1 5 i 3))]) (M' := (P, g1, r0, n)) ok_X2_meet true 5 rfl (by refine ⟨?_, trivial⟩ <;> (first | omega | (constructor <;> omega))) ?_
        refine aj_if_eq (tgt := 91) (ax_dec2 (i := .ifCond .eq 46) (n := 3) ok_X2_meet rfl) (by decide) (fun c4 => ?_) (fun c4 => ?_)
        · refine aj_run (C := (-2147483648 ≤ i + 1 ∧ i + 1 ≤ 2147483647) ∧ True) (pc' := 2) (la' := [some (.inr (.inr (some (2, 0)))), some (.inl (i + 1)), some (.inr (.inr (some (5, i))))]) (st' := []) (M' := (P, g1, r0, n)) ok_X2_meet true 2 rfl (by refine ⟨?_, trivial⟩ <;> (first | omega | (constructor <;> omega))) ?_
          refine aj_forget (la' := [some (.inr (.inr (some (2, 0)))), some (.inl (i + 1)), none]) (by simp [ax_fg]) ?_
          refine ih2 (i + 1, g1) ?_ ?_
          · (try dsimp only); (have hz := cMt_z (by omega) (by omega) hm1 hf i1 hih hDi1 (by first | exact Or.inl (by assumption) | exact Or.inr (Or.inl (by assumption)) | exact Or.inr (Or.inr (by assumption)) | omega); have hpz := cPF_z (by omega) (by omega) hz; exact ⟨by omega, by omega, cMt_fn i3, cMt_an i4 (cMt_n i1 hih hz hDi1), by rw [hS, hpz]; omega, by rw [cMIn_n i1 hz]; exact i6⟩)
          · omega
        · refine aj_run (C := True) (pc' := 61) (la' := [some (.inr (.inr (some (2, 0)))), some (.inl i), some (.inr (.inr (some (5, i))))]) (st' := [.inl 1, .inl (g1 5 i 4)]) (M' := (P, ax_u3 g1 2 0 7 (g1 2 0 12), r0, n)) ok_X2_meet true 7 rfl trivial ?_
          refine aj_icmp_ne (tgt := 85) (ax_dec2 (i := .if_icmp .ne 24) (n := 3) ok_X2_meet rfl) (by decide) (fun c5 => ?_) (fun c5 => ?_)
          · refine aj_run (C := True) (pc' := 88) (la' := [some (.inr (.inr (some (2, 0)))), some (.inl i), some (.inr (.inr (some (5, i))))]) (st' := [.inr (.inr (some (5, i))), .inl i, .inr (.inr (some (2, 0)))]) (M' := (P, ax_u3 g1 2 0 7 (g1 2 0 12), r0, n)) ok_X2_meet true 3 rfl trivial ?_
            have hGf : ∀ f o j, ¬ (f = 2 ∧ o = 0 ∧ (j = 6 ∨ j = 7)) → (ax_u3 g1 2 0 7 (g1 2 0 12)) f o j = g1 f o j := fun f o j w => by rw [ax_u3_n (by omega)]
            generalize hGe : (ax_u3 g1 2 0 7 (g1 2 0 12)) = G at hGf ⊢
            have hon := bI_n0 (p := 0 ≤ h 129 0 i) (by omega)
            have hpl := (d3 hon).symm
            have hmt : wMt h i (h 50 0 2) ≠ 0 := (hts hpl d33.1 d33.2).mp ⟨by omega, by omega⟩
            have hDG : cD1 G h i := cD1_c (fun j => hGf 5 i j (by omega)) hDi1
            have hmG : cMk G h (h 50 0 2) := fun p z1 z2 => by rw [hGf 214 0 p (by omega), hGf 215 0 p (by omega)]; exact hm1 p z1 z2
            have hbG : G 2 0 12 = h 50 0 39 := by rw [hGf 2 0 12 (by omega), p12]; exact hb
            have hnm := cNm_e (by omega) (by omega) hmG hf i1 hih hon hDG hbG
            have hpG := hDG.2.2.1
            have ho := cOth (m := h 50 0 2) (a := i) (pl := G 5 i 3) (by omega) (by omega) hmG hf i1 hih (hDG.2.1 hon).symm hpG.1 hpG.2
            have hob := wOth_in (wh := h 129 0) (n := h 50 0 2) (a := i) (by omega)
            have hx := mS_U (q := qL h (G 5 i 3)) (q' := qR h (G 5 i 3)) (m := h 50 0 2) (by omega) (by omega)
            have hkb : 0 ≤ kBc (ax_or (G 214 0 (G 5 i 3)) (G 215 0 (G 5 i 3))) ∧ kBc (ax_or (G 214 0 (G 5 i 3)) (G 215 0 (G 5 i 3))) ≤ 7 := by obtain ⟨m1, m2⟩ := hmG _ hpG.1 hpG.2; rw [m1, m2, hx, (mS_A (by omega) (by omega)).1]; have := cN_in (q := fun b => qL h (G 5 i 3) b ∨ qR h (G 5 i 3) b) (m := h 50 0 2) (by omega); omega
            have hruG : (r0 2 0 4 = some (6, t) ∧ P 6 t) ∧ cRu G n t V := ⟨hru.1, cRu_c (fun f j z1 z2 => by rw [hGf f t j (by omega), i3 f t j (by unfold TMt; omega)]) hru.2⟩
            have hG4 : G 5 i 4 = 0 ∨ G 5 i 4 = 1 := by rw [hDG.2.2.2.1]; exact hfi
            refine aj_callV (av := [.inl i, .inr (.inr (some (5, i)))]) (st := []) (f := 2) (o := 0) (ci := 2) cal_X2_meetAs lk_2_108 ins_X2_meetAs rfl sel_X2_meetAs rfl (fun c9 h9 _ => by simpa [ax_ok] using h9) (cp_meetAs i _ _ _ _ h6 hn2 hpG hkb t V hruG hVn ⟨hAi.2.2, hAi.2.1.1⟩ hG4) ⟨by decide, by decide, by decide, by decide⟩ (Nat.le_of_ble_eq_true rfl) (ax_dec2 (i := .invokevirtual 108) (n := 3) ok_X2_meet rfl) (fun r M' hq => ?_)
            obtain ⟨rfl, g5, rfl, hMA⟩ := hq
            change ax_J _ _ _ _ _ _ _ _ _ 91 [some (.inr (.inr (some (2, 0)))), some (.inl i), some (.inr (.inr (some (5, i))))] [] (P, g5, r0, n)
            refine aj_run (C := (-2147483648 ≤ i + 1 ∧ i + 1 ≤ 2147483647) ∧ True) (pc' := 2) (la' := [some (.inr (.inr (some (2, 0)))), some (.inl (i + 1)), some (.inr (.inr (some (5, i))))]) (st' := []) (M' := (P, g5, r0, n)) ok_X2_meet true 2 rfl (by refine ⟨?_, trivial⟩ <;> (first | omega | (constructor <;> omega))) ?_
            refine aj_forget (la' := [some (.inr (.inr (some (2, 0)))), some (.inl (i + 1)), none]) (by simp [ax_fg]) ?_
            refine ih2 (i + 1, g5) ?_ ?_
            · (try dsimp only); (have f5 : ∀ f o j, ¬ TMt (i + 1) f o j → g5 f o j = g f o j := (fun f o j w => by rw [hMA.1 f o j (by unfold TMa TMt at *; omega), hGf f o j (by unfold TMt at w; omega)]; exact i3 f o j (by unfold TMt at *; omega)); exact ⟨by omega, by omega, f5, cMt_an2 i4 (cMt_y i1 hih hmt hDG hMA (by rw [hGf 2 0 13 (by omega), p13]; exact ht3) e4 (by rw [hGf 500 i 3 (by omega), i3 500 i 3 (by unfold TMt; omega)]; exact e3) hV hnm hVn (h132 i i1 hih)) (fun a j z => by rw [hMA.1 5 a j (by unfold TMa; omega), hGf 5 a j (by omega)]), by rw [hMA.1 2 0 6 (by unfold TMa; omega), ← hGe, hS]; simp only [ax_u3, Nat.reduceEqDiff, Int.reduceEq, true_and, and_true, false_and, and_false, if_true, if_false, reduceIte]; (have hk9 : cPF h (h 50 0 2) i = 0 := (by unfold cPF; rw [if_neg (by omega)])); omega, by rw [hMA.1 2 0 7 (by unfold TMa; omega), ← hGe, cMIn_y i1 hmt]; simp only [ax_u3, Nat.reduceEqDiff, Int.reduceEq, true_and, and_true, false_and, and_false, if_true, if_false, reduceIte]; exact p12⟩)
            · omega
          · have hkq : 0 ≤ kBc (g1 215 0 (g1 5 i 3)) ∧ kBc (g1 215 0 (g1 5 i 3)) ≤ 7 := by rw [(hm1 _ d33.1 d33.2).2, (mS_A (by omega) (by omega)).1]; have := cN_in (q := qR h (g1 5 i 3)) (m := h 50 0 2) (by omega); omega
            refine aj_run (C := (0 ≤ g1 5 i 3 ∧ g1 5 i 3 < n 215 0) ∧ True) (pc' := 78) (la' := [some (.inr (.inr (some (2, 0)))), some (.inl i), some (.inr (.inr (some (5, i))))]) (st' := [.inl (g1 215 0 (g1 5 i 3)), .inl (g1 2 0 6), .inr (.inr (some (2, 0)))]) (M' := (P, ax_u3 g1 2 0 7 (g1 2 0 12), r0, n)) ok_X2_meet true 8 rfl (by refine ⟨?_, trivial⟩ <;> (first | omega | (constructor <;> omega))) ?_
            refine aj_callS (av := [.inl (g1 215 0 (g1 5 i 3))]) (st := [.inl (g1 2 0 6), .inr (.inr (some (2, 0)))]) cal_J6_bitCount_0f7a4 lk_2_103 stc_J6_bitCount_0f7a4 (cp_bitCount (g1 215 0 (g1 5 i 3)) _ _ _ _) ⟨by decide, by decide, by decide, by decide⟩ (Nat.le_of_ble_eq_true rfl) (ax_dec2 (i := .invokestatic 103) (n := 3) ok_X2_meet rfl) (fun r M' hq => ?_)
            obtain ⟨rfl, rfl⟩ := hq
            change ax_J _ _ _ _ _ _ _ _ _ 81 [some (.inr (.inr (some (2, 0)))), some (.inl i), some (.inr (.inr (some (5, i))))] [.inl (kBc (g1 215 0 (g1 5 i 3))), .inl (g1 2 0 6), .inr (.inr (some (2, 0)))] (P, ax_u3 g1 2 0 7 (g1 2 0 12), r0, n)
            refine aj_run (C := (-2147483648 ≤ (g1 2 0 6) + (kBc (g1 215 0 (g1 5 i 3))) ∧ (g1 2 0 6) + (kBc (g1 215 0 (g1 5 i 3))) ≤ 2147483647) ∧ True) (pc' := 88) (la' := [some (.inr (.inr (some (2, 0)))), some (.inl i), some (.inr (.inr (some (5, i))))]) (st' := [.inr (.inr (some (5, i))), .inl i, .inr (.inr (some (2, 0)))]) (M' := (P, ax_u3 (ax_u3 g1 2 0 7 (g1 2 0 12)) 2 0 6 ((g1 2 0 6) + (kBc (g1 215 0 (g1 5 i 3)))), r0, n)) ok_X2_meet true 5 rfl (by refine ⟨?_, trivial⟩ <;> (first | omega | (constructor <;> omega))) ?_
            have hGf : ∀ f o j, ¬ (f = 2 ∧ o = 0 ∧ (j = 6 ∨ j = 7)) → (ax_u3 (ax_u3 g1 2 0 7 (g1 2 0 12)) 2 0 6 ((g1 2 0 6) + (kBc (g1 215 0 (g1 5 i 3))))) f o j = g1 f o j := fun f o j w => by rw [ax_u3_n (by omega), ax_u3_n (by omega)]
            generalize hGe : (ax_u3 (ax_u3 g1 2 0 7 (g1 2 0 12)) 2 0 6 ((g1 2 0 6) + (kBc (g1 215 0 (g1 5 i 3))))) = G at hGf ⊢
            have hon := bI_n0 (p := 0 ≤ h 129 0 i) (by omega)
            have hpl := (d3 hon).symm
            have hmt : wMt h i (h 50 0 2) ≠ 0 := (hts hpl d33.1 d33.2).mp ⟨by omega, by omega⟩
            have hDG : cD1 G h i := cD1_c (fun j => hGf 5 i j (by omega)) hDi1
            have hmG : cMk G h (h 50 0 2) := fun p z1 z2 => by rw [hGf 214 0 p (by omega), hGf 215 0 p (by omega)]; exact hm1 p z1 z2
            have hbG : G 2 0 12 = h 50 0 39 := by rw [hGf 2 0 12 (by omega), p12]; exact hb
            have hnm := cNm_e (by omega) (by omega) hmG hf i1 hih hon hDG hbG
            have hpG := hDG.2.2.1
            have ho := cOth (m := h 50 0 2) (a := i) (pl := G 5 i 3) (by omega) (by omega) hmG hf i1 hih (hDG.2.1 hon).symm hpG.1 hpG.2
            have hob := wOth_in (wh := h 129 0) (n := h 50 0 2) (a := i) (by omega)
            have hx := mS_U (q := qL h (G 5 i 3)) (q' := qR h (G 5 i 3)) (m := h 50 0 2) (by omega) (by omega)
            have hkb : 0 ≤ kBc (ax_or (G 214 0 (G 5 i 3)) (G 215 0 (G 5 i 3))) ∧ kBc (ax_or (G 214 0 (G 5 i 3)) (G 215 0 (G 5 i 3))) ≤ 7 := by obtain ⟨m1, m2⟩ := hmG _ hpG.1 hpG.2; rw [m1, m2, hx, (mS_A (by omega) (by omega)).1]; have := cN_in (q := fun b => qL h (G 5 i 3) b ∨ qR h (G 5 i 3) b) (m := h 50 0 2) (by omega); omega
            have hruG : (r0 2 0 4 = some (6, t) ∧ P 6 t) ∧ cRu G n t V := ⟨hru.1, cRu_c (fun f j z1 z2 => by rw [hGf f t j (by omega), i3 f t j (by unfold TMt; omega)]) hru.2⟩
            have hG4 : G 5 i 4 = 0 ∨ G 5 i 4 = 1 := by rw [hDG.2.2.2.1]; exact hfi
            refine aj_callV (av := [.inl i, .inr (.inr (some (5, i)))]) (st := []) (f := 2) (o := 0) (ci := 2) cal_X2_meetAs lk_2_108 ins_X2_meetAs rfl sel_X2_meetAs rfl (fun c9 h9 _ => by simpa [ax_ok] using h9) (cp_meetAs i _ _ _ _ h6 hn2 hpG hkb t V hruG hVn ⟨hAi.2.2, hAi.2.1.1⟩ hG4) ⟨by decide, by decide, by decide, by decide⟩ (Nat.le_of_ble_eq_true rfl) (ax_dec2 (i := .invokevirtual 108) (n := 3) ok_X2_meet rfl) (fun r M' hq => ?_)
            obtain ⟨rfl, g5, rfl, hMA⟩ := hq
            change ax_J _ _ _ _ _ _ _ _ _ 91 [some (.inr (.inr (some (2, 0)))), some (.inl i), some (.inr (.inr (some (5, i))))] [] (P, g5, r0, n)
            refine aj_run (C := (-2147483648 ≤ i + 1 ∧ i + 1 ≤ 2147483647) ∧ True) (pc' := 2) (la' := [some (.inr (.inr (some (2, 0)))), some (.inl (i + 1)), some (.inr (.inr (some (5, i))))]) (st' := []) (M' := (P, g5, r0, n)) ok_X2_meet true 2 rfl (by refine ⟨?_, trivial⟩ <;> (first | omega | (constructor <;> omega))) ?_
            refine aj_forget (la' := [some (.inr (.inr (some (2, 0)))), some (.inl (i + 1)), none]) (by simp [ax_fg]) ?_
            refine ih2 (i + 1, g5) ?_ ?_
            · (try dsimp only); (have f5 : ∀ f o j, ¬ TMt (i + 1) f o j → g5 f o j = g f o j := (fun f o j w => by rw [hMA.1 f o j (by unfold TMa TMt at *; omega), hGf f o j (by unfold TMt at w; omega)]; exact i3 f o j (by unfold TMt at *; omega)); exact ⟨by omega, by omega, f5, cMt_an2 i4 (cMt_y i1 hih hmt hDG hMA (by rw [hGf 2 0 13 (by omega), p13]; exact ht3) e4 (by rw [hGf 500 i 3 (by omega), i3 500 i 3 (by unfold TMt; omega)]; exact e3) hV hnm hVn (h132 i i1 hih)) (fun a j z => by rw [hMA.1 5 a j (by unfold TMa; omega), hGf 5 a j (by omega)]), by rw [hMA.1 2 0 6 (by unfold TMa; omega), ← hGe, hS]; simp only [ax_u3, Nat.reduceEqDiff, Int.reduceEq, true_and, and_true, false_and, and_false, if_true, if_false, reduceIte]; (have hk9 : kBc (g1 215 0 (g1 5 i 3)) = cPF h (h 50 0 2) i := (by rw [(hm1 _ d33.1 d33.2).2, (mS_A (by omega) (by omega)).1]; unfold cPF; rw [if_pos ⟨hon, by omega⟩, hpl])); omega, by rw [hMA.1 2 0 7 (by unfold TMa; omega), ← hGe, cMIn_y i1 hmt]; simp only [ax_u3, Nat.reduceEqDiff, Int.reduceEq, true_and, and_true, false_and, and_false, if_true, if_false, reduceIte]; exact p12⟩)
            · omega

