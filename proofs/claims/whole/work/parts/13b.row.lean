/-! ===== rows of the class ===== -/
theorem cSm_9 {g hB : Nat → Int → Int → Int} {k : Int} (hs : cSm g hB k) {a : Int} (h1 : 0 ≤ a) (h2 : a < hB 50 0 2) : g 5 a 9 = wIt hB k.toNat 135 0 a := by
  obtain ⟨-, -, -, -, -, -, -, -, d9, -⟩ := hs.1.1 a h1 (by rw [it_sz]; exact h2)
  exact d9
theorem beg_sz {h : Nat → Int → Int → Int} {way : Int} : wBegin h way 50 0 2 = h 50 0 2 := beg_ss.2 _ _ (by omega)
theorem gA_oa {h : Nat → Int → Int → Int} (hs : wOs h) {w : Int} : wOa (gA h w) := (it_oa (beg_oa hs) beg_b 201 (by decide)).1
theorem gA_sz9 {h : Nat → Int → Int → Int} {w : Int} : gA h w 50 0 2 = h 50 0 2 := it_sz.trans beg_sz
theorem gA_ring {h : Nat → Int → Int → Int} (hs : wOs h) {w a : Int} (hr : h 50 0 1 ≠ 0) (h1 : 0 ≤ a) (h2 : a < h 50 0 2) : gA h w 135 0 a = -1 := by
  have e : gA h w 50 0 1 = h 50 0 1 := (wSs.tr (it_ss 201) beg_ss).2 _ _ (by omega)
  have hx := ((gA_oa hs (w := w)).2.2.1.2 a h1 (by rw [gA_sz9]; exact h2)).2.2.2.2
  have := hs.2.1
  exact hx (by rw [e]; omega)
theorem gA_v9 {h : Nat → Int → Int → Int} (hs : wOs h) {w a : Int} (h1 : 0 ≤ a) (h2 : a < h 50 0 2) : gA h w 135 0 a = -1 ∨ 0 ≤ gA h w 135 0 a ∧ gA h w 135 0 a ≤ 200 := by
  have hx := ((gA_oa hs (w := w)).2.2.1.2 a h1 (by rw [gA_sz9]; exact h2))
  have hb : gA h w 50 0 39 = ((201 : Nat) : Int) - 1 := (it_oa (beg_oa hs) beg_b 201 (by decide)).2
  rcases hx.1 with c | c
  · exact Or.inl c
  · exact Or.inr ⟨c, by have := (hx.2.1 c).2.2; omega⟩
theorem cRow_end {g g1 gb h : Nat → Int → Int → Int} {w : Int} (hc : cCa g h) (hw : 0 ≤ w ∧ w < 128) (h7 : h 50 0 2 ≤ 7) (hfb : cFr TG gb g) (hmb : cMz gb) (i3 : cFr (fun f o j => f = 209 ∧ o = 0 ∧ w * 7 ≤ j ∧ j < w * 7 + 7) g1 gb) (i4 : ∀ a, 0 ≤ a → a < h 50 0 2 → g1 209 0 (w * 7 + a) = gA h w 135 0 a) : cDy (ax_u3 g1 210 0 w (g1 2 0 11)) h ∧ cFr TW (ax_u3 g1 210 0 w (g1 2 0 11)) g ∧ ∀ a, 0 ≤ a → a < h 50 0 2 → ax_u3 g1 210 0 w (g1 2 0 11) 209 0 (w * 7 + a) = gA h w 135 0 a := by
  have e11 : g1 2 0 11 = g 2 0 11 := (i3 2 0 11 (by omega)).trans (hfb 2 0 11 (by unfold TG; omega))
  refine ⟨⟨fun p z1 z2 => ?_, ⟨?_, fun v z1 z2 => ⟨?_, fun e a z3 z4 => ?_⟩⟩⟩, fun f o j q => ?_, fun a z1 z2 => ?_⟩
  · rw [ax_u3_f (by decide), ax_u3_f (by decide), i3 214 0 p (by omega), i3 215 0 p (by omega)]
    exact hmb p z1 z2
  · rw [ax_u3_f (by decide), e11]
    exact hc.1
  · rw [ax_u3_f (f' := 2) (by decide), e11]
    by_cases c : v = w
    · rw [c, ax_u3_s]
      exact Int.le_refl _
    · rw [ax_u3_n (by omega), i3 210 0 v (by omega), hfb 210 0 v (by unfold TG; omega)]
      exact (hc.2 v z1 z2).1
  · rw [ax_u3_f (by decide)]
    rw [ax_u3_f (f' := 2) (by decide), e11] at e
    by_cases c : v = w
    · rw [c]
      exact i4 a z3 z4
    · rw [ax_u3_n (by omega), i3 210 0 v (by omega), hfb 210 0 v (by unfold TG; omega)] at e
      rw [i3 209 0 _ (by omega), hfb 209 0 _ (by unfold TG; omega)]
      exact (hc.2 v z1 z2).2 e a z3 z4
  · have q2 := TG_TW q
    unfold TW at q
    rw [ax_u3_n (by omega), i3 f o j (by omega), hfb f o j q2]
  · rw [ax_u3_f (by decide)]
    exact i4 a z1 z2
set_option maxRecDepth 100000 in
set_option maxHeartbeats 4000000 in
theorem cp_rowOf (w : Int) (P : Nat → Int → Prop) (g : Nat → Int → Int → Int) (r0 : Nat → Int → Int → Option (Nat × Int)) (n : Nat → Int → Int) (h : Nat → Int → Int → Int) (hs : cSta P r0 n g h) (hd : cDy g h) (hw : 0 ≤ w ∧ w < 128) : ax_S yX2_rowOf cX2_rowOf 4 (some FieldType.int) 12 0 0 [.inr (.inr (some (2, 0))), .inl w] (P, g, r0, n) (fun r M' => r = some (.inl (w * 7)) ∧ ∃ g', M' = (P, g', r0, n) ∧ cDy g' h ∧ cFr TW g' g ∧ ∀ a, 0 ≤ a → a < h 50 0 2 → g' 209 0 (w * 7 + a) = gA h w 135 0 a) := by
  have hAs := hs.1.1
  have hPs := hs.1.2.1
  have hOs := hs.1.2.2
  have hP1 := hPs.1
  have hA1 := hAs.1
  have hsz := hOs.2.2.1
  have hm := hd.1
  have hca := hd.2
  have hln := hs.2.1
  have hxz := hPs.1.1
  refine ax_S_of (own := 2) (by decide) rfl (fun h => absurd h (by decide)) rfl (Nat.le_of_ble_eq_true rfl) ?_
  change ax_J _ _ _ _ _ _ _ _ _ _ [some (.inr (.inr (some (2, 0)))), some (.inl w), none, none] _ _
  refine aj_run (C := (-2147483648 ≤ w * 7 ∧ w * 7 ≤ 2147483647) ∧ (0 ≤ w ∧ w < n 210 0) ∧ True) (pc' := 15) (la' := [some (.inr (.inr (some (2, 0)))), some (.inl w), some (.inl (w * 7)), none]) (st' := [.inl (g 2 0 11), .inl (g 210 0 w)]) (M' := (P, g, r0, n)) ok_X2_rowOf true 10 rfl (by refine ⟨?_, ?_, trivial⟩ <;> (omega)) ?_
  refine aj_icmp_eq (tgt := 81) (ax_dec2 (i := .if_icmp .eq 66) (n := 3) ok_X2_rowOf rfl) (by decide) (fun c1 => ?_) (fun c1 => ?_)
  · refine aj_run (C := True) (pc' := 82) (la' := [some (.inr (.inr (some (2, 0)))), some (.inl w), some (.inl (w * 7)), none]) (st' := [.inl (w * 7)]) (M' := (P, g, r0, n)) ok_X2_rowOf true 1 rfl trivial ?_
    refine aj_ret (r := some (.inl (w * 7))) (ax_dec2 (i := .ireturn) (n := 1) ok_X2_rowOf rfl) ⟨?_, ?_, by decide, by decide⟩ rfl
    · exact ⟨rfl, g, rfl, hd, fun _ _ _ _ => rfl, (hca.2 w (by omega) (by omega)).2 (by omega)⟩
    · exact ax_ro_i
  · refine aj_run (C := True) (pc' := 21) (la' := [some (.inr (.inr (some (2, 0)))), some (.inl w), some (.inl (w * 7)), none]) (st' := [.inl 0, .inl w, .inr (.inr (some (2, 0)))]) (M' := (P, g, r0, n)) ok_X2_rowOf true 3 rfl trivial ?_
    refine aj_callV (av := [.inl w, .inl 0]) (st := []) (f := 2) (o := 0) (ci := 2) cal_X2_begin lk_2_159 ins_X2_begin rfl sel_X2_begin rfl (fun c9 h9 _ => by simpa [ax_ok] using h9) (cp_begin w 0 _ _ _ _ hAs (by decide)) ⟨by decide, by decide, by decide, by decide⟩ (Nat.le_of_ble_eq_true rfl) (ax_dec2 (i := .invokevirtual 159) (n := 3) ok_X2_rowOf rfl) (fun r M' hq => ?_)
    obtain ⟨rfl, rfl⟩ := hq
    change ax_J _ _ _ _ _ _ _ _ _ 24 [some (.inr (.inr (some (2, 0)))), some (.inl w), some (.inl (w * 7)), none] [] (P, cBegin g w 0, r0, n)
    obtain ⟨hb1, hb2, hb3, hb4, hb5, hb6, hb7⟩ := beg_all hs hm w 0
    refine aj_run (C := True) (pc' := 28) (la' := [some (.inr (.inr (some (2, 0)))), some (.inl w), some (.inl (w * 7)), none]) (st' := [.inl ((cBegin g w 0) 2 0 3)]) (M' := (P, cBegin g w 0, r0, n)) ok_X2_rowOf true 2 rfl trivial ?_
    refine aj_if_ne (tgt := 38) (ax_dec2 (i := .ifCond .ne 10) (n := 3) ok_X2_rowOf rfl) (by decide) (fun c2 => ?_) (fun c2 => ?_)
    · have hfb : cFr TG (cBegin g w 0) g := cBg_fr
      have hmb := cSm_mz hb5
      have hob : ∀ a, 0 ≤ a → a < h 50 0 2 → (cBegin g w 0) 5 a 9 = gA h w 135 0 a := fun a z1 z2 => by rw [gA_ring hOs (by have z9 : g 2 0 3 ≠ 0 := (by assumption); omega) z1 z2]; exact cBg_r z1 (by omega) (by decide)
      generalize (cBegin g w 0) = gb at hfb hmb hob ⊢
      have hsb : gb 2 0 1 = g 2 0 1 := hfb 2 0 1 (by unfold TG; omega)
      refine aj_run (C := True) (pc' := 40) (la' := [some (.inr (.inr (some (2, 0)))), some (.inl w), some (.inl (w * 7)), some (.inl 0)]) (st' := []) (M' := (P, gb, r0, n)) ok_X2_rowOf true 2 rfl trivial ?_
      refine aj_loop (σ := (Int) × (Nat → Int → Int → Int)) (fun xL => 0 ≤ xL.1 ∧ xL.1 ≤ g 2 0 1 ∧ cFr (fun f o j => f = 209 ∧ o = 0 ∧ w * 7 ≤ j ∧ j < w * 7 + 7) xL.2 gb ∧ ∀ a, 0 ≤ a → a < xL.1 → xL.2 209 0 (w * 7 + a) = gA h w 135 0 a) (fun xL => (g 2 0 1 - xL.1).toNat) (fun xL => [some (.inr (.inr (some (2, 0)))), some (.inl w), some (.inl (w * 7)), some (.inl xL.1)]) (fun xL => []) (fun xL => (P, xL.2, r0, n)) ?_ (0, gb) ?_
      rotate_left
      · (try dsimp only); exact ⟨by omega, by omega, fun _ _ _ _ => rfl, fun a z1 z2 => by omega⟩
      rintro ⟨i, g1⟩ hI ih40
      try dsimp only at hI ih40
      obtain ⟨i1, i2, i3, i4⟩ := hI
      change ax_J _ _ _ _ _ _ _ _ _ 40 [some (.inr (.inr (some (2, 0)))), some (.inl w), some (.inl (w * 7)), some (.inl i)] [] (P, g1, r0, n)
      have hsz1 : g1 2 0 1 = g 2 0 1 := (i3 2 0 1 (by omega)).trans hsb
      refine aj_run (C := True) (pc' := 45) (la' := [some (.inr (.inr (some (2, 0)))), some (.inl w), some (.inl (w * 7)), some (.inl i)]) (st' := [.inl (g1 2 0 1), .inl i]) (M' := (P, g1, r0, n)) ok_X2_rowOf true 3 rfl trivial ?_
      refine aj_icmp_ge (tgt := 71) (ax_dec2 (i := .if_icmp .ge 26) (n := 3) ok_X2_rowOf rfl) (by decide) (fun c3 => ?_) (fun c3 => ?_)
      · refine aj_run (C := (0 ≤ w ∧ w < n 210 0) ∧ True) (pc' := 82) (la' := [some (.inr (.inr (some (2, 0)))), some (.inl w), some (.inl (w * 7)), some (.inl i)]) (st' := [.inl (w * 7)]) (M' := (P, ax_u3 g1 210 0 w (g1 2 0 11), r0, n)) ok_X2_rowOf true 7 rfl (by refine ⟨?_, trivial⟩ <;> (omega)) ?_
        refine aj_ret (r := some (.inl (w * 7))) (ax_dec2 (i := .ireturn) (n := 1) ok_X2_rowOf rfl) ⟨?_, ?_, by decide, by decide⟩ rfl
        · (have q9 := cRow_end hca hw (by omega) hfb hmb i3 (fun a z1 z2 => i4 a z1 (by omega)); exact ⟨rfl, _, rfl, q9.1, q9.2.1, q9.2.2⟩)
        · exact ax_ro_i
      · refine aj_run (C := (-2147483648 ≤ (w * 7) + i ∧ (w * 7) + i ≤ 2147483647) ∧ True) (pc' := 60) (la' := [some (.inr (.inr (some (2, 0)))), some (.inl w), some (.inl (w * 7)), some (.inl i)]) (st' := [.inl i, .inr (.inr (some (200, 0))), .inl ((w * 7) + i), .inr (.inr (some (209, 0)))]) (M' := (P, g1, r0, n)) ok_X2_rowOf true 8 rfl (by refine ⟨?_, trivial⟩ <;> (omega)) ?_
        refine aj_aald (f := 200) (g := 5) (o := 0) (i := i) (u := i) (E := "AntsTurn$Ant") rfl rfl rfl ⟨by omega, by have z9 := hAs.1.1; show i < n 200 0; omega⟩ (hAs.2 i (by omega) (by omega)).1.1 (hAs.2 i (by omega) (by omega)).1.2 (ax_dec2 (i := .aaload) (n := 1) ok_X2_rowOf rfl) ?_
        refine aj_run (C := (0 ≤ (w * 7) + i ∧ (w * 7) + i < n 209 0) ∧ (-2147483648 ≤ i + 1 ∧ i + 1 ≤ 2147483647) ∧ True) (pc' := 40) (la' := [some (.inr (.inr (some (2, 0)))), some (.inl w), some (.inl (w * 7)), some (.inl (i + 1))]) (st' := []) (M' := (P, ax_u3 g1 209 0 ((w * 7) + i) (g1 5 i 9), r0, n)) ok_X2_rowOf true 4 rfl (by refine ⟨?_, ?_, trivial⟩ <;> (omega)) ?_
        refine ih40 (i + 1, ax_u3 g1 209 0 ((w * 7) + i) (g1 5 i 9)) ?_ ?_
        · (try dsimp only); exact ⟨by omega, by omega, fun f o j q => by rw [ax_u3_n (by omega)]; exact i3 f o j q, fun a z1 z2 => (by
        by_cases e : a = i
        · rw [e, ax_u3_s, i3 5 i 9 (by omega)]; exact hob i i1 (by omega)
        · rw [ax_u3_n (by omega)]; exact i4 a z1 (by omega))⟩
        · omega
    · refine aj_run (C := True) (pc' := 35) (la' := [some (.inr (.inr (some (2, 0)))), some (.inl w), some (.inl (w * 7)), none]) (st' := [.inl 200, .inr (.inr (some (2, 0)))]) (M' := (P, cBegin g w 0, r0, n)) ok_X2_rowOf true 2 rfl trivial ?_
      refine aj_callV (av := [.inl 200]) (st := []) (f := 2) (o := 0) (ci := 2) cal_X2_goOn lk_2_162 ins_X2_goOn rfl sel_X2_goOn rfl (fun c9 h9 _ => by simpa [ax_ok] using h9) (cp_goOn 200 0 _ _ _ _ hb1 ⟨hs.2.1.1, hs.2.1.2.1⟩ hs.2.1.2.2.1 _ hb2 hb3 hb4 (by omega) (by omega) (by omega) hb5 _ _ ⟨hs.2.2.1.1, hb6⟩ cV_n hb7) ⟨by decide, by decide, by decide, by decide⟩ (Nat.le_of_ble_eq_true rfl) (ax_dec2 (i := .invokevirtual 162) (n := 3) ok_X2_rowOf rfl) (fun r M' hq => ?_)
      obtain ⟨rfl, g3, rfl, sm3, fr3⟩ := hq
      change ax_J _ _ _ _ _ _ _ _ _ 38 [some (.inr (.inr (some (2, 0)))), some (.inl w), some (.inl (w * 7)), none] [] (P, g3, r0, n)
      rw [beg_42] at sm3
      have hfb : cFr TG g3 g := fun f o j q => (fr3 f o j (TGo_TG q)).trans (cBg_fr f o j q)
      have hmb := cSm_mz sm3
      have hob : ∀ a, 0 ≤ a → a < h 50 0 2 → g3 5 a 9 = gA h w 135 0 a := fun a z1 z2 => cSm_9 sm3 z1 (by rw [beg_sz]; exact z2)
      generalize g3 = gb at hfb hmb hob ⊢
      have hsb : gb 2 0 1 = g 2 0 1 := hfb 2 0 1 (by unfold TG; omega)
      refine aj_run (C := True) (pc' := 40) (la' := [some (.inr (.inr (some (2, 0)))), some (.inl w), some (.inl (w * 7)), some (.inl 0)]) (st' := []) (M' := (P, gb, r0, n)) ok_X2_rowOf true 2 rfl trivial ?_
      refine aj_loop (σ := (Int) × (Nat → Int → Int → Int)) (fun xL => 0 ≤ xL.1 ∧ xL.1 ≤ g 2 0 1 ∧ cFr (fun f o j => f = 209 ∧ o = 0 ∧ w * 7 ≤ j ∧ j < w * 7 + 7) xL.2 gb ∧ ∀ a, 0 ≤ a → a < xL.1 → xL.2 209 0 (w * 7 + a) = gA h w 135 0 a) (fun xL => (g 2 0 1 - xL.1).toNat) (fun xL => [some (.inr (.inr (some (2, 0)))), some (.inl w), some (.inl (w * 7)), some (.inl xL.1)]) (fun xL => []) (fun xL => (P, xL.2, r0, n)) ?_ (0, gb) ?_
      rotate_left
      · (try dsimp only); exact ⟨by omega, by omega, fun _ _ _ _ => rfl, fun a z1 z2 => by omega⟩
      rintro ⟨i, g1⟩ hI ih40
      try dsimp only at hI ih40
      obtain ⟨i1, i2, i3, i4⟩ := hI
      change ax_J _ _ _ _ _ _ _ _ _ 40 [some (.inr (.inr (some (2, 0)))), some (.inl w), some (.inl (w * 7)), some (.inl i)] [] (P, g1, r0, n)
      have hsz1 : g1 2 0 1 = g 2 0 1 := (i3 2 0 1 (by omega)).trans hsb
      refine aj_run (C := True) (pc' := 45) (la' := [some (.inr (.inr (some (2, 0)))), some (.inl w), some (.inl (w * 7)), some (.inl i)]) (st' := [.inl (g1 2 0 1), .inl i]) (M' := (P, g1, r0, n)) ok_X2_rowOf true 3 rfl trivial ?_
      refine aj_icmp_ge (tgt := 71) (ax_dec2 (i := .if_icmp .ge 26) (n := 3) ok_X2_rowOf rfl) (by decide) (fun c4 => ?_) (fun c4 => ?_)
      · refine aj_run (C := (0 ≤ w ∧ w < n 210 0) ∧ True) (pc' := 82) (la' := [some (.inr (.inr (some (2, 0)))), some (.inl w), some (.inl (w * 7)), some (.inl i)]) (st' := [.inl (w * 7)]) (M' := (P, ax_u3 g1 210 0 w (g1 2 0 11), r0, n)) ok_X2_rowOf true 7 rfl (by refine ⟨?_, trivial⟩ <;> (omega)) ?_
        refine aj_ret (r := some (.inl (w * 7))) (ax_dec2 (i := .ireturn) (n := 1) ok_X2_rowOf rfl) ⟨?_, ?_, by decide, by decide⟩ rfl
        · (have q9 := cRow_end hca hw (by omega) hfb hmb i3 (fun a z1 z2 => i4 a z1 (by omega)); exact ⟨rfl, _, rfl, q9.1, q9.2.1, q9.2.2⟩)
        · exact ax_ro_i
      · refine aj_run (C := (-2147483648 ≤ (w * 7) + i ∧ (w * 7) + i ≤ 2147483647) ∧ True) (pc' := 60) (la' := [some (.inr (.inr (some (2, 0)))), some (.inl w), some (.inl (w * 7)), some (.inl i)]) (st' := [.inl i, .inr (.inr (some (200, 0))), .inl ((w * 7) + i), .inr (.inr (some (209, 0)))]) (M' := (P, g1, r0, n)) ok_X2_rowOf true 8 rfl (by refine ⟨?_, trivial⟩ <;> (omega)) ?_
        refine aj_aald (f := 200) (g := 5) (o := 0) (i := i) (u := i) (E := "AntsTurn$Ant") rfl rfl rfl ⟨by omega, by have z9 := hAs.1.1; show i < n 200 0; omega⟩ (hAs.2 i (by omega) (by omega)).1.1 (hAs.2 i (by omega) (by omega)).1.2 (ax_dec2 (i := .aaload) (n := 1) ok_X2_rowOf rfl) ?_
        refine aj_run (C := (0 ≤ (w * 7) + i ∧ (w * 7) + i < n 209 0) ∧ (-2147483648 ≤ i + 1 ∧ i + 1 ≤ 2147483647) ∧ True) (pc' := 40) (la' := [some (.inr (.inr (some (2, 0)))), some (.inl w), some (.inl (w * 7)), some (.inl (i + 1))]) (st' := []) (M' := (P, ax_u3 g1 209 0 ((w * 7) + i) (g1 5 i 9), r0, n)) ok_X2_rowOf true 4 rfl (by refine ⟨?_, ?_, trivial⟩ <;> (omega)) ?_
        refine ih40 (i + 1, ax_u3 g1 209 0 ((w * 7) + i) (g1 5 i 9)) ?_ ?_
        · (try dsimp only); exact ⟨by omega, by omega, fun f o j q => by rw [ax_u3_n (by omega)]; exact i3 f o j q, fun a z1 z2 => (by
        by_cases e : a = i
        · rw [e, ax_u3_s, i3 5 i 9 (by omega)]; exact hob i i1 (by omega)
        · rw [ax_u3_n (by omega)]; exact i4 a z1 (by omega))⟩
        · omega

theorem wMax_s {off : Int → Int} {n : Int} (h : 0 ≤ n) : wMax off (n + 1) = if wMax off n = -1 ∨ off (wMax off n) < off n then n else wMax off n := wFI_s h
/-- the latest beat of a row, as the class goes along it -/
def wLt (off : Int → Int) (n : Int) : Int := if wMax off n = -1 then -1 else off (wMax off n)
theorem wLt_s {off : Int → Int} {n : Int} (h : 0 ≤ n) (hv : 0 ≤ off n) : wLt off (n + 1) = if wLt off n < off n then off n else wLt off n := by
  unfold wLt
  rw [wMax_s h]
  by_cases c : wMax off n = -1
  · rw [if_pos (c := wMax off n = -1 ∨ _) (Or.inl c), if_pos c, if_neg (by omega), if_pos (by omega)]
  · rw [if_neg c]
    by_cases c2 : off (wMax off n) < off n
    · rw [if_pos (c := wMax off n = -1 ∨ _) (Or.inr c2), if_neg (by omega), if_pos c2]
    · rw [if_neg (c := wMax off n = -1 ∨ _) (fun z => z.elim c c2), if_neg c, if_neg c2]
/-- the latest beat of a way; none -/
noncomputable def gLt (h : Nat → Int → Int → Int) (w : Int) : Int := if gLa h w = -1 then -1 else gA h w 135 0 (gLa h w)
theorem gLa_y {h : Nat → Int → Int → Int} {w n : Int} (e : n = h 50 0 2) (ha : ∀ a, 0 ≤ a → a < n → 0 ≤ gA h w 135 0 a) : gLa h w = wMax (gA h w 135 0) n ∧ gLt h w = wLt (gA h w 135 0) n := by
  have : gLa h w = wMax (gA h w 135 0) n := by
    unfold gLa wLast
    rw [if_pos (by rw [← e]; exact ha), e]
  refine ⟨this, ?_⟩
  unfold gLt wLt
  rw [this]
theorem gLa_n {h : Nat → Int → Int → Int} {w a : Int} (h1 : 0 ≤ a) (h2 : a < h 50 0 2) (hz : gA h w 135 0 a < 0) : gLa h w = -1 ∧ gLt h w = -1 := by
  have : gLa h w = -1 := by
    unfold gLa wLast
    rw [if_neg (fun q => by have := q a h1 h2; omega)]
  exact ⟨this, by unfold gLt; rw [if_pos this]⟩
set_option maxRecDepth 100000 in
set_option maxHeartbeats 4000000 in
theorem cp_lastOf (w : Int) (P : Nat → Int → Prop) (g : Nat → Int → Int → Int) (r0 : Nat → Int → Int → Option (Nat × Int)) (n : Nat → Int → Int) (h : Nat → Int → Int → Int) (hs : cSta P r0 n g h) (hd : cDy g h) (hw : 0 ≤ w ∧ w < 128) : ax_S yX2_lastOf cX2_lastOf 5 (some FieldType.int) 13 0 0 [.inr (.inr (some (2, 0))), .inl w] (P, g, r0, n) (fun r M' => r = some (.inl (gLa h w)) ∧ ∃ g', M' = (P, g', r0, n) ∧ cDy g' h ∧ cFr TW g' g) := by
  have hAs := hs.1.1
  have hPs := hs.1.2.1
  have hOs := hs.1.2.2
  have hP1 := hPs.1
  have hA1 := hAs.1
  have hsz := hOs.2.2.1
  have hm := hd.1
  have hca := hd.2
  have hln := hs.2.1
  have hxz := hPs.1.1
  refine ax_S_of (own := 2) (by decide) rfl (fun h => absurd h (by decide)) rfl (Nat.le_of_ble_eq_true rfl) ?_
  change ax_J _ _ _ _ _ _ _ _ _ _ [some (.inr (.inr (some (2, 0)))), some (.inl w), none, none, none] _ _
  refine aj_run (C := True) (pc' := 2) (la' := [some (.inr (.inr (some (2, 0)))), some (.inl w), none, none, none]) (st' := [.inl w, .inr (.inr (some (2, 0)))]) (M' := (P, g, r0, n)) ok_X2_lastOf true 2 rfl trivial ?_
  refine aj_callV (av := [.inl w]) (st := []) (f := 2) (o := 0) (ci := 2) cal_X2_rowOf lk_2_168 ins_X2_rowOf rfl sel_X2_rowOf rfl (fun c9 h9 _ => by simpa [ax_ok] using h9) (cp_rowOf w _ _ _ _ h hs hd (by omega)) ⟨by decide, by decide, by decide, by decide⟩ (Nat.le_of_ble_eq_true rfl) (ax_dec2 (i := .invokevirtual 168) (n := 3) ok_X2_lastOf rfl) (fun r M' hq => ?_)
  obtain ⟨rfl, g4, rfl, hd4, fr4, row4⟩ := hq
  have hs4 := cSta_w fr4 hs
  have hs41 : g4 2 0 1 = g 2 0 1 := fr4 2 0 1 (by unfold TW TG; omega)
  change ax_J _ _ _ _ _ _ _ _ _ 5 [some (.inr (.inr (some (2, 0)))), some (.inl w), none, none, none] [.inl (w * 7)] (P, g4, r0, n)
  refine aj_run (C := True) (pc' := 11) (la' := [some (.inr (.inr (some (2, 0)))), some (.inl w), some (.inl (w * 7)), some (.inl (-1)), some (.inl 0)]) (st' := []) (M' := (P, g4, r0, n)) ok_X2_lastOf true 5 rfl trivial ?_
  refine aj_cast (congrArg (fun (z9 : Int) => ([some (.inr (.inr (some (2, 0)))), some (.inl w), some (.inl (w * 7)), some (.inl z9), some (.inl 0)] : List (Option ax_V))) (show (-1) = wMax (gA h w 135 0) 0 from by rfl)) rfl rfl ?_
  refine aj_loop (σ := (Int)) (fun xL => 0 ≤ xL ∧ xL ≤ g 2 0 1 ∧ ∀ a, 0 ≤ a → a < xL → 0 ≤ gA h w 135 0 a) (fun xL => (g 2 0 1 - xL).toNat) (fun xL => [some (.inr (.inr (some (2, 0)))), some (.inl w), some (.inl (w * 7)), some (.inl (wMax (gA h w 135 0) xL)), some (.inl xL)]) (fun xL => []) (fun xL => (P, g4, r0, n)) ?_ (0) ?_
  rotate_left
  · (try dsimp only); exact ⟨by omega, by omega, fun a z1 z2 => by omega⟩
  rintro i hI ih11
  try dsimp only at hI ih11
  obtain ⟨i1, i2, i3⟩ := hI
  change ax_J _ _ _ _ _ _ _ _ _ 11 [some (.inr (.inr (some (2, 0)))), some (.inl w), some (.inl (w * 7)), some (.inl (wMax (gA h w 135 0) i)), some (.inl i)] [] (P, g4, r0, n)
  refine aj_run (C := True) (pc' := 17) (la' := [some (.inr (.inr (some (2, 0)))), some (.inl w), some (.inl (w * 7)), some (.inl (wMax (gA h w 135 0) i)), some (.inl i)]) (st' := [.inl (g4 2 0 1), .inl i]) (M' := (P, g4, r0, n)) ok_X2_lastOf true 3 rfl trivial ?_
  refine aj_icmp_ge (tgt := 69) (ax_dec2 (i := .if_icmp .ge 52) (n := 3) ok_X2_lastOf rfl) (by decide) (fun c1 => ?_) (fun c1 => ?_)
  · refine aj_run (C := True) (pc' := 70) (la' := [some (.inr (.inr (some (2, 0)))), some (.inl w), some (.inl (w * 7)), some (.inl (wMax (gA h w 135 0) i)), some (.inl i)]) (st' := [.inl (wMax (gA h w 135 0) i)]) (M' := (P, g4, r0, n)) ok_X2_lastOf true 1 rfl trivial ?_
    refine aj_ret (r := some (.inl (wMax (gA h w 135 0) i))) (ax_dec2 (i := .ireturn) (n := 1) ok_X2_lastOf rfl) ⟨?_, ?_, by decide, by decide⟩ rfl
    · exact ⟨ax_si (gLa_y (by omega) i3).1.symm, g4, rfl, hd4, fr4⟩
    · exact ax_ro_i
  · have hr4 := row4 i i1 (by omega)
    have hgv := gA_v9 hOs (w := w) i1 (by omega : i < h 50 0 2)
    have hmi := wMax_in (off := gA h w 135 0) (n := i) i1
    refine aj_run (C := (-2147483648 ≤ (w * 7) + i ∧ (w * 7) + i ≤ 2147483647) ∧ (0 ≤ (w * 7) + i ∧ (w * 7) + i < n 209 0) ∧ True) (pc' := 30) (la' := [some (.inr (.inr (some (2, 0)))), some (.inl w), some (.inl (w * 7)), some (.inl (wMax (gA h w 135 0) i)), some (.inl i)]) (st' := [.inl (-1), .inl (g4 209 0 ((w * 7) + i))]) (M' := (P, g4, r0, n)) ok_X2_lastOf true 7 rfl (by refine ⟨?_, ?_, trivial⟩ <;> (omega)) ?_
    refine aj_icmp_ne (tgt := 35) (ax_dec2 (i := .if_icmp .ne 5) (n := 3) ok_X2_lastOf rfl) (by decide) (fun c2 => ?_) (fun c2 => ?_)
    · have hms := wMax_s (off := gA h w 135 0) i1
      refine aj_run (C := True) (pc' := 37) (la' := [some (.inr (.inr (some (2, 0)))), some (.inl w), some (.inl (w * 7)), some (.inl (wMax (gA h w 135 0) i)), some (.inl i)]) (st' := [.inl (-1), .inl (wMax (gA h w 135 0) i)]) (M' := (P, g4, r0, n)) ok_X2_lastOf true 2 rfl trivial ?_
      refine aj_icmp_eq (tgt := 60) (ax_dec2 (i := .if_icmp .eq 23) (n := 3) ok_X2_lastOf rfl) (by decide) (fun c3 => ?_) (fun c3 => ?_)
      · refine aj_run (C := (-2147483648 ≤ i + 1 ∧ i + 1 ≤ 2147483647) ∧ True) (pc' := 11) (la' := [some (.inr (.inr (some (2, 0)))), some (.inl w), some (.inl (w * 7)), some (.inl i), some (.inl (i + 1))]) (st' := []) (M' := (P, g4, r0, n)) ok_X2_lastOf true 4 rfl (by refine ⟨?_, trivial⟩ <;> (omega)) ?_
        refine aj_cast (congrArg (fun (z9 : Int) => ([some (.inr (.inr (some (2, 0)))), some (.inl w), some (.inl (w * 7)), some (.inl z9), some (.inl (i + 1))] : List (Option ax_V))) (show i = wMax (gA h w 135 0) (i + 1) from by (rw [hms]; first | rw [if_pos (by omega)] | rw [if_neg (by omega)]))) rfl rfl ?_
        refine ih11 (i + 1) ?_ ?_
        · (try dsimp only); exact ⟨by omega, by omega, fun a z1 z2 => by by_cases e : a = i; (rw [e]; omega); exact i3 a z1 (by omega)⟩
        · omega
      · refine aj_run (C := (-2147483648 ≤ (w * 7) + i ∧ (w * 7) + i ≤ 2147483647) ∧ (0 ≤ (w * 7) + i ∧ (w * 7) + i < n 209 0) ∧ True) (pc' := 53) (la' := [some (.inr (.inr (some (2, 0)))), some (.inl w), some (.inl (w * 7)), some (.inl (wMax (gA h w 135 0) i)), some (.inl i)]) (st' := [.inr (.inr (some (209, 0))), .inl (g4 209 0 ((w * 7) + i))]) (M' := (P, g4, r0, n)) ok_X2_lastOf true 8 rfl (by refine ⟨?_, ?_, trivial⟩ <;> (omega)) ?_
        have hrl := row4 (wMax (gA h w 135 0) i) (by omega) (by omega)
        refine aj_run (C := (-2147483648 ≤ (w * 7) + (wMax (gA h w 135 0) i) ∧ (w * 7) + (wMax (gA h w 135 0) i) ≤ 2147483647) ∧ (0 ≤ (w * 7) + (wMax (gA h w 135 0) i) ∧ (w * 7) + (wMax (gA h w 135 0) i) < n 209 0) ∧ True) (pc' := 57) (la' := [some (.inr (.inr (some (2, 0)))), some (.inl w), some (.inl (w * 7)), some (.inl (wMax (gA h w 135 0) i)), some (.inl i)]) (st' := [.inl (g4 209 0 ((w * 7) + (wMax (gA h w 135 0) i))), .inl (g4 209 0 ((w * 7) + i))]) (M' := (P, g4, r0, n)) ok_X2_lastOf true 4 rfl (by refine ⟨?_, ?_, trivial⟩ <;> (omega)) ?_
        refine aj_icmp_le (tgt := 63) (ax_dec2 (i := .if_icmp .le 6) (n := 3) ok_X2_lastOf rfl) (by decide) (fun c4 => ?_) (fun c4 => ?_)
        · refine aj_run (C := (-2147483648 ≤ i + 1 ∧ i + 1 ≤ 2147483647) ∧ True) (pc' := 11) (la' := [some (.inr (.inr (some (2, 0)))), some (.inl w), some (.inl (w * 7)), some (.inl (wMax (gA h w 135 0) i)), some (.inl (i + 1))]) (st' := []) (M' := (P, g4, r0, n)) ok_X2_lastOf true 2 rfl (by refine ⟨?_, trivial⟩ <;> (omega)) ?_
          refine aj_cast (congrArg (fun (z9 : Int) => ([some (.inr (.inr (some (2, 0)))), some (.inl w), some (.inl (w * 7)), some (.inl z9), some (.inl (i + 1))] : List (Option ax_V))) (show (wMax (gA h w 135 0) i) = wMax (gA h w 135 0) (i + 1) from by (rw [hms]; first | rw [if_pos (by omega)] | rw [if_neg (by omega)]))) rfl rfl ?_
          refine ih11 (i + 1) ?_ ?_
          · (try dsimp only); exact ⟨by omega, by omega, fun a z1 z2 => by by_cases e : a = i; (rw [e]; omega); exact i3 a z1 (by omega)⟩
          · omega
        · refine aj_run (C := (-2147483648 ≤ i + 1 ∧ i + 1 ≤ 2147483647) ∧ True) (pc' := 11) (la' := [some (.inr (.inr (some (2, 0)))), some (.inl w), some (.inl (w * 7)), some (.inl i), some (.inl (i + 1))]) (st' := []) (M' := (P, g4, r0, n)) ok_X2_lastOf true 4 rfl (by refine ⟨?_, trivial⟩ <;> (omega)) ?_
          refine aj_cast (congrArg (fun (z9 : Int) => ([some (.inr (.inr (some (2, 0)))), some (.inl w), some (.inl (w * 7)), some (.inl z9), some (.inl (i + 1))] : List (Option ax_V))) (show i = wMax (gA h w 135 0) (i + 1) from by (rw [hms]; first | rw [if_pos (by omega)] | rw [if_neg (by omega)]))) rfl rfl ?_
          refine ih11 (i + 1) ?_ ?_
          · (try dsimp only); exact ⟨by omega, by omega, fun a z1 z2 => by by_cases e : a = i; (rw [e]; omega); exact i3 a z1 (by omega)⟩
          · omega
    · refine aj_run (C := True) (pc' := 34) (la' := [some (.inr (.inr (some (2, 0)))), some (.inl w), some (.inl (w * 7)), some (.inl (wMax (gA h w 135 0) i)), some (.inl i)]) (st' := [.inl (-1)]) (M' := (P, g4, r0, n)) ok_X2_lastOf true 1 rfl trivial ?_
      refine aj_ret (r := some (.inl (-1))) (ax_dec2 (i := .ireturn) (n := 1) ok_X2_lastOf rfl) ⟨?_, ?_, by decide, by decide⟩ rfl
      · exact ⟨ax_si (gLa_n i1 (by omega) (by omega)).1.symm, g4, rfl, hd4, fr4⟩
      · exact ax_ro_i

set_option maxRecDepth 100000 in
set_option maxHeartbeats 4000000 in
theorem cp_latestOf (w : Int) (P : Nat → Int → Prop) (g : Nat → Int → Int → Int) (r0 : Nat → Int → Int → Option (Nat × Int)) (n : Nat → Int → Int) (h : Nat → Int → Int → Int) (hs : cSta P r0 n g h) (hd : cDy g h) (hw : 0 ≤ w ∧ w < 128) : ax_S yX2_latestOf cX2_latestOf 5 (some FieldType.int) 13 0 0 [.inr (.inr (some (2, 0))), .inl w] (P, g, r0, n) (fun r M' => r = some (.inl (gLt h w)) ∧ ∃ g', M' = (P, g', r0, n) ∧ cDy g' h ∧ cFr TW g' g) := by
  have hAs := hs.1.1
  have hPs := hs.1.2.1
  have hOs := hs.1.2.2
  have hP1 := hPs.1
  have hA1 := hAs.1
  have hsz := hOs.2.2.1
  have hm := hd.1
  have hca := hd.2
  have hln := hs.2.1
  have hxz := hPs.1.1
  refine ax_S_of (own := 2) (by decide) rfl (fun h => absurd h (by decide)) rfl (Nat.le_of_ble_eq_true rfl) ?_
  change ax_J _ _ _ _ _ _ _ _ _ _ [some (.inr (.inr (some (2, 0)))), some (.inl w), none, none, none] _ _
  refine aj_run (C := True) (pc' := 2) (la' := [some (.inr (.inr (some (2, 0)))), some (.inl w), none, none, none]) (st' := [.inl w, .inr (.inr (some (2, 0)))]) (M' := (P, g, r0, n)) ok_X2_latestOf true 2 rfl trivial ?_
  refine aj_callV (av := [.inl w]) (st := []) (f := 2) (o := 0) (ci := 2) cal_X2_rowOf lk_2_168 ins_X2_rowOf rfl sel_X2_rowOf rfl (fun c9 h9 _ => by simpa [ax_ok] using h9) (cp_rowOf w _ _ _ _ h hs hd (by omega)) ⟨by decide, by decide, by decide, by decide⟩ (Nat.le_of_ble_eq_true rfl) (ax_dec2 (i := .invokevirtual 168) (n := 3) ok_X2_latestOf rfl) (fun r M' hq => ?_)
  obtain ⟨rfl, g4, rfl, hd4, fr4, row4⟩ := hq
  have hs4 := cSta_w fr4 hs
  have hs41 : g4 2 0 1 = g 2 0 1 := fr4 2 0 1 (by unfold TW TG; omega)
  change ax_J _ _ _ _ _ _ _ _ _ 5 [some (.inr (.inr (some (2, 0)))), some (.inl w), none, none, none] [.inl (w * 7)] (P, g4, r0, n)
  refine aj_run (C := True) (pc' := 11) (la' := [some (.inr (.inr (some (2, 0)))), some (.inl w), some (.inl (w * 7)), some (.inl (-1)), some (.inl 0)]) (st' := []) (M' := (P, g4, r0, n)) ok_X2_latestOf true 5 rfl trivial ?_
  refine aj_cast (congrArg (fun (z9 : Int) => ([some (.inr (.inr (some (2, 0)))), some (.inl w), some (.inl (w * 7)), some (.inl z9), some (.inl 0)] : List (Option ax_V))) (show (-1) = wLt (gA h w 135 0) 0 from by rfl)) rfl rfl ?_
  refine aj_loop (σ := (Int)) (fun xL => 0 ≤ xL ∧ xL ≤ g 2 0 1 ∧ ∀ a, 0 ≤ a → a < xL → 0 ≤ gA h w 135 0 a) (fun xL => (g 2 0 1 - xL).toNat) (fun xL => [some (.inr (.inr (some (2, 0)))), some (.inl w), some (.inl (w * 7)), some (.inl (wLt (gA h w 135 0) xL)), some (.inl xL)]) (fun xL => []) (fun xL => (P, g4, r0, n)) ?_ (0) ?_
  rotate_left
  · (try dsimp only); exact ⟨by omega, by omega, fun a z1 z2 => by omega⟩
  rintro i hI ih11
  try dsimp only at hI ih11
  obtain ⟨i1, i2, i3⟩ := hI
  change ax_J _ _ _ _ _ _ _ _ _ 11 [some (.inr (.inr (some (2, 0)))), some (.inl w), some (.inl (w * 7)), some (.inl (wLt (gA h w 135 0) i)), some (.inl i)] [] (P, g4, r0, n)
  refine aj_run (C := True) (pc' := 17) (la' := [some (.inr (.inr (some (2, 0)))), some (.inl w), some (.inl (w * 7)), some (.inl (wLt (gA h w 135 0) i)), some (.inl i)]) (st' := [.inl (g4 2 0 1), .inl i]) (M' := (P, g4, r0, n)) ok_X2_latestOf true 3 rfl trivial ?_
  refine aj_icmp_ge (tgt := 55) (ax_dec2 (i := .if_icmp .ge 38) (n := 3) ok_X2_latestOf rfl) (by decide) (fun c1 => ?_) (fun c1 => ?_)
  · refine aj_run (C := True) (pc' := 56) (la' := [some (.inr (.inr (some (2, 0)))), some (.inl w), some (.inl (w * 7)), some (.inl (wLt (gA h w 135 0) i)), some (.inl i)]) (st' := [.inl (wLt (gA h w 135 0) i)]) (M' := (P, g4, r0, n)) ok_X2_latestOf true 1 rfl trivial ?_
    refine aj_ret (r := some (.inl (wLt (gA h w 135 0) i))) (ax_dec2 (i := .ireturn) (n := 1) ok_X2_latestOf rfl) ⟨?_, ?_, by decide, by decide⟩ rfl
    · exact ⟨ax_si (gLa_y (by omega) i3).2.symm, g4, rfl, hd4, fr4⟩
    · exact ax_ro_i
  · have hr4 := row4 i i1 (by omega)
    have hgv := gA_v9 hOs (w := w) i1 (by omega : i < h 50 0 2)
    refine aj_run (C := (-2147483648 ≤ (w * 7) + i ∧ (w * 7) + i ≤ 2147483647) ∧ (0 ≤ (w * 7) + i ∧ (w * 7) + i < n 209 0) ∧ True) (pc' := 30) (la' := [some (.inr (.inr (some (2, 0)))), some (.inl w), some (.inl (w * 7)), some (.inl (wLt (gA h w 135 0) i)), some (.inl i)]) (st' := [.inl (-1), .inl (g4 209 0 ((w * 7) + i))]) (M' := (P, g4, r0, n)) ok_X2_latestOf true 7 rfl (by refine ⟨?_, ?_, trivial⟩ <;> (omega)) ?_
    refine aj_icmp_ne (tgt := 35) (ax_dec2 (i := .if_icmp .ne 5) (n := 3) ok_X2_latestOf rfl) (by decide) (fun c2 => ?_) (fun c2 => ?_)
    · refine aj_run (C := (-2147483648 ≤ (w * 7) + i ∧ (w * 7) + i ≤ 2147483647) ∧ (0 ≤ (w * 7) + i ∧ (w * 7) + i < n 209 0) ∧ True) (pc' := 45) (la' := [some (.inr (.inr (some (2, 0)))), some (.inl w), some (.inl (w * 7)), some (.inl (wLt (gA h w 135 0) i)), some (.inl i)]) (st' := [.inl (g4 209 0 ((w * 7) + i)), .inl (wLt (gA h w 135 0) i)]) (M' := (P, g4, r0, n)) ok_X2_latestOf true 7 rfl (by refine ⟨?_, ?_, trivial⟩ <;> (omega)) ?_
      refine aj_mmax lk_2_138 ⟨by decide, by decide⟩ ⟨by decide, by decide⟩ (Nat.le_of_ble_eq_true rfl) (ax_dec2 (i := .invokestatic 138) (n := 3) ok_X2_latestOf rfl) ?_
      refine aj_run (C := (-2147483648 ≤ i + 1 ∧ i + 1 ≤ 2147483647) ∧ True) (pc' := 11) (la' := [some (.inr (.inr (some (2, 0)))), some (.inl w), some (.inl (w * 7)), some (.inl (if wLt (gA h w 135 0) i < g4 209 0 ((w * 7) + i) then g4 209 0 ((w * 7) + i) else wLt (gA h w 135 0) i)), some (.inl (i + 1))]) (st' := []) (M' := (P, g4, r0, n)) ok_X2_latestOf true 3 rfl (by refine ⟨?_, trivial⟩ <;> (omega)) ?_
      refine aj_cast (congrArg (fun (z9 : Int) => ([some (.inr (.inr (some (2, 0)))), some (.inl w), some (.inl (w * 7)), some (.inl z9), some (.inl (i + 1))] : List (Option ax_V))) (show (if wLt (gA h w 135 0) i < g4 209 0 ((w * 7) + i) then g4 209 0 ((w * 7) + i) else wLt (gA h w 135 0) i) = wLt (gA h w 135 0) (i + 1) from by (rw [wLt_s i1 (by omega), hr4]))) rfl rfl ?_
      refine ih11 (i + 1) ?_ ?_
      · (try dsimp only); exact ⟨by omega, by omega, fun a z1 z2 => by by_cases e : a = i; (rw [e]; omega); exact i3 a z1 (by omega)⟩
      · omega
    · refine aj_run (C := True) (pc' := 34) (la' := [some (.inr (.inr (some (2, 0)))), some (.inl w), some (.inl (w * 7)), some (.inl (wLt (gA h w 135 0) i)), some (.inl i)]) (st' := [.inl (-1)]) (M' := (P, g4, r0, n)) ok_X2_latestOf true 1 rfl trivial ?_
      refine aj_ret (r := some (.inl (-1))) (ax_dec2 (i := .ireturn) (n := 1) ok_X2_latestOf rfl) ⟨?_, ?_, by decide, by decide⟩ rfl
      · exact ⟨ax_si (gLa_n i1 (by omega) (by omega)).2.symm, g4, rfl, hd4, fr4⟩
      · exact ax_ro_i

