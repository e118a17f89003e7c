/-! ===== calls of the law, more ===== -/
set_option maxRecDepth 100000 in
set_option maxHeartbeats 4000000 in
theorem lc_order {L : Nat} {xs : Nat → Int32} {pW : Nat → Int → Prop} {Q : ax_Q} {kc ks : Nat} {i : Int} {P : Nat → Int → Prop} {g : Nat → Int → Int → Int} {r : Nat → Int → Int → Option (Nat × Int)} {n : Nat → Int → Int} (hkc : kc ≤ 500000 ∧ ks ≤ 7000000) (hL : 0 ≤ i ∧ i + 6 ≤ L ∧ L ≤ 3072) (hI : lwI i P g r n) (hFa : cFa P (g 50 0 2)) (hk : ∀ P1 g1 r1 n1, lwI (i + 6) P1 g1 r1 n1 → ax_J 12 code 4 (some (L, xs)) room_1 pW Q (kc + 24) (ks + 648) 18 [some (.inr (.inr (some (90, 0)))), some (.inr (.inr (some (1, 0)))), some (.inr (.inr (some (50, 0)))), some (.inl (i + 6))] [] (P1, g1, r1, n1)) :
    ax_J 12 code 4 (some (L, xs)) room_1 pW Q kc ks 474 [some (.inr (.inr (some (90, 0)))), some (.inr (.inr (some (1, 0)))), some (.inr (.inr (some (50, 0)))), some (.inl i)] [] (P, g, r, n) := by
  obtain ⟨hw, hst0, ⟨hS, h90, h1, h50⟩, hp, hnd, h6, hn, hl⟩ := id hI
  have hO : wOs g := hw.1.2.2
  have hst2 : 0 ≤ g 2 0 11 ∧ g 2 0 11 ≤ 90000 := ⟨by have := hw.2.2.2.1.2.1; omega, by omega⟩
  have hst1 : 0 ≤ g 2 0 11 ∧ g 2 0 11 ≤ 100000 := ⟨hst2.1, by omega⟩
  refine aj_run (C := (-2147483648 ≤ i + 1 ∧ i + 1 ≤ 2147483647) ∧ True) (pc' := 479) (la' := [some (.inr (.inr (some (90, 0)))), some (.inr (.inr (some (1, 0)))), some (.inr (.inr (some (50, 0)))), some (.inl i)]) (st' := [.inl (i + 1), .inr (.inr (some (90, 0))), .inr (.inr (some (1, 0)))]) (M' := (P, g, r, n)) ok_L_law true 5 rfl (by refine ⟨?_, trivial⟩ <;> (omega)) ?_
  refine aj_sld (i := i + 1) ⟨by omega, by omega⟩ (ax_dec2 (i := .iaload) (n := 1) ok_L_law rfl) ?_
  change ax_J _ _ _ _ _ _ _ _ _ 480 [some (.inr (.inr (some (90, 0)))), some (.inr (.inr (some (1, 0)))), some (.inr (.inr (some (50, 0)))), some (.inl i)] [.inl (sX xs (i + 1)), .inr (.inr (some (1, 0)))] (P, g, r, n)
  refine aj_callV (av := [.inl (sX xs (i + 1))]) (st := []) (f := 1) (o := 0) (ci := 10) cal_X10_order lk_12_57 ins_X10_order rfl sel_X10_order rfl (fun c9 h9 _ => by simpa [ax_ok] using h9) (cp_order (sX xs (i + 1)) _ _ _ _ g (cWd_sta hw) hw.2.2.2.1) ⟨by decide, by decide, by show _ ≤ 600000; omega, by show _ ≤ 7302250; omega⟩ (Nat.le_of_ble_eq_true rfl) (ax_dec2 (i := .invokevirtual 57) (n := 3) ok_L_law rfl) (fun r M' hq => ?_)
  obtain ⟨rfl, g1, rfl, hd1, hf1⟩ := hq
  obtain ⟨hw1, hE1, hO1⟩ := lw_q hw hd1 hf1
  change ax_J _ _ _ _ _ _ _ _ _ 483 [some (.inr (.inr (some (90, 0)))), some (.inr (.inr (some (1, 0)))), some (.inr (.inr (some (50, 0)))), some (.inl i)] [.inl (fOrd g (sX xs (i + 1)))] (P, g1, r, n)
  refine aj_run (C := (-2147483648 ≤ i + 1 ∧ i + 1 ≤ 2147483647) ∧ True) (pc' := 488) (la' := [some (.inr (.inr (some (90, 0)))), some (.inr (.inr (some (1, 0)))), some (.inr (.inr (some (50, 0)))), some (.inl i)]) (st' := [.inl (i + 1), .inr (.inr (some (90, 0))), .inr (.inr (some (50, 0))), .inl (fOrd g (sX xs (i + 1)))]) (M' := (P, g1, r, n)) ok_L_law true 5 rfl (by refine ⟨?_, trivial⟩ <;> (omega)) ?_
  refine aj_sld (i := i + 1) ⟨by omega, by omega⟩ (ax_dec2 (i := .iaload) (n := 1) ok_L_law rfl) ?_
  change ax_J _ _ _ _ _ _ _ _ _ 489 [some (.inr (.inr (some (90, 0)))), some (.inr (.inr (some (1, 0)))), some (.inr (.inr (some (50, 0)))), some (.inl i)] [.inl (sX xs (i + 1)), .inr (.inr (some (50, 0))), .inl (fOrd g (sX xs (i + 1)))] (P, g1, r, n)
  refine aj_callV (av := [.inl (sX xs (i + 1))]) (st := [.inl (fOrd g (sX xs (i + 1)))]) (f := 50) (o := 0) (ci := 11) cal_X11_order lk_12_60 ins_X11_order rfl sel_X11_order rfl (fun c9 h9 _ => by simpa [ax_ok] using h9) (sp_order (sX xs (i + 1)) _ _ _ _ hn hO1) ⟨by decide, by decide, by show _ ≤ 600000; omega, by show _ ≤ 7302250; omega⟩ (Nat.le_of_ble_eq_true rfl) (ax_dec2 (i := .invokevirtual 60) (n := 3) ok_L_law rfl) (fun r M' hq => ?_)
  obtain ⟨rfl, g2, rfl, hk2⟩ := hq
  have heq : fOrd g (sX xs (i + 1)) = fOrd g1 (sX xs (i + 1)) := (fOrd_q _ hE1).symm
  change ax_J _ _ _ _ _ _ _ _ _ 492 [some (.inr (.inr (some (90, 0)))), some (.inr (.inr (some (1, 0)))), some (.inr (.inr (some (50, 0)))), some (.inl i)] [.inl (fOrd g1 (sX xs (i + 1))), .inl (fOrd g (sX xs (i + 1)))] (P, g2, r, n)
  refine aj_icmp_eq (tgt := 1072) (ax_dec2 (i := .if_icmp .eq 580) (n := 3) ok_L_law rfl) (by decide) (fun c1 => ?_) (fun c1 => ?_)
  · refine aj_run (C := (-2147483648 ≤ i + 6 ∧ i + 6 ≤ 2147483647) ∧ True) (pc' := 18) (la' := [some (.inr (.inr (some (90, 0)))), some (.inr (.inr (some (1, 0)))), some (.inr (.inr (some (50, 0)))), some (.inl (i + 6))]) (st' := []) (M' := (P, g2, r, n)) ok_L_law true 2 rfl (by refine ⟨?_, trivial⟩ <;> (omega)) ?_
    refine aj_wide (kc' := kc + 24) (ks' := ks + 648) (by omega) (by omega) ?_
    exact hk _ _ _ _ (lwI_q hI hw1 hf1 hk2)
  · exact absurd c1 (by exact fun z => z heq)

set_option maxRecDepth 100000 in
set_option maxHeartbeats 4000000 in
theorem lc_tilt {L : Nat} {xs : Nat → Int32} {pW : Nat → Int → Prop} {Q : ax_Q} {kc ks : Nat} {i : Int} {P : Nat → Int → Prop} {g : Nat → Int → Int → Int} {r : Nat → Int → Int → Option (Nat × Int)} {n : Nat → Int → Int} (hkc : kc ≤ 500000 ∧ ks ≤ 7000000) (hL : 0 ≤ i ∧ i + 6 ≤ L ∧ L ≤ 3072) (hI : lwI i P g r n) (hFa : cFa P (g 50 0 2)) (hk : ∀ P1 g1 r1 n1, lwI (i + 6) P1 g1 r1 n1 → ax_J 12 code 4 (some (L, xs)) room_1 pW Q (kc + 24) (ks + 648) 18 [some (.inr (.inr (some (90, 0)))), some (.inr (.inr (some (1, 0)))), some (.inr (.inr (some (50, 0)))), some (.inl (i + 6))] [] (P1, g1, r1, n1)) :
    ax_J 12 code 4 (some (L, xs)) room_1 pW Q kc ks 497 [some (.inr (.inr (some (90, 0)))), some (.inr (.inr (some (1, 0)))), some (.inr (.inr (some (50, 0)))), some (.inl i)] [] (P, g, r, n) := by
  obtain ⟨hw, hst0, ⟨hS, h90, h1, h50⟩, hp, hnd, h6, hn, hl⟩ := id hI
  have hO : wOs g := hw.1.2.2
  have hst2 : 0 ≤ g 2 0 11 ∧ g 2 0 11 ≤ 90000 := ⟨by have := hw.2.2.2.1.2.1; omega, by omega⟩
  have hst1 : 0 ≤ g 2 0 11 ∧ g 2 0 11 ≤ 100000 := ⟨hst2.1, by omega⟩
  refine aj_run (C := (-2147483648 ≤ i + 1 ∧ i + 1 ≤ 2147483647) ∧ True) (pc' := 502) (la' := [some (.inr (.inr (some (90, 0)))), some (.inr (.inr (some (1, 0)))), some (.inr (.inr (some (50, 0)))), some (.inl i)]) (st' := [.inl (i + 1), .inr (.inr (some (90, 0))), .inr (.inr (some (1, 0)))]) (M' := (P, g, r, n)) ok_L_law true 5 rfl (by refine ⟨?_, trivial⟩ <;> (omega)) ?_
  refine aj_sld (i := i + 1) ⟨by omega, by omega⟩ (ax_dec2 (i := .iaload) (n := 1) ok_L_law rfl) ?_
  change ax_J _ _ _ _ _ _ _ _ _ 503 [some (.inr (.inr (some (90, 0)))), some (.inr (.inr (some (1, 0)))), some (.inr (.inr (some (50, 0)))), some (.inl i)] [.inl (sX xs (i + 1)), .inr (.inr (some (1, 0)))] (P, g, r, n)
  refine aj_callV (av := [.inl (sX xs (i + 1))]) (st := []) (f := 1) (o := 0) (ci := 10) cal_X10_tilt lk_12_61 ins_X10_tilt rfl sel_X10_tilt rfl (fun c9 h9 _ => by simpa [ax_ok] using h9) (cp_tilt (sX xs (i + 1)) _ _ _ _ g (cWd_sta hw) hw.2.2.2.1) ⟨by decide, by decide, by show _ ≤ 600000; omega, by show _ ≤ 7302250; omega⟩ (Nat.le_of_ble_eq_true rfl) (ax_dec2 (i := .invokevirtual 61) (n := 3) ok_L_law rfl) (fun r M' hq => ?_)
  obtain ⟨rfl, g1, rfl, hd1, hf1⟩ := hq
  obtain ⟨hw1, hE1, hO1⟩ := lw_q hw hd1 hf1
  change ax_J _ _ _ _ _ _ _ _ _ 506 [some (.inr (.inr (some (90, 0)))), some (.inr (.inr (some (1, 0)))), some (.inr (.inr (some (50, 0)))), some (.inl i)] [.inl (fTil g (sX xs (i + 1)))] (P, g1, r, n)
  refine aj_run (C := (-2147483648 ≤ i + 1 ∧ i + 1 ≤ 2147483647) ∧ True) (pc' := 511) (la' := [some (.inr (.inr (some (90, 0)))), some (.inr (.inr (some (1, 0)))), some (.inr (.inr (some (50, 0)))), some (.inl i)]) (st' := [.inl (i + 1), .inr (.inr (some (90, 0))), .inr (.inr (some (50, 0))), .inl (fTil g (sX xs (i + 1)))]) (M' := (P, g1, r, n)) ok_L_law true 5 rfl (by refine ⟨?_, trivial⟩ <;> (omega)) ?_
  refine aj_sld (i := i + 1) ⟨by omega, by omega⟩ (ax_dec2 (i := .iaload) (n := 1) ok_L_law rfl) ?_
  change ax_J _ _ _ _ _ _ _ _ _ 512 [some (.inr (.inr (some (90, 0)))), some (.inr (.inr (some (1, 0)))), some (.inr (.inr (some (50, 0)))), some (.inl i)] [.inl (sX xs (i + 1)), .inr (.inr (some (50, 0))), .inl (fTil g (sX xs (i + 1)))] (P, g1, r, n)
  refine aj_callV (av := [.inl (sX xs (i + 1))]) (st := [.inl (fTil g (sX xs (i + 1)))]) (f := 50) (o := 0) (ci := 11) cal_X11_tilt lk_12_64 ins_X11_tilt rfl sel_X11_tilt rfl (fun c9 h9 _ => by simpa [ax_ok] using h9) (sp_tilt (sX xs (i + 1)) _ _ _ _ hn hO1) ⟨by decide, by decide, by show _ ≤ 600000; omega, by show _ ≤ 7302250; omega⟩ (Nat.le_of_ble_eq_true rfl) (ax_dec2 (i := .invokevirtual 64) (n := 3) ok_L_law rfl) (fun r M' hq => ?_)
  obtain ⟨rfl, g2, rfl, hk2⟩ := hq
  have heq : fTil g (sX xs (i + 1)) = fTil g1 (sX xs (i + 1)) := (fTil_q _ hE1).symm
  change ax_J _ _ _ _ _ _ _ _ _ 515 [some (.inr (.inr (some (90, 0)))), some (.inr (.inr (some (1, 0)))), some (.inr (.inr (some (50, 0)))), some (.inl i)] [.inl (fTil g1 (sX xs (i + 1))), .inl (fTil g (sX xs (i + 1)))] (P, g2, r, n)
  refine aj_icmp_eq (tgt := 1072) (ax_dec2 (i := .if_icmp .eq 557) (n := 3) ok_L_law rfl) (by decide) (fun c1 => ?_) (fun c1 => ?_)
  · refine aj_run (C := (-2147483648 ≤ i + 6 ∧ i + 6 ≤ 2147483647) ∧ True) (pc' := 18) (la' := [some (.inr (.inr (some (90, 0)))), some (.inr (.inr (some (1, 0)))), some (.inr (.inr (some (50, 0)))), some (.inl (i + 6))]) (st' := []) (M' := (P, g2, r, n)) ok_L_law true 2 rfl (by refine ⟨?_, trivial⟩ <;> (omega)) ?_
    refine aj_wide (kc' := kc + 24) (ks' := ks + 648) (by omega) (by omega) ?_
    exact hk _ _ _ _ (lwI_q hI hw1 hf1 hk2)
  · exact absurd c1 (by exact fun z => z heq)

set_option maxRecDepth 100000 in
set_option maxHeartbeats 4000000 in
theorem lc_through {L : Nat} {xs : Nat → Int32} {pW : Nat → Int → Prop} {Q : ax_Q} {kc ks : Nat} {i : Int} {P : Nat → Int → Prop} {g : Nat → Int → Int → Int} {r : Nat → Int → Int → Option (Nat × Int)} {n : Nat → Int → Int} (hkc : kc ≤ 500000 ∧ ks ≤ 7000000) (hL : 0 ≤ i ∧ i + 6 ≤ L ∧ L ≤ 3072) (hI : lwI i P g r n) (hFa : cFa P (g 50 0 2)) (hk : ∀ P1 g1 r1 n1, lwI (i + 6) P1 g1 r1 n1 → ax_J 12 code 4 (some (L, xs)) room_1 pW Q (kc + 24) (ks + 648) 18 [some (.inr (.inr (some (90, 0)))), some (.inr (.inr (some (1, 0)))), some (.inr (.inr (some (50, 0)))), some (.inl (i + 6))] [] (P1, g1, r1, n1)) :
    ax_J 12 code 4 (some (L, xs)) room_1 pW Q kc ks 520 [some (.inr (.inr (some (90, 0)))), some (.inr (.inr (some (1, 0)))), some (.inr (.inr (some (50, 0)))), some (.inl i)] [] (P, g, r, n) := by
  obtain ⟨hw, hst0, ⟨hS, h90, h1, h50⟩, hp, hnd, h6, hn, hl⟩ := id hI
  have hO : wOs g := hw.1.2.2
  have hst2 : 0 ≤ g 2 0 11 ∧ g 2 0 11 ≤ 90000 := ⟨by have := hw.2.2.2.1.2.1; omega, by omega⟩
  have hst1 : 0 ≤ g 2 0 11 ∧ g 2 0 11 ≤ 100000 := ⟨hst2.1, by omega⟩
  refine aj_run (C := (-2147483648 ≤ i + 1 ∧ i + 1 ≤ 2147483647) ∧ True) (pc' := 525) (la' := [some (.inr (.inr (some (90, 0)))), some (.inr (.inr (some (1, 0)))), some (.inr (.inr (some (50, 0)))), some (.inl i)]) (st' := [.inl (i + 1), .inr (.inr (some (90, 0))), .inr (.inr (some (1, 0)))]) (M' := (P, g, r, n)) ok_L_law true 5 rfl (by refine ⟨?_, trivial⟩ <;> (omega)) ?_
  refine aj_sld (i := i + 1) ⟨by omega, by omega⟩ (ax_dec2 (i := .iaload) (n := 1) ok_L_law rfl) ?_
  change ax_J _ _ _ _ _ _ _ _ _ 526 [some (.inr (.inr (some (90, 0)))), some (.inr (.inr (some (1, 0)))), some (.inr (.inr (some (50, 0)))), some (.inl i)] [.inl (sX xs (i + 1)), .inr (.inr (some (1, 0)))] (P, g, r, n)
  refine aj_run (C := (-2147483648 ≤ i + 2 ∧ i + 2 ≤ 2147483647) ∧ True) (pc' := 530) (la' := [some (.inr (.inr (some (90, 0)))), some (.inr (.inr (some (1, 0)))), some (.inr (.inr (some (50, 0)))), some (.inl i)]) (st' := [.inl (i + 2), .inr (.inr (some (90, 0))), .inl (sX xs (i + 1)), .inr (.inr (some (1, 0)))]) (M' := (P, g, r, n)) ok_L_law true 4 rfl (by refine ⟨?_, trivial⟩ <;> (omega)) ?_
  refine aj_sld (i := i + 2) ⟨by omega, by omega⟩ (ax_dec2 (i := .iaload) (n := 1) ok_L_law rfl) ?_
  change ax_J _ _ _ _ _ _ _ _ _ 531 [some (.inr (.inr (some (90, 0)))), some (.inr (.inr (some (1, 0)))), some (.inr (.inr (some (50, 0)))), some (.inl i)] [.inl (sX xs (i + 2)), .inl (sX xs (i + 1)), .inr (.inr (some (1, 0)))] (P, g, r, n)
  refine aj_callV (av := [.inl (sX xs (i + 1)), .inl (sX xs (i + 2))]) (st := []) (f := 1) (o := 0) (ci := 10) cal_X10_through lk_12_65 ins_X10_through rfl sel_X10_through rfl (fun c9 h9 _ => by simpa [ax_ok] using h9) (cp_through (sX xs (i + 1)) (sX xs (i + 2)) _ _ _ _ g (cWd_sta hw) hw.2.2.2.1) ⟨by decide, by decide, by show _ ≤ 600000; omega, by show _ ≤ 7302250; omega⟩ (Nat.le_of_ble_eq_true rfl) (ax_dec2 (i := .invokevirtual 65) (n := 3) ok_L_law rfl) (fun r M' hq => ?_)
  obtain ⟨rfl, g1, rfl, hd1, hf1⟩ := hq
  obtain ⟨hw1, hE1, hO1⟩ := lw_q hw hd1 hf1
  change ax_J _ _ _ _ _ _ _ _ _ 534 [some (.inr (.inr (some (90, 0)))), some (.inr (.inr (some (1, 0)))), some (.inr (.inr (some (50, 0)))), some (.inl i)] [.inl (fThr g (sX xs (i + 1)) (sX xs (i + 2)))] (P, g1, r, n)
  refine aj_run (C := (-2147483648 ≤ i + 1 ∧ i + 1 ≤ 2147483647) ∧ True) (pc' := 539) (la' := [some (.inr (.inr (some (90, 0)))), some (.inr (.inr (some (1, 0)))), some (.inr (.inr (some (50, 0)))), some (.inl i)]) (st' := [.inl (i + 1), .inr (.inr (some (90, 0))), .inr (.inr (some (50, 0))), .inl (fThr g (sX xs (i + 1)) (sX xs (i + 2)))]) (M' := (P, g1, r, n)) ok_L_law true 5 rfl (by refine ⟨?_, trivial⟩ <;> (omega)) ?_
  refine aj_sld (i := i + 1) ⟨by omega, by omega⟩ (ax_dec2 (i := .iaload) (n := 1) ok_L_law rfl) ?_
  change ax_J _ _ _ _ _ _ _ _ _ 540 [some (.inr (.inr (some (90, 0)))), some (.inr (.inr (some (1, 0)))), some (.inr (.inr (some (50, 0)))), some (.inl i)] [.inl (sX xs (i + 1)), .inr (.inr (some (50, 0))), .inl (fThr g (sX xs (i + 1)) (sX xs (i + 2)))] (P, g1, r, n)
  refine aj_run (C := (-2147483648 ≤ i + 2 ∧ i + 2 ≤ 2147483647) ∧ True) (pc' := 544) (la' := [some (.inr (.inr (some (90, 0)))), some (.inr (.inr (some (1, 0)))), some (.inr (.inr (some (50, 0)))), some (.inl i)]) (st' := [.inl (i + 2), .inr (.inr (some (90, 0))), .inl (sX xs (i + 1)), .inr (.inr (some (50, 0))), .inl (fThr g (sX xs (i + 1)) (sX xs (i + 2)))]) (M' := (P, g1, r, n)) ok_L_law true 4 rfl (by refine ⟨?_, trivial⟩ <;> (omega)) ?_
  refine aj_sld (i := i + 2) ⟨by omega, by omega⟩ (ax_dec2 (i := .iaload) (n := 1) ok_L_law rfl) ?_
  change ax_J _ _ _ _ _ _ _ _ _ 545 [some (.inr (.inr (some (90, 0)))), some (.inr (.inr (some (1, 0)))), some (.inr (.inr (some (50, 0)))), some (.inl i)] [.inl (sX xs (i + 2)), .inl (sX xs (i + 1)), .inr (.inr (some (50, 0))), .inl (fThr g (sX xs (i + 1)) (sX xs (i + 2)))] (P, g1, r, n)
  refine aj_callV (av := [.inl (sX xs (i + 1)), .inl (sX xs (i + 2))]) (st := [.inl (fThr g (sX xs (i + 1)) (sX xs (i + 2)))]) (f := 50) (o := 0) (ci := 11) cal_X11_through lk_12_68 ins_X11_through rfl sel_X11_through rfl (fun c9 h9 _ => by simpa [ax_ok] using h9) (sp_through (sX xs (i + 1)) (sX xs (i + 2)) _ _ _ _ hn hO1) ⟨by decide, by decide, by show _ ≤ 600000; omega, by show _ ≤ 7302250; omega⟩ (Nat.le_of_ble_eq_true rfl) (ax_dec2 (i := .invokevirtual 68) (n := 3) ok_L_law rfl) (fun r M' hq => ?_)
  obtain ⟨rfl, g2, rfl, hk2⟩ := hq
  have heq : fThr g (sX xs (i + 1)) (sX xs (i + 2)) = fThr g1 (sX xs (i + 1)) (sX xs (i + 2)) := (fThr_q _ _ hE1).symm
  change ax_J _ _ _ _ _ _ _ _ _ 548 [some (.inr (.inr (some (90, 0)))), some (.inr (.inr (some (1, 0)))), some (.inr (.inr (some (50, 0)))), some (.inl i)] [.inl (fThr g1 (sX xs (i + 1)) (sX xs (i + 2))), .inl (fThr g (sX xs (i + 1)) (sX xs (i + 2)))] (P, g2, r, n)
  refine aj_icmp_eq (tgt := 1072) (ax_dec2 (i := .if_icmp .eq 524) (n := 3) ok_L_law rfl) (by decide) (fun c1 => ?_) (fun c1 => ?_)
  · refine aj_run (C := (-2147483648 ≤ i + 6 ∧ i + 6 ≤ 2147483647) ∧ True) (pc' := 18) (la' := [some (.inr (.inr (some (90, 0)))), some (.inr (.inr (some (1, 0)))), some (.inr (.inr (some (50, 0)))), some (.inl (i + 6))]) (st' := []) (M' := (P, g2, r, n)) ok_L_law true 2 rfl (by refine ⟨?_, trivial⟩ <;> (omega)) ?_
    refine aj_wide (kc' := kc + 24) (ks' := ks + 648) (by omega) (by omega) ?_
    exact hk _ _ _ _ (lwI_q hI hw1 hf1 hk2)
  · exact absurd c1 (by exact fun z => z heq)

set_option maxRecDepth 100000 in
set_option maxHeartbeats 4000000 in
theorem lc_soonest {L : Nat} {xs : Nat → Int32} {pW : Nat → Int → Prop} {Q : ax_Q} {kc ks : Nat} {i : Int} {P : Nat → Int → Prop} {g : Nat → Int → Int → Int} {r : Nat → Int → Int → Option (Nat × Int)} {n : Nat → Int → Int} (hkc : kc ≤ 500000 ∧ ks ≤ 7000000) (hL : 0 ≤ i ∧ i + 6 ≤ L ∧ L ≤ 3072) (hI : lwI i P g r n) (hFa : cFa P (g 50 0 2)) (hk : ∀ P1 g1 r1 n1, lwI (i + 6) P1 g1 r1 n1 → ax_J 12 code 4 (some (L, xs)) room_1 pW Q (kc + 24) (ks + 648) 18 [some (.inr (.inr (some (90, 0)))), some (.inr (.inr (some (1, 0)))), some (.inr (.inr (some (50, 0)))), some (.inl (i + 6))] [] (P1, g1, r1, n1)) :
    ax_J 12 code 4 (some (L, xs)) room_1 pW Q kc ks 553 [some (.inr (.inr (some (90, 0)))), some (.inr (.inr (some (1, 0)))), some (.inr (.inr (some (50, 0)))), some (.inl i)] [] (P, g, r, n) := by
  obtain ⟨hw, hst0, ⟨hS, h90, h1, h50⟩, hp, hnd, h6, hn, hl⟩ := id hI
  have hO : wOs g := hw.1.2.2
  have hst2 : 0 ≤ g 2 0 11 ∧ g 2 0 11 ≤ 90000 := ⟨by have := hw.2.2.2.1.2.1; omega, by omega⟩
  have hst1 : 0 ≤ g 2 0 11 ∧ g 2 0 11 ≤ 100000 := ⟨hst2.1, by omega⟩
  refine aj_run (C := (-2147483648 ≤ i + 1 ∧ i + 1 ≤ 2147483647) ∧ True) (pc' := 558) (la' := [some (.inr (.inr (some (90, 0)))), some (.inr (.inr (some (1, 0)))), some (.inr (.inr (some (50, 0)))), some (.inl i)]) (st' := [.inl (i + 1), .inr (.inr (some (90, 0))), .inr (.inr (some (1, 0)))]) (M' := (P, g, r, n)) ok_L_law true 5 rfl (by refine ⟨?_, trivial⟩ <;> (omega)) ?_
  refine aj_sld (i := i + 1) ⟨by omega, by omega⟩ (ax_dec2 (i := .iaload) (n := 1) ok_L_law rfl) ?_
  change ax_J _ _ _ _ _ _ _ _ _ 559 [some (.inr (.inr (some (90, 0)))), some (.inr (.inr (some (1, 0)))), some (.inr (.inr (some (50, 0)))), some (.inl i)] [.inl (sX xs (i + 1)), .inr (.inr (some (1, 0)))] (P, g, r, n)
  refine aj_callV (av := [.inl (sX xs (i + 1))]) (st := []) (f := 1) (o := 0) (ci := 10) cal_X10_soonest lk_12_69 ins_X10_soonest rfl sel_X10_soonest rfl (fun c9 h9 _ => by simpa [ax_ok] using h9) (cp_soonest (sX xs (i + 1)) _ _ _ _ g (cWd_sta hw) hw.2.2.2.1) ⟨by decide, by decide, by show _ ≤ 600000; omega, by show _ ≤ 7302250; omega⟩ (Nat.le_of_ble_eq_true rfl) (ax_dec2 (i := .invokevirtual 69) (n := 3) ok_L_law rfl) (fun r M' hq => ?_)
  obtain ⟨rfl, g1, rfl, hd1, hf1⟩ := hq
  obtain ⟨hw1, hE1, hO1⟩ := lw_q hw hd1 hf1
  change ax_J _ _ _ _ _ _ _ _ _ 562 [some (.inr (.inr (some (90, 0)))), some (.inr (.inr (some (1, 0)))), some (.inr (.inr (some (50, 0)))), some (.inl i)] [.inl (fSoon g (sX xs (i + 1)))] (P, g1, r, n)
  refine aj_run (C := (-2147483648 ≤ i + 1 ∧ i + 1 ≤ 2147483647) ∧ True) (pc' := 567) (la' := [some (.inr (.inr (some (90, 0)))), some (.inr (.inr (some (1, 0)))), some (.inr (.inr (some (50, 0)))), some (.inl i)]) (st' := [.inl (i + 1), .inr (.inr (some (90, 0))), .inr (.inr (some (50, 0))), .inl (fSoon g (sX xs (i + 1)))]) (M' := (P, g1, r, n)) ok_L_law true 5 rfl (by refine ⟨?_, trivial⟩ <;> (omega)) ?_
  refine aj_sld (i := i + 1) ⟨by omega, by omega⟩ (ax_dec2 (i := .iaload) (n := 1) ok_L_law rfl) ?_
  change ax_J _ _ _ _ _ _ _ _ _ 568 [some (.inr (.inr (some (90, 0)))), some (.inr (.inr (some (1, 0)))), some (.inr (.inr (some (50, 0)))), some (.inl i)] [.inl (sX xs (i + 1)), .inr (.inr (some (50, 0))), .inl (fSoon g (sX xs (i + 1)))] (P, g1, r, n)
  refine aj_callV (av := [.inl (sX xs (i + 1))]) (st := [.inl (fSoon g (sX xs (i + 1)))]) (f := 50) (o := 0) (ci := 11) cal_X11_soonest lk_12_72 ins_X11_soonest rfl sel_X11_soonest rfl (fun c9 h9 _ => by simpa [ax_ok] using h9) (sp_soonest (sX xs (i + 1)) _ _ _ _ hn hO1) ⟨by decide, by decide, by show _ ≤ 600000; omega, by show _ ≤ 7302250; omega⟩ (Nat.le_of_ble_eq_true rfl) (ax_dec2 (i := .invokevirtual 72) (n := 3) ok_L_law rfl) (fun r M' hq => ?_)
  obtain ⟨rfl, g2, rfl, hk2⟩ := hq
  have heq : fSoon g (sX xs (i + 1)) = fSoon g1 (sX xs (i + 1)) := (fSoon_q _ hE1).symm
  change ax_J _ _ _ _ _ _ _ _ _ 571 [some (.inr (.inr (some (90, 0)))), some (.inr (.inr (some (1, 0)))), some (.inr (.inr (some (50, 0)))), some (.inl i)] [.inl (fSoon g1 (sX xs (i + 1))), .inl (fSoon g (sX xs (i + 1)))] (P, g2, r, n)
  refine aj_icmp_eq (tgt := 1072) (ax_dec2 (i := .if_icmp .eq 501) (n := 3) ok_L_law rfl) (by decide) (fun c1 => ?_) (fun c1 => ?_)
  · refine aj_run (C := (-2147483648 ≤ i + 6 ∧ i + 6 ≤ 2147483647) ∧ True) (pc' := 18) (la' := [some (.inr (.inr (some (90, 0)))), some (.inr (.inr (some (1, 0)))), some (.inr (.inr (some (50, 0)))), some (.inl (i + 6))]) (st' := []) (M' := (P, g2, r, n)) ok_L_law true 2 rfl (by refine ⟨?_, trivial⟩ <;> (omega)) ?_
    refine aj_wide (kc' := kc + 24) (ks' := ks + 648) (by omega) (by omega) ?_
    exact hk _ _ _ _ (lwI_q hI hw1 hf1 hk2)
  · exact absurd c1 (by exact fun z => z heq)

set_option maxRecDepth 100000 in
set_option maxHeartbeats 4000000 in
theorem lc_beLast {L : Nat} {xs : Nat → Int32} {pW : Nat → Int → Prop} {Q : ax_Q} {kc ks : Nat} {i : Int} {P : Nat → Int → Prop} {g : Nat → Int → Int → Int} {r : Nat → Int → Int → Option (Nat × Int)} {n : Nat → Int → Int} (hkc : kc ≤ 500000 ∧ ks ≤ 7000000) (hL : 0 ≤ i ∧ i + 6 ≤ L ∧ L ≤ 3072) (hI : lwI i P g r n) (hFa : cFa P (g 50 0 2)) (hk : ∀ P1 g1 r1 n1, lwI (i + 6) P1 g1 r1 n1 → ax_J 12 code 4 (some (L, xs)) room_1 pW Q (kc + 24) (ks + 648) 18 [some (.inr (.inr (some (90, 0)))), some (.inr (.inr (some (1, 0)))), some (.inr (.inr (some (50, 0)))), some (.inl (i + 6))] [] (P1, g1, r1, n1)) :
    ax_J 12 code 4 (some (L, xs)) room_1 pW Q kc ks 576 [some (.inr (.inr (some (90, 0)))), some (.inr (.inr (some (1, 0)))), some (.inr (.inr (some (50, 0)))), some (.inl i)] [] (P, g, r, n) := by
  obtain ⟨hw, hst0, ⟨hS, h90, h1, h50⟩, hp, hnd, h6, hn, hl⟩ := id hI
  have hO : wOs g := hw.1.2.2
  have hst2 : 0 ≤ g 2 0 11 ∧ g 2 0 11 ≤ 90000 := ⟨by have := hw.2.2.2.1.2.1; omega, by omega⟩
  have hst1 : 0 ≤ g 2 0 11 ∧ g 2 0 11 ≤ 100000 := ⟨hst2.1, by omega⟩
  refine aj_run (C := (-2147483648 ≤ i + 1 ∧ i + 1 ≤ 2147483647) ∧ True) (pc' := 581) (la' := [some (.inr (.inr (some (90, 0)))), some (.inr (.inr (some (1, 0)))), some (.inr (.inr (some (50, 0)))), some (.inl i)]) (st' := [.inl (i + 1), .inr (.inr (some (90, 0))), .inr (.inr (some (1, 0)))]) (M' := (P, g, r, n)) ok_L_law true 5 rfl (by refine ⟨?_, trivial⟩ <;> (omega)) ?_
  refine aj_sld (i := i + 1) ⟨by omega, by omega⟩ (ax_dec2 (i := .iaload) (n := 1) ok_L_law rfl) ?_
  change ax_J _ _ _ _ _ _ _ _ _ 582 [some (.inr (.inr (some (90, 0)))), some (.inr (.inr (some (1, 0)))), some (.inr (.inr (some (50, 0)))), some (.inl i)] [.inl (sX xs (i + 1)), .inr (.inr (some (1, 0)))] (P, g, r, n)
  refine aj_run (C := (-2147483648 ≤ i + 2 ∧ i + 2 ≤ 2147483647) ∧ True) (pc' := 586) (la' := [some (.inr (.inr (some (90, 0)))), some (.inr (.inr (some (1, 0)))), some (.inr (.inr (some (50, 0)))), some (.inl i)]) (st' := [.inl (i + 2), .inr (.inr (some (90, 0))), .inl (sX xs (i + 1)), .inr (.inr (some (1, 0)))]) (M' := (P, g, r, n)) ok_L_law true 4 rfl (by refine ⟨?_, trivial⟩ <;> (omega)) ?_
  refine aj_sld (i := i + 2) ⟨by omega, by omega⟩ (ax_dec2 (i := .iaload) (n := 1) ok_L_law rfl) ?_
  change ax_J _ _ _ _ _ _ _ _ _ 587 [some (.inr (.inr (some (90, 0)))), some (.inr (.inr (some (1, 0)))), some (.inr (.inr (some (50, 0)))), some (.inl i)] [.inl (sX xs (i + 2)), .inl (sX xs (i + 1)), .inr (.inr (some (1, 0)))] (P, g, r, n)
  refine aj_callV (av := [.inl (sX xs (i + 1)), .inl (sX xs (i + 2))]) (st := []) (f := 1) (o := 0) (ci := 10) cal_X10_beLast lk_12_73 ins_X10_beLast rfl sel_X10_beLast rfl (fun c9 h9 _ => by simpa [ax_ok] using h9) (cp_beLast (sX xs (i + 1)) (sX xs (i + 2)) _ _ _ _ g (cWd_sta hw) hw.2.2.2.1) ⟨by decide, by decide, by show _ ≤ 600000; omega, by show _ ≤ 7302250; omega⟩ (Nat.le_of_ble_eq_true rfl) (ax_dec2 (i := .invokevirtual 73) (n := 3) ok_L_law rfl) (fun r M' hq => ?_)
  obtain ⟨rfl, g1, rfl, hd1, hf1⟩ := hq
  obtain ⟨hw1, hE1, hO1⟩ := lw_q hw hd1 hf1
  change ax_J _ _ _ _ _ _ _ _ _ 590 [some (.inr (.inr (some (90, 0)))), some (.inr (.inr (some (1, 0)))), some (.inr (.inr (some (50, 0)))), some (.inl i)] [.inl (fBeL g (sX xs (i + 1)) (sX xs (i + 2)))] (P, g1, r, n)
  refine aj_run (C := (-2147483648 ≤ i + 1 ∧ i + 1 ≤ 2147483647) ∧ True) (pc' := 595) (la' := [some (.inr (.inr (some (90, 0)))), some (.inr (.inr (some (1, 0)))), some (.inr (.inr (some (50, 0)))), some (.inl i)]) (st' := [.inl (i + 1), .inr (.inr (some (90, 0))), .inr (.inr (some (50, 0))), .inl (fBeL g (sX xs (i + 1)) (sX xs (i + 2)))]) (M' := (P, g1, r, n)) ok_L_law true 5 rfl (by refine ⟨?_, trivial⟩ <;> (omega)) ?_
  refine aj_sld (i := i + 1) ⟨by omega, by omega⟩ (ax_dec2 (i := .iaload) (n := 1) ok_L_law rfl) ?_
  change ax_J _ _ _ _ _ _ _ _ _ 596 [some (.inr (.inr (some (90, 0)))), some (.inr (.inr (some (1, 0)))), some (.inr (.inr (some (50, 0)))), some (.inl i)] [.inl (sX xs (i + 1)), .inr (.inr (some (50, 0))), .inl (fBeL g (sX xs (i + 1)) (sX xs (i + 2)))] (P, g1, r, n)
  refine aj_run (C := (-2147483648 ≤ i + 2 ∧ i + 2 ≤ 2147483647) ∧ True) (pc' := 600) (la' := [some (.inr (.inr (some (90, 0)))), some (.inr (.inr (some (1, 0)))), some (.inr (.inr (some (50, 0)))), some (.inl i)]) (st' := [.inl (i + 2), .inr (.inr (some (90, 0))), .inl (sX xs (i + 1)), .inr (.inr (some (50, 0))), .inl (fBeL g (sX xs (i + 1)) (sX xs (i + 2)))]) (M' := (P, g1, r, n)) ok_L_law true 4 rfl (by refine ⟨?_, trivial⟩ <;> (omega)) ?_
  refine aj_sld (i := i + 2) ⟨by omega, by omega⟩ (ax_dec2 (i := .iaload) (n := 1) ok_L_law rfl) ?_
  change ax_J _ _ _ _ _ _ _ _ _ 601 [some (.inr (.inr (some (90, 0)))), some (.inr (.inr (some (1, 0)))), some (.inr (.inr (some (50, 0)))), some (.inl i)] [.inl (sX xs (i + 2)), .inl (sX xs (i + 1)), .inr (.inr (some (50, 0))), .inl (fBeL g (sX xs (i + 1)) (sX xs (i + 2)))] (P, g1, r, n)
  refine aj_callV (av := [.inl (sX xs (i + 1)), .inl (sX xs (i + 2))]) (st := [.inl (fBeL g (sX xs (i + 1)) (sX xs (i + 2)))]) (f := 50) (o := 0) (ci := 11) cal_X11_beLast lk_12_76 ins_X11_beLast rfl sel_X11_beLast rfl (fun c9 h9 _ => by simpa [ax_ok] using h9) (sp_beLast (sX xs (i + 1)) (sX xs (i + 2)) _ _ _ _ hn hO1) ⟨by decide, by decide, by show _ ≤ 600000; omega, by show _ ≤ 7302250; omega⟩ (Nat.le_of_ble_eq_true rfl) (ax_dec2 (i := .invokevirtual 76) (n := 3) ok_L_law rfl) (fun r M' hq => ?_)
  obtain ⟨rfl, g2, rfl, hk2⟩ := hq
  have heq : fBeL g (sX xs (i + 1)) (sX xs (i + 2)) = fBeL g1 (sX xs (i + 1)) (sX xs (i + 2)) := (fBeL_q _ _ hE1).symm
  change ax_J _ _ _ _ _ _ _ _ _ 604 [some (.inr (.inr (some (90, 0)))), some (.inr (.inr (some (1, 0)))), some (.inr (.inr (some (50, 0)))), some (.inl i)] [.inl (fBeL g1 (sX xs (i + 1)) (sX xs (i + 2))), .inl (fBeL g (sX xs (i + 1)) (sX xs (i + 2)))] (P, g2, r, n)
  refine aj_icmp_eq (tgt := 1072) (ax_dec2 (i := .if_icmp .eq 468) (n := 3) ok_L_law rfl) (by decide) (fun c1 => ?_) (fun c1 => ?_)
  · refine aj_run (C := (-2147483648 ≤ i + 6 ∧ i + 6 ≤ 2147483647) ∧ True) (pc' := 18) (la' := [some (.inr (.inr (some (90, 0)))), some (.inr (.inr (some (1, 0)))), some (.inr (.inr (some (50, 0)))), some (.inl (i + 6))]) (st' := []) (M' := (P, g2, r, n)) ok_L_law true 2 rfl (by refine ⟨?_, trivial⟩ <;> (omega)) ?_
    refine aj_wide (kc' := kc + 24) (ks' := ks + 648) (by omega) (by omega) ?_
    exact hk _ _ _ _ (lwI_q hI hw1 hf1 hk2)
  · exact absurd c1 (by exact fun z => z heq)

set_option maxRecDepth 100000 in
set_option maxHeartbeats 4000000 in
theorem lc_longest {L : Nat} {xs : Nat → Int32} {pW : Nat → Int → Prop} {Q : ax_Q} {kc ks : Nat} {i : Int} {P : Nat → Int → Prop} {g : Nat → Int → Int → Int} {r : Nat → Int → Int → Option (Nat × Int)} {n : Nat → Int → Int} (hkc : kc ≤ 500000 ∧ ks ≤ 7000000) (hL : 0 ≤ i ∧ i + 6 ≤ L ∧ L ≤ 3072) (hI : lwI i P g r n) (hFa : cFa P (g 50 0 2)) (hk : ∀ P1 g1 r1 n1, lwI (i + 6) P1 g1 r1 n1 → ax_J 12 code 4 (some (L, xs)) room_1 pW Q (kc + 24) (ks + 648) 18 [some (.inr (.inr (some (90, 0)))), some (.inr (.inr (some (1, 0)))), some (.inr (.inr (some (50, 0)))), some (.inl (i + 6))] [] (P1, g1, r1, n1)) :
    ax_J 12 code 4 (some (L, xs)) room_1 pW Q kc ks 609 [some (.inr (.inr (some (90, 0)))), some (.inr (.inr (some (1, 0)))), some (.inr (.inr (some (50, 0)))), some (.inl i)] [] (P, g, r, n) := by
  obtain ⟨hw, hst0, ⟨hS, h90, h1, h50⟩, hp, hnd, h6, hn, hl⟩ := id hI
  have hO : wOs g := hw.1.2.2
  have hst2 : 0 ≤ g 2 0 11 ∧ g 2 0 11 ≤ 90000 := ⟨by have := hw.2.2.2.1.2.1; omega, by omega⟩
  have hst1 : 0 ≤ g 2 0 11 ∧ g 2 0 11 ≤ 100000 := ⟨hst2.1, by omega⟩
  refine aj_run (C := (-2147483648 ≤ i + 1 ∧ i + 1 ≤ 2147483647) ∧ True) (pc' := 614) (la' := [some (.inr (.inr (some (90, 0)))), some (.inr (.inr (some (1, 0)))), some (.inr (.inr (some (50, 0)))), some (.inl i)]) (st' := [.inl (i + 1), .inr (.inr (some (90, 0))), .inr (.inr (some (1, 0)))]) (M' := (P, g, r, n)) ok_L_law true 5 rfl (by refine ⟨?_, trivial⟩ <;> (omega)) ?_
  refine aj_sld (i := i + 1) ⟨by omega, by omega⟩ (ax_dec2 (i := .iaload) (n := 1) ok_L_law rfl) ?_
  change ax_J _ _ _ _ _ _ _ _ _ 615 [some (.inr (.inr (some (90, 0)))), some (.inr (.inr (some (1, 0)))), some (.inr (.inr (some (50, 0)))), some (.inl i)] [.inl (sX xs (i + 1)), .inr (.inr (some (1, 0)))] (P, g, r, n)
  refine aj_run (C := (-2147483648 ≤ i + 2 ∧ i + 2 ≤ 2147483647) ∧ True) (pc' := 619) (la' := [some (.inr (.inr (some (90, 0)))), some (.inr (.inr (some (1, 0)))), some (.inr (.inr (some (50, 0)))), some (.inl i)]) (st' := [.inl (i + 2), .inr (.inr (some (90, 0))), .inl (sX xs (i + 1)), .inr (.inr (some (1, 0)))]) (M' := (P, g, r, n)) ok_L_law true 4 rfl (by refine ⟨?_, trivial⟩ <;> (omega)) ?_
  refine aj_sld (i := i + 2) ⟨by omega, by omega⟩ (ax_dec2 (i := .iaload) (n := 1) ok_L_law rfl) ?_
  change ax_J _ _ _ _ _ _ _ _ _ 620 [some (.inr (.inr (some (90, 0)))), some (.inr (.inr (some (1, 0)))), some (.inr (.inr (some (50, 0)))), some (.inl i)] [.inl (sX xs (i + 2)), .inl (sX xs (i + 1)), .inr (.inr (some (1, 0)))] (P, g, r, n)
  refine aj_callV (av := [.inl (sX xs (i + 1)), .inl (sX xs (i + 2))]) (st := []) (f := 1) (o := 0) (ci := 10) cal_X10_longest lk_12_77 ins_X10_longest rfl sel_X10_longest rfl (fun c9 h9 _ => by simpa [ax_ok] using h9) (cp_longest (sX xs (i + 1)) (sX xs (i + 2)) _ _ _ _ g (cWd_sta hw) hw.2.2.2.1) ⟨by decide, by decide, by show _ ≤ 600000; omega, by show _ ≤ 7302250; omega⟩ (Nat.le_of_ble_eq_true rfl) (ax_dec2 (i := .invokevirtual 77) (n := 3) ok_L_law rfl) (fun r M' hq => ?_)
  obtain ⟨rfl, g1, rfl, hd1, hf1⟩ := hq
  obtain ⟨hw1, hE1, hO1⟩ := lw_q hw hd1 hf1
  change ax_J _ _ _ _ _ _ _ _ _ 623 [some (.inr (.inr (some (90, 0)))), some (.inr (.inr (some (1, 0)))), some (.inr (.inr (some (50, 0)))), some (.inl i)] [.inl (fLon g (sX xs (i + 1)) (sX xs (i + 2)))] (P, g1, r, n)
  refine aj_run (C := (-2147483648 ≤ i + 1 ∧ i + 1 ≤ 2147483647) ∧ True) (pc' := 628) (la' := [some (.inr (.inr (some (90, 0)))), some (.inr (.inr (some (1, 0)))), some (.inr (.inr (some (50, 0)))), some (.inl i)]) (st' := [.inl (i + 1), .inr (.inr (some (90, 0))), .inr (.inr (some (50, 0))), .inl (fLon g (sX xs (i + 1)) (sX xs (i + 2)))]) (M' := (P, g1, r, n)) ok_L_law true 5 rfl (by refine ⟨?_, trivial⟩ <;> (omega)) ?_
  refine aj_sld (i := i + 1) ⟨by omega, by omega⟩ (ax_dec2 (i := .iaload) (n := 1) ok_L_law rfl) ?_
  change ax_J _ _ _ _ _ _ _ _ _ 629 [some (.inr (.inr (some (90, 0)))), some (.inr (.inr (some (1, 0)))), some (.inr (.inr (some (50, 0)))), some (.inl i)] [.inl (sX xs (i + 1)), .inr (.inr (some (50, 0))), .inl (fLon g (sX xs (i + 1)) (sX xs (i + 2)))] (P, g1, r, n)
  refine aj_run (C := (-2147483648 ≤ i + 2 ∧ i + 2 ≤ 2147483647) ∧ True) (pc' := 633) (la' := [some (.inr (.inr (some (90, 0)))), some (.inr (.inr (some (1, 0)))), some (.inr (.inr (some (50, 0)))), some (.inl i)]) (st' := [.inl (i + 2), .inr (.inr (some (90, 0))), .inl (sX xs (i + 1)), .inr (.inr (some (50, 0))), .inl (fLon g (sX xs (i + 1)) (sX xs (i + 2)))]) (M' := (P, g1, r, n)) ok_L_law true 4 rfl (by refine ⟨?_, trivial⟩ <;> (omega)) ?_
  refine aj_sld (i := i + 2) ⟨by omega, by omega⟩ (ax_dec2 (i := .iaload) (n := 1) ok_L_law rfl) ?_
  change ax_J _ _ _ _ _ _ _ _ _ 634 [some (.inr (.inr (some (90, 0)))), some (.inr (.inr (some (1, 0)))), some (.inr (.inr (some (50, 0)))), some (.inl i)] [.inl (sX xs (i + 2)), .inl (sX xs (i + 1)), .inr (.inr (some (50, 0))), .inl (fLon g (sX xs (i + 1)) (sX xs (i + 2)))] (P, g1, r, n)
  refine aj_callV (av := [.inl (sX xs (i + 1)), .inl (sX xs (i + 2))]) (st := [.inl (fLon g (sX xs (i + 1)) (sX xs (i + 2)))]) (f := 50) (o := 0) (ci := 11) cal_X11_longest lk_12_80 ins_X11_longest rfl sel_X11_longest rfl (fun c9 h9 _ => by simpa [ax_ok] using h9) (sp_longest (sX xs (i + 1)) (sX xs (i + 2)) _ _ _ _ hn hO1) ⟨by decide, by decide, by show _ ≤ 600000; omega, by show _ ≤ 7302250; omega⟩ (Nat.le_of_ble_eq_true rfl) (ax_dec2 (i := .invokevirtual 80) (n := 3) ok_L_law rfl) (fun r M' hq => ?_)
  obtain ⟨rfl, g2, rfl, hk2⟩ := hq
  have heq : fLon g (sX xs (i + 1)) (sX xs (i + 2)) = fLon g1 (sX xs (i + 1)) (sX xs (i + 2)) := (fLon_q _ _ hE1).symm
  change ax_J _ _ _ _ _ _ _ _ _ 637 [some (.inr (.inr (some (90, 0)))), some (.inr (.inr (some (1, 0)))), some (.inr (.inr (some (50, 0)))), some (.inl i)] [.inl (fLon g1 (sX xs (i + 1)) (sX xs (i + 2))), .inl (fLon g (sX xs (i + 1)) (sX xs (i + 2)))] (P, g2, r, n)
  refine aj_icmp_eq (tgt := 1072) (ax_dec2 (i := .if_icmp .eq 435) (n := 3) ok_L_law rfl) (by decide) (fun c1 => ?_) (fun c1 => ?_)
  · refine aj_run (C := (-2147483648 ≤ i + 6 ∧ i + 6 ≤ 2147483647) ∧ True) (pc' := 18) (la' := [some (.inr (.inr (some (90, 0)))), some (.inr (.inr (some (1, 0)))), some (.inr (.inr (some (50, 0)))), some (.inl (i + 6))]) (st' := []) (M' := (P, g2, r, n)) ok_L_law true 2 rfl (by refine ⟨?_, trivial⟩ <;> (omega)) ?_
    refine aj_wide (kc' := kc + 24) (ks' := ks + 648) (by omega) (by omega) ?_
    exact hk _ _ _ _ (lwI_q hI hw1 hf1 hk2)
  · exact absurd c1 (by exact fun z => z heq)

set_option maxRecDepth 100000 in
set_option maxHeartbeats 4000000 in
theorem lc_fits {L : Nat} {xs : Nat → Int32} {pW : Nat → Int → Prop} {Q : ax_Q} {kc ks : Nat} {i : Int} {P : Nat → Int → Prop} {g : Nat → Int → Int → Int} {r : Nat → Int → Int → Option (Nat × Int)} {n : Nat → Int → Int} (hkc : kc ≤ 500000 ∧ ks ≤ 7000000) (hL : 0 ≤ i ∧ i + 6 ≤ L ∧ L ≤ 3072) (hI : lwI i P g r n) (hFa : cFa P (g 50 0 2)) (hk : ∀ P1 g1 r1 n1, lwI (i + 6) P1 g1 r1 n1 → ax_J 12 code 4 (some (L, xs)) room_1 pW Q (kc + 24) (ks + 648) 18 [some (.inr (.inr (some (90, 0)))), some (.inr (.inr (some (1, 0)))), some (.inr (.inr (some (50, 0)))), some (.inl (i + 6))] [] (P1, g1, r1, n1)) :
    ax_J 12 code 4 (some (L, xs)) room_1 pW Q kc ks 642 [some (.inr (.inr (some (90, 0)))), some (.inr (.inr (some (1, 0)))), some (.inr (.inr (some (50, 0)))), some (.inl i)] [] (P, g, r, n) := by
  obtain ⟨hw, hst0, ⟨hS, h90, h1, h50⟩, hp, hnd, h6, hn, hl⟩ := id hI
  have hO : wOs g := hw.1.2.2
  have hst2 : 0 ≤ g 2 0 11 ∧ g 2 0 11 ≤ 90000 := ⟨by have := hw.2.2.2.1.2.1; omega, by omega⟩
  have hst1 : 0 ≤ g 2 0 11 ∧ g 2 0 11 ≤ 100000 := ⟨hst2.1, by omega⟩
  refine aj_run (C := (-2147483648 ≤ i + 1 ∧ i + 1 ≤ 2147483647) ∧ True) (pc' := 647) (la' := [some (.inr (.inr (some (90, 0)))), some (.inr (.inr (some (1, 0)))), some (.inr (.inr (some (50, 0)))), some (.inl i)]) (st' := [.inl (i + 1), .inr (.inr (some (90, 0))), .inr (.inr (some (1, 0)))]) (M' := (P, g, r, n)) ok_L_law true 5 rfl (by refine ⟨?_, trivial⟩ <;> (omega)) ?_
  refine aj_sld (i := i + 1) ⟨by omega, by omega⟩ (ax_dec2 (i := .iaload) (n := 1) ok_L_law rfl) ?_
  change ax_J _ _ _ _ _ _ _ _ _ 648 [some (.inr (.inr (some (90, 0)))), some (.inr (.inr (some (1, 0)))), some (.inr (.inr (some (50, 0)))), some (.inl i)] [.inl (sX xs (i + 1)), .inr (.inr (some (1, 0)))] (P, g, r, n)
  refine aj_run (C := (-2147483648 ≤ i + 2 ∧ i + 2 ≤ 2147483647) ∧ True) (pc' := 652) (la' := [some (.inr (.inr (some (90, 0)))), some (.inr (.inr (some (1, 0)))), some (.inr (.inr (some (50, 0)))), some (.inl i)]) (st' := [.inl (i + 2), .inr (.inr (some (90, 0))), .inl (sX xs (i + 1)), .inr (.inr (some (1, 0)))]) (M' := (P, g, r, n)) ok_L_law true 4 rfl (by refine ⟨?_, trivial⟩ <;> (omega)) ?_
  refine aj_sld (i := i + 2) ⟨by omega, by omega⟩ (ax_dec2 (i := .iaload) (n := 1) ok_L_law rfl) ?_
  change ax_J _ _ _ _ _ _ _ _ _ 653 [some (.inr (.inr (some (90, 0)))), some (.inr (.inr (some (1, 0)))), some (.inr (.inr (some (50, 0)))), some (.inl i)] [.inl (sX xs (i + 2)), .inl (sX xs (i + 1)), .inr (.inr (some (1, 0)))] (P, g, r, n)
  refine aj_run (C := (-2147483648 ≤ i + 3 ∧ i + 3 ≤ 2147483647) ∧ True) (pc' := 657) (la' := [some (.inr (.inr (some (90, 0)))), some (.inr (.inr (some (1, 0)))), some (.inr (.inr (some (50, 0)))), some (.inl i)]) (st' := [.inl (i + 3), .inr (.inr (some (90, 0))), .inl (sX xs (i + 2)), .inl (sX xs (i + 1)), .inr (.inr (some (1, 0)))]) (M' := (P, g, r, n)) ok_L_law true 4 rfl (by refine ⟨?_, trivial⟩ <;> (omega)) ?_
  refine aj_sld (i := i + 3) ⟨by omega, by omega⟩ (ax_dec2 (i := .iaload) (n := 1) ok_L_law rfl) ?_
  change ax_J _ _ _ _ _ _ _ _ _ 658 [some (.inr (.inr (some (90, 0)))), some (.inr (.inr (some (1, 0)))), some (.inr (.inr (some (50, 0)))), some (.inl i)] [.inl (sX xs (i + 3)), .inl (sX xs (i + 2)), .inl (sX xs (i + 1)), .inr (.inr (some (1, 0)))] (P, g, r, n)
  refine aj_callV (av := [.inl (sX xs (i + 1)), .inl (sX xs (i + 2)), .inl (sX xs (i + 3))]) (st := []) (f := 1) (o := 0) (ci := 10) cal_X10_fits lk_12_81 ins_X10_fits rfl sel_X10_fits rfl (fun c9 h9 _ => by simpa [ax_ok] using h9) (cp_fits (sX xs (i + 1)) (sX xs (i + 2)) (sX xs (i + 3)) _ _ _ _ g (cWd_sta hw) hw.2.2.2.1 hw.2.2.2.2.1) ⟨by decide, by decide, by show _ ≤ 600000; omega, by show _ ≤ 7302250; omega⟩ (Nat.le_of_ble_eq_true rfl) (ax_dec2 (i := .invokevirtual 81) (n := 3) ok_L_law rfl) (fun r M' hq => ?_)
  obtain ⟨rfl, g1, rfl, hd1, hf1⟩ := hq
  obtain ⟨hw1, hE1, hO1⟩ := lw_q hw hd1 hf1
  change ax_J _ _ _ _ _ _ _ _ _ 661 [some (.inr (.inr (some (90, 0)))), some (.inr (.inr (some (1, 0)))), some (.inr (.inr (some (50, 0)))), some (.inl i)] [.inl (fFit g (sX xs (i + 1)) (sX xs (i + 2)) (sX xs (i + 3)))] (P, g1, r, n)
  refine aj_run (C := (-2147483648 ≤ i + 1 ∧ i + 1 ≤ 2147483647) ∧ True) (pc' := 666) (la' := [some (.inr (.inr (some (90, 0)))), some (.inr (.inr (some (1, 0)))), some (.inr (.inr (some (50, 0)))), some (.inl i)]) (st' := [.inl (i + 1), .inr (.inr (some (90, 0))), .inr (.inr (some (50, 0))), .inl (fFit g (sX xs (i + 1)) (sX xs (i + 2)) (sX xs (i + 3)))]) (M' := (P, g1, r, n)) ok_L_law true 5 rfl (by refine ⟨?_, trivial⟩ <;> (omega)) ?_
  refine aj_sld (i := i + 1) ⟨by omega, by omega⟩ (ax_dec2 (i := .iaload) (n := 1) ok_L_law rfl) ?_
  change ax_J _ _ _ _ _ _ _ _ _ 667 [some (.inr (.inr (some (90, 0)))), some (.inr (.inr (some (1, 0)))), some (.inr (.inr (some (50, 0)))), some (.inl i)] [.inl (sX xs (i + 1)), .inr (.inr (some (50, 0))), .inl (fFit g (sX xs (i + 1)) (sX xs (i + 2)) (sX xs (i + 3)))] (P, g1, r, n)
  refine aj_run (C := (-2147483648 ≤ i + 2 ∧ i + 2 ≤ 2147483647) ∧ True) (pc' := 671) (la' := [some (.inr (.inr (some (90, 0)))), some (.inr (.inr (some (1, 0)))), some (.inr (.inr (some (50, 0)))), some (.inl i)]) (st' := [.inl (i + 2), .inr (.inr (some (90, 0))), .inl (sX xs (i + 1)), .inr (.inr (some (50, 0))), .inl (fFit g (sX xs (i + 1)) (sX xs (i + 2)) (sX xs (i + 3)))]) (M' := (P, g1, r, n)) ok_L_law true 4 rfl (by refine ⟨?_, trivial⟩ <;> (omega)) ?_
  refine aj_sld (i := i + 2) ⟨by omega, by omega⟩ (ax_dec2 (i := .iaload) (n := 1) ok_L_law rfl) ?_
  change ax_J _ _ _ _ _ _ _ _ _ 672 [some (.inr (.inr (some (90, 0)))), some (.inr (.inr (some (1, 0)))), some (.inr (.inr (some (50, 0)))), some (.inl i)] [.inl (sX xs (i + 2)), .inl (sX xs (i + 1)), .inr (.inr (some (50, 0))), .inl (fFit g (sX xs (i + 1)) (sX xs (i + 2)) (sX xs (i + 3)))] (P, g1, r, n)
  refine aj_run (C := (-2147483648 ≤ i + 3 ∧ i + 3 ≤ 2147483647) ∧ True) (pc' := 676) (la' := [some (.inr (.inr (some (90, 0)))), some (.inr (.inr (some (1, 0)))), some (.inr (.inr (some (50, 0)))), some (.inl i)]) (st' := [.inl (i + 3), .inr (.inr (some (90, 0))), .inl (sX xs (i + 2)), .inl (sX xs (i + 1)), .inr (.inr (some (50, 0))), .inl (fFit g (sX xs (i + 1)) (sX xs (i + 2)) (sX xs (i + 3)))]) (M' := (P, g1, r, n)) ok_L_law true 4 rfl (by refine ⟨?_, trivial⟩ <;> (omega)) ?_
  refine aj_sld (i := i + 3) ⟨by omega, by omega⟩ (ax_dec2 (i := .iaload) (n := 1) ok_L_law rfl) ?_
  change ax_J _ _ _ _ _ _ _ _ _ 677 [some (.inr (.inr (some (90, 0)))), some (.inr (.inr (some (1, 0)))), some (.inr (.inr (some (50, 0)))), some (.inl i)] [.inl (sX xs (i + 3)), .inl (sX xs (i + 2)), .inl (sX xs (i + 1)), .inr (.inr (some (50, 0))), .inl (fFit g (sX xs (i + 1)) (sX xs (i + 2)) (sX xs (i + 3)))] (P, g1, r, n)
  refine aj_callV (av := [.inl (sX xs (i + 1)), .inl (sX xs (i + 2)), .inl (sX xs (i + 3))]) (st := [.inl (fFit g (sX xs (i + 1)) (sX xs (i + 2)) (sX xs (i + 3)))]) (f := 50) (o := 0) (ci := 11) cal_X11_fits lk_12_84 ins_X11_fits rfl sel_X11_fits rfl (fun c9 h9 _ => by simpa [ax_ok] using h9) (sp_fits (sX xs (i + 1)) (sX xs (i + 2)) (sX xs (i + 3)) _ _ _ _ hn hO1 (fun s z1 z2 => by rw [hE1 156 rfl]; exact she_z hw s z1 z2)) ⟨by decide, by decide, by show _ ≤ 600000; omega, by show _ ≤ 7302250; omega⟩ (Nat.le_of_ble_eq_true rfl) (ax_dec2 (i := .invokevirtual 84) (n := 3) ok_L_law rfl) (fun r M' hq => ?_)
  obtain ⟨rfl, g2, rfl, hk2⟩ := hq
  have heq : fFit g (sX xs (i + 1)) (sX xs (i + 2)) (sX xs (i + 3)) = fFit g1 (sX xs (i + 1)) (sX xs (i + 2)) (sX xs (i + 3)) := (fFit_q _ _ _ hE1).symm
  change ax_J _ _ _ _ _ _ _ _ _ 680 [some (.inr (.inr (some (90, 0)))), some (.inr (.inr (some (1, 0)))), some (.inr (.inr (some (50, 0)))), some (.inl i)] [.inl (fFit g1 (sX xs (i + 1)) (sX xs (i + 2)) (sX xs (i + 3))), .inl (fFit g (sX xs (i + 1)) (sX xs (i + 2)) (sX xs (i + 3)))] (P, g2, r, n)
  refine aj_icmp_eq (tgt := 1072) (ax_dec2 (i := .if_icmp .eq 392) (n := 3) ok_L_law rfl) (by decide) (fun c1 => ?_) (fun c1 => ?_)
  · refine aj_run (C := (-2147483648 ≤ i + 6 ∧ i + 6 ≤ 2147483647) ∧ True) (pc' := 18) (la' := [some (.inr (.inr (some (90, 0)))), some (.inr (.inr (some (1, 0)))), some (.inr (.inr (some (50, 0)))), some (.inl (i + 6))]) (st' := []) (M' := (P, g2, r, n)) ok_L_law true 2 rfl (by refine ⟨?_, trivial⟩ <;> (omega)) ?_
    refine aj_wide (kc' := kc + 24) (ks' := ks + 648) (by omega) (by omega) ?_
    exact hk _ _ _ _ (lwI_q hI hw1 hf1 hk2)
  · exact absurd c1 (by exact fun z => z heq)

set_option maxRecDepth 100000 in
set_option maxHeartbeats 4000000 in
theorem lc_byThen {L : Nat} {xs : Nat → Int32} {pW : Nat → Int → Prop} {Q : ax_Q} {kc ks : Nat} {i : Int} {P : Nat → Int → Prop} {g : Nat → Int → Int → Int} {r : Nat → Int → Int → Option (Nat × Int)} {n : Nat → Int → Int} (hkc : kc ≤ 500000 ∧ ks ≤ 7000000) (hL : 0 ≤ i ∧ i + 6 ≤ L ∧ L ≤ 3072) (hI : lwI i P g r n) (hFa : cFa P (g 50 0 2)) (hk : ∀ P1 g1 r1 n1, lwI (i + 6) P1 g1 r1 n1 → ax_J 12 code 4 (some (L, xs)) room_1 pW Q (kc + 24) (ks + 648) 18 [some (.inr (.inr (some (90, 0)))), some (.inr (.inr (some (1, 0)))), some (.inr (.inr (some (50, 0)))), some (.inl (i + 6))] [] (P1, g1, r1, n1)) :
    ax_J 12 code 4 (some (L, xs)) room_1 pW Q kc ks 685 [some (.inr (.inr (some (90, 0)))), some (.inr (.inr (some (1, 0)))), some (.inr (.inr (some (50, 0)))), some (.inl i)] [] (P, g, r, n) := by
  obtain ⟨hw, hst0, ⟨hS, h90, h1, h50⟩, hp, hnd, h6, hn, hl⟩ := id hI
  have hO : wOs g := hw.1.2.2
  have hst2 : 0 ≤ g 2 0 11 ∧ g 2 0 11 ≤ 90000 := ⟨by have := hw.2.2.2.1.2.1; omega, by omega⟩
  have hst1 : 0 ≤ g 2 0 11 ∧ g 2 0 11 ≤ 100000 := ⟨hst2.1, by omega⟩
  refine aj_run (C := (-2147483648 ≤ i + 1 ∧ i + 1 ≤ 2147483647) ∧ True) (pc' := 690) (la' := [some (.inr (.inr (some (90, 0)))), some (.inr (.inr (some (1, 0)))), some (.inr (.inr (some (50, 0)))), some (.inl i)]) (st' := [.inl (i + 1), .inr (.inr (some (90, 0))), .inr (.inr (some (1, 0)))]) (M' := (P, g, r, n)) ok_L_law true 5 rfl (by refine ⟨?_, trivial⟩ <;> (omega)) ?_
  refine aj_sld (i := i + 1) ⟨by omega, by omega⟩ (ax_dec2 (i := .iaload) (n := 1) ok_L_law rfl) ?_
  change ax_J _ _ _ _ _ _ _ _ _ 691 [some (.inr (.inr (some (90, 0)))), some (.inr (.inr (some (1, 0)))), some (.inr (.inr (some (50, 0)))), some (.inl i)] [.inl (sX xs (i + 1)), .inr (.inr (some (1, 0)))] (P, g, r, n)
  refine aj_run (C := (-2147483648 ≤ i + 2 ∧ i + 2 ≤ 2147483647) ∧ True) (pc' := 695) (la' := [some (.inr (.inr (some (90, 0)))), some (.inr (.inr (some (1, 0)))), some (.inr (.inr (some (50, 0)))), some (.inl i)]) (st' := [.inl (i + 2), .inr (.inr (some (90, 0))), .inl (sX xs (i + 1)), .inr (.inr (some (1, 0)))]) (M' := (P, g, r, n)) ok_L_law true 4 rfl (by refine ⟨?_, trivial⟩ <;> (omega)) ?_
  refine aj_sld (i := i + 2) ⟨by omega, by omega⟩ (ax_dec2 (i := .iaload) (n := 1) ok_L_law rfl) ?_
  change ax_J _ _ _ _ _ _ _ _ _ 696 [some (.inr (.inr (some (90, 0)))), some (.inr (.inr (some (1, 0)))), some (.inr (.inr (some (50, 0)))), some (.inl i)] [.inl (sX xs (i + 2)), .inl (sX xs (i + 1)), .inr (.inr (some (1, 0)))] (P, g, r, n)
  refine aj_callV (av := [.inl (sX xs (i + 1)), .inl (sX xs (i + 2))]) (st := []) (f := 1) (o := 0) (ci := 10) cal_X10_byThen lk_12_85 ins_X10_byThen rfl sel_X10_byThen rfl (fun c9 h9 _ => by simpa [ax_ok] using h9) (cp_byThen (sX xs (i + 1)) (sX xs (i + 2)) _ _ _ _ g (cWd_sta hw) hw.2.2.2.1) ⟨by decide, by decide, by show _ ≤ 600000; omega, by show _ ≤ 7302250; omega⟩ (Nat.le_of_ble_eq_true rfl) (ax_dec2 (i := .invokevirtual 85) (n := 3) ok_L_law rfl) (fun r M' hq => ?_)
  obtain ⟨rfl, g1, rfl, hd1, hf1⟩ := hq
  obtain ⟨hw1, hE1, hO1⟩ := lw_q hw hd1 hf1
  change ax_J _ _ _ _ _ _ _ _ _ 699 [some (.inr (.inr (some (90, 0)))), some (.inr (.inr (some (1, 0)))), some (.inr (.inr (some (50, 0)))), some (.inl i)] [.inr (.inl (fBy g (sX xs (i + 1)) (sX xs (i + 2))))] (P, g1, r, n)
  refine aj_run (C := (-2147483648 ≤ i + 1 ∧ i + 1 ≤ 2147483647) ∧ True) (pc' := 704) (la' := [some (.inr (.inr (some (90, 0)))), some (.inr (.inr (some (1, 0)))), some (.inr (.inr (some (50, 0)))), some (.inl i)]) (st' := [.inl (i + 1), .inr (.inr (some (90, 0))), .inr (.inr (some (50, 0))), .inr (.inl (fBy g (sX xs (i + 1)) (sX xs (i + 2))))]) (M' := (P, g1, r, n)) ok_L_law true 5 rfl (by refine ⟨?_, trivial⟩ <;> (omega)) ?_
  refine aj_sld (i := i + 1) ⟨by omega, by omega⟩ (ax_dec2 (i := .iaload) (n := 1) ok_L_law rfl) ?_
  change ax_J _ _ _ _ _ _ _ _ _ 705 [some (.inr (.inr (some (90, 0)))), some (.inr (.inr (some (1, 0)))), some (.inr (.inr (some (50, 0)))), some (.inl i)] [.inl (sX xs (i + 1)), .inr (.inr (some (50, 0))), .inr (.inl (fBy g (sX xs (i + 1)) (sX xs (i + 2))))] (P, g1, r, n)
  refine aj_run (C := (-2147483648 ≤ i + 2 ∧ i + 2 ≤ 2147483647) ∧ True) (pc' := 709) (la' := [some (.inr (.inr (some (90, 0)))), some (.inr (.inr (some (1, 0)))), some (.inr (.inr (some (50, 0)))), some (.inl i)]) (st' := [.inl (i + 2), .inr (.inr (some (90, 0))), .inl (sX xs (i + 1)), .inr (.inr (some (50, 0))), .inr (.inl (fBy g (sX xs (i + 1)) (sX xs (i + 2))))]) (M' := (P, g1, r, n)) ok_L_law true 4 rfl (by refine ⟨?_, trivial⟩ <;> (omega)) ?_
  refine aj_sld (i := i + 2) ⟨by omega, by omega⟩ (ax_dec2 (i := .iaload) (n := 1) ok_L_law rfl) ?_
  change ax_J _ _ _ _ _ _ _ _ _ 710 [some (.inr (.inr (some (90, 0)))), some (.inr (.inr (some (1, 0)))), some (.inr (.inr (some (50, 0)))), some (.inl i)] [.inl (sX xs (i + 2)), .inl (sX xs (i + 1)), .inr (.inr (some (50, 0))), .inr (.inl (fBy g (sX xs (i + 1)) (sX xs (i + 2))))] (P, g1, r, n)
  refine aj_callV (av := [.inl (sX xs (i + 1)), .inl (sX xs (i + 2))]) (st := [.inr (.inl (fBy g (sX xs (i + 1)) (sX xs (i + 2))))]) (f := 50) (o := 0) (ci := 11) cal_X11_byThen lk_12_89 ins_X11_byThen rfl sel_X11_byThen rfl (fun c9 h9 _ => by simpa [ax_ok] using h9) (sp_byThen (sX xs (i + 1)) (sX xs (i + 2)) _ _ _ _ hn hO1) ⟨by decide, by decide, by show _ ≤ 600000; omega, by show _ ≤ 7302250; omega⟩ (Nat.le_of_ble_eq_true rfl) (ax_dec2 (i := .invokevirtual 89) (n := 3) ok_L_law rfl) (fun r M' hq => ?_)
  obtain ⟨rfl, g2, rfl, hk2⟩ := hq
  have heq : fBy g (sX xs (i + 1)) (sX xs (i + 2)) = fBy g1 (sX xs (i + 1)) (sX xs (i + 2)) := (fBy_q _ _ hE1).symm
  change ax_J _ _ _ _ _ _ _ _ _ 713 [some (.inr (.inr (some (90, 0)))), some (.inr (.inr (some (1, 0)))), some (.inr (.inr (some (50, 0)))), some (.inl i)] [.inr (.inl (fBy g1 (sX xs (i + 1)) (sX xs (i + 2)))), .inr (.inl (fBy g (sX xs (i + 1)) (sX xs (i + 2))))] (P, g2, r, n)
  refine aj_run (C := True) (pc' := 714) (la' := [some (.inr (.inr (some (90, 0)))), some (.inr (.inr (some (1, 0)))), some (.inr (.inr (some (50, 0)))), some (.inl i)]) (st' := [.inl (ax_cmp (fBy g (sX xs (i + 1)) (sX xs (i + 2))) (fBy g1 (sX xs (i + 1)) (sX xs (i + 2))))]) (M' := (P, g2, r, n)) ok_L_law true 1 rfl trivial ?_
  refine aj_if_eq (tgt := 1072) (ax_dec2 (i := .ifCond .eq 358) (n := 3) ok_L_law rfl) (by decide) (fun c1 => ?_) (fun c1 => ?_)
  · refine aj_run (C := (-2147483648 ≤ i + 6 ∧ i + 6 ≤ 2147483647) ∧ True) (pc' := 18) (la' := [some (.inr (.inr (some (90, 0)))), some (.inr (.inr (some (1, 0)))), some (.inr (.inr (some (50, 0)))), some (.inl (i + 6))]) (st' := []) (M' := (P, g2, r, n)) ok_L_law true 2 rfl (by refine ⟨?_, trivial⟩ <;> (omega)) ?_
    refine aj_wide (kc' := kc + 24) (ks' := ks + 648) (by omega) (by omega) ?_
    exact hk _ _ _ _ (lwI_q hI hw1 hf1 hk2)
  · exact absurd c1 (by exact fun z => z (by rw [heq]; unfold ax_cmp; rw [if_neg (Int.lt_irrefl _), if_pos rfl]))

set_option maxRecDepth 100000 in
set_option maxHeartbeats 4000000 in
theorem lc_carried {L : Nat} {xs : Nat → Int32} {pW : Nat → Int → Prop} {Q : ax_Q} {kc ks : Nat} {i : Int} {P : Nat → Int → Prop} {g : Nat → Int → Int → Int} {r : Nat → Int → Int → Option (Nat × Int)} {n : Nat → Int → Int} (hkc : kc ≤ 500000 ∧ ks ≤ 7000000) (hL : 0 ≤ i ∧ i + 6 ≤ L ∧ L ≤ 3072) (hI : lwI i P g r n) (hFa : cFa P (g 50 0 2)) (hk : ∀ P1 g1 r1 n1, lwI (i + 6) P1 g1 r1 n1 → ax_J 12 code 4 (some (L, xs)) room_1 pW Q (kc + 24) (ks + 648) 18 [some (.inr (.inr (some (90, 0)))), some (.inr (.inr (some (1, 0)))), some (.inr (.inr (some (50, 0)))), some (.inl (i + 6))] [] (P1, g1, r1, n1)) :
    ax_J 12 code 4 (some (L, xs)) room_1 pW Q kc ks 719 [some (.inr (.inr (some (90, 0)))), some (.inr (.inr (some (1, 0)))), some (.inr (.inr (some (50, 0)))), some (.inl i)] [] (P, g, r, n) := by
  obtain ⟨hw, hst0, ⟨hS, h90, h1, h50⟩, hp, hnd, h6, hn, hl⟩ := id hI
  have hO : wOs g := hw.1.2.2
  have hst2 : 0 ≤ g 2 0 11 ∧ g 2 0 11 ≤ 90000 := ⟨by have := hw.2.2.2.1.2.1; omega, by omega⟩
  have hst1 : 0 ≤ g 2 0 11 ∧ g 2 0 11 ≤ 100000 := ⟨hst2.1, by omega⟩
  refine aj_run (C := (-2147483648 ≤ i + 1 ∧ i + 1 ≤ 2147483647) ∧ True) (pc' := 724) (la' := [some (.inr (.inr (some (90, 0)))), some (.inr (.inr (some (1, 0)))), some (.inr (.inr (some (50, 0)))), some (.inl i)]) (st' := [.inl (i + 1), .inr (.inr (some (90, 0))), .inr (.inr (some (1, 0)))]) (M' := (P, g, r, n)) ok_L_law true 5 rfl (by refine ⟨?_, trivial⟩ <;> (omega)) ?_
  refine aj_sld (i := i + 1) ⟨by omega, by omega⟩ (ax_dec2 (i := .iaload) (n := 1) ok_L_law rfl) ?_
  change ax_J _ _ _ _ _ _ _ _ _ 725 [some (.inr (.inr (some (90, 0)))), some (.inr (.inr (some (1, 0)))), some (.inr (.inr (some (50, 0)))), some (.inl i)] [.inl (sX xs (i + 1)), .inr (.inr (some (1, 0)))] (P, g, r, n)
  refine aj_run (C := (-2147483648 ≤ i + 2 ∧ i + 2 ≤ 2147483647) ∧ True) (pc' := 729) (la' := [some (.inr (.inr (some (90, 0)))), some (.inr (.inr (some (1, 0)))), some (.inr (.inr (some (50, 0)))), some (.inl i)]) (st' := [.inl (i + 2), .inr (.inr (some (90, 0))), .inl (sX xs (i + 1)), .inr (.inr (some (1, 0)))]) (M' := (P, g, r, n)) ok_L_law true 4 rfl (by refine ⟨?_, trivial⟩ <;> (omega)) ?_
  refine aj_sld (i := i + 2) ⟨by omega, by omega⟩ (ax_dec2 (i := .iaload) (n := 1) ok_L_law rfl) ?_
  change ax_J _ _ _ _ _ _ _ _ _ 730 [some (.inr (.inr (some (90, 0)))), some (.inr (.inr (some (1, 0)))), some (.inr (.inr (some (50, 0)))), some (.inl i)] [.inl (sX xs (i + 2)), .inl (sX xs (i + 1)), .inr (.inr (some (1, 0)))] (P, g, r, n)
  refine aj_callV (av := [.inl (sX xs (i + 1)), .inl (sX xs (i + 2))]) (st := []) (f := 1) (o := 0) (ci := 10) cal_X10_carried lk_12_90 ins_X10_carried rfl sel_X10_carried rfl (fun c9 h9 _ => by simpa [ax_ok] using h9) (cp_carried (sX xs (i + 1)) (sX xs (i + 2)) _ _ _ _ g (cWd_sta hw) hw.2.2.2.1) ⟨by decide, by decide, by show _ ≤ 600000; omega, by show _ ≤ 7302250; omega⟩ (Nat.le_of_ble_eq_true rfl) (ax_dec2 (i := .invokevirtual 90) (n := 3) ok_L_law rfl) (fun r M' hq => ?_)
  obtain ⟨rfl, g1, rfl, hd1, hf1⟩ := hq
  obtain ⟨hw1, hE1, hO1⟩ := lw_q hw hd1 hf1
  change ax_J _ _ _ _ _ _ _ _ _ 733 [some (.inr (.inr (some (90, 0)))), some (.inr (.inr (some (1, 0)))), some (.inr (.inr (some (50, 0)))), some (.inl i)] [.inl (fCar g (sX xs (i + 1)) (sX xs (i + 2)))] (P, g1, r, n)
  refine aj_run (C := (-2147483648 ≤ i + 1 ∧ i + 1 ≤ 2147483647) ∧ True) (pc' := 738) (la' := [some (.inr (.inr (some (90, 0)))), some (.inr (.inr (some (1, 0)))), some (.inr (.inr (some (50, 0)))), some (.inl i)]) (st' := [.inl (i + 1), .inr (.inr (some (90, 0))), .inr (.inr (some (50, 0))), .inl (fCar g (sX xs (i + 1)) (sX xs (i + 2)))]) (M' := (P, g1, r, n)) ok_L_law true 5 rfl (by refine ⟨?_, trivial⟩ <;> (omega)) ?_
  refine aj_sld (i := i + 1) ⟨by omega, by omega⟩ (ax_dec2 (i := .iaload) (n := 1) ok_L_law rfl) ?_
  change ax_J _ _ _ _ _ _ _ _ _ 739 [some (.inr (.inr (some (90, 0)))), some (.inr (.inr (some (1, 0)))), some (.inr (.inr (some (50, 0)))), some (.inl i)] [.inl (sX xs (i + 1)), .inr (.inr (some (50, 0))), .inl (fCar g (sX xs (i + 1)) (sX xs (i + 2)))] (P, g1, r, n)
  refine aj_run (C := (-2147483648 ≤ i + 2 ∧ i + 2 ≤ 2147483647) ∧ True) (pc' := 743) (la' := [some (.inr (.inr (some (90, 0)))), some (.inr (.inr (some (1, 0)))), some (.inr (.inr (some (50, 0)))), some (.inl i)]) (st' := [.inl (i + 2), .inr (.inr (some (90, 0))), .inl (sX xs (i + 1)), .inr (.inr (some (50, 0))), .inl (fCar g (sX xs (i + 1)) (sX xs (i + 2)))]) (M' := (P, g1, r, n)) ok_L_law true 4 rfl (by refine ⟨?_, trivial⟩ <;> (omega)) ?_
  refine aj_sld (i := i + 2) ⟨by omega, by omega⟩ (ax_dec2 (i := .iaload) (n := 1) ok_L_law rfl) ?_
  change ax_J _ _ _ _ _ _ _ _ _ 744 [some (.inr (.inr (some (90, 0)))), some (.inr (.inr (some (1, 0)))), some (.inr (.inr (some (50, 0)))), some (.inl i)] [.inl (sX xs (i + 2)), .inl (sX xs (i + 1)), .inr (.inr (some (50, 0))), .inl (fCar g (sX xs (i + 1)) (sX xs (i + 2)))] (P, g1, r, n)
  refine aj_callV (av := [.inl (sX xs (i + 1)), .inl (sX xs (i + 2))]) (st := [.inl (fCar g (sX xs (i + 1)) (sX xs (i + 2)))]) (f := 50) (o := 0) (ci := 11) cal_X11_carried lk_12_93 ins_X11_carried rfl sel_X11_carried rfl (fun c9 h9 _ => by simpa [ax_ok] using h9) (sp_carried (sX xs (i + 1)) (sX xs (i + 2)) _ _ _ _ hn hO1) ⟨by decide, by decide, by show _ ≤ 600000; omega, by show _ ≤ 7302250; omega⟩ (Nat.le_of_ble_eq_true rfl) (ax_dec2 (i := .invokevirtual 93) (n := 3) ok_L_law rfl) (fun r M' hq => ?_)
  obtain ⟨rfl, g2, rfl, hk2⟩ := hq
  have heq : fCar g (sX xs (i + 1)) (sX xs (i + 2)) = fCar g1 (sX xs (i + 1)) (sX xs (i + 2)) := (fCar_q _ _ hE1).symm
  change ax_J _ _ _ _ _ _ _ _ _ 747 [some (.inr (.inr (some (90, 0)))), some (.inr (.inr (some (1, 0)))), some (.inr (.inr (some (50, 0)))), some (.inl i)] [.inl (fCar g1 (sX xs (i + 1)) (sX xs (i + 2))), .inl (fCar g (sX xs (i + 1)) (sX xs (i + 2)))] (P, g2, r, n)
  refine aj_icmp_eq (tgt := 1072) (ax_dec2 (i := .if_icmp .eq 325) (n := 3) ok_L_law rfl) (by decide) (fun c1 => ?_) (fun c1 => ?_)
  · refine aj_run (C := (-2147483648 ≤ i + 6 ∧ i + 6 ≤ 2147483647) ∧ True) (pc' := 18) (la' := [some (.inr (.inr (some (90, 0)))), some (.inr (.inr (some (1, 0)))), some (.inr (.inr (some (50, 0)))), some (.inl (i + 6))]) (st' := []) (M' := (P, g2, r, n)) ok_L_law true 2 rfl (by refine ⟨?_, trivial⟩ <;> (omega)) ?_
    refine aj_wide (kc' := kc + 24) (ks' := ks + 648) (by omega) (by omega) ?_
    exact hk _ _ _ _ (lwI_q hI hw1 hf1 hk2)
  · exact absurd c1 (by exact fun z => z heq)

set_option maxRecDepth 100000 in
set_option maxHeartbeats 4000000 in
theorem lc_round {L : Nat} {xs : Nat → Int32} {pW : Nat → Int → Prop} {Q : ax_Q} {kc ks : Nat} {i : Int} {P : Nat → Int → Prop} {g : Nat → Int → Int → Int} {r : Nat → Int → Int → Option (Nat × Int)} {n : Nat → Int → Int} (hkc : kc ≤ 500000 ∧ ks ≤ 7000000) (hL : 0 ≤ i ∧ i + 6 ≤ L ∧ L ≤ 3072) (hI : lwI i P g r n) (hFa : cFa P (g 50 0 2)) (hk : ∀ P1 g1 r1 n1, lwI (i + 6) P1 g1 r1 n1 → ax_J 12 code 4 (some (L, xs)) room_1 pW Q (kc + 24) (ks + 648) 18 [some (.inr (.inr (some (90, 0)))), some (.inr (.inr (some (1, 0)))), some (.inr (.inr (some (50, 0)))), some (.inl (i + 6))] [] (P1, g1, r1, n1)) :
    ax_J 12 code 4 (some (L, xs)) room_1 pW Q kc ks 752 [some (.inr (.inr (some (90, 0)))), some (.inr (.inr (some (1, 0)))), some (.inr (.inr (some (50, 0)))), some (.inl i)] [] (P, g, r, n) := by
  obtain ⟨hw, hst0, ⟨hS, h90, h1, h50⟩, hp, hnd, h6, hn, hl⟩ := id hI
  have hO : wOs g := hw.1.2.2
  have hst2 : 0 ≤ g 2 0 11 ∧ g 2 0 11 ≤ 90000 := ⟨by have := hw.2.2.2.1.2.1; omega, by omega⟩
  have hst1 : 0 ≤ g 2 0 11 ∧ g 2 0 11 ≤ 100000 := ⟨hst2.1, by omega⟩
  refine aj_run (C := True) (pc' := 753) (la' := [some (.inr (.inr (some (90, 0)))), some (.inr (.inr (some (1, 0)))), some (.inr (.inr (some (50, 0)))), some (.inl i)]) (st' := [.inr (.inr (some (1, 0)))]) (M' := (P, g, r, n)) ok_L_law true 1 rfl trivial ?_
  refine aj_callV (av := []) (st := []) (f := 1) (o := 0) (ci := 10) cal_X10_round lk_12_94 ins_X10_round rfl sel_X10_round rfl (fun c9 h9 _ => by simpa [ax_ok] using h9) (cp_round _ _ _ _ g (cWd_sta hw) hw.2.2.2.1) ⟨by decide, by decide, by show _ ≤ 600000; omega, by show _ ≤ 7302250; omega⟩ (Nat.le_of_ble_eq_true rfl) (ax_dec2 (i := .invokevirtual 94) (n := 3) ok_L_law rfl) (fun r M' hq => ?_)
  obtain ⟨rfl, g1, rfl, hd1, hf1⟩ := hq
  obtain ⟨hw1, hE1, hO1⟩ := lw_q hw hd1 hf1
  change ax_J _ _ _ _ _ _ _ _ _ 756 [some (.inr (.inr (some (90, 0)))), some (.inr (.inr (some (1, 0)))), some (.inr (.inr (some (50, 0)))), some (.inl i)] [.inl (fRou g)] (P, g1, r, n)
  refine aj_run (C := True) (pc' := 757) (la' := [some (.inr (.inr (some (90, 0)))), some (.inr (.inr (some (1, 0)))), some (.inr (.inr (some (50, 0)))), some (.inl i)]) (st' := [.inr (.inr (some (50, 0))), .inl (fRou g)]) (M' := (P, g1, r, n)) ok_L_law true 1 rfl trivial ?_
  refine aj_callV (av := []) (st := [.inl (fRou g)]) (f := 50) (o := 0) (ci := 11) cal_X11_round lk_12_97 ins_X11_round rfl sel_X11_round rfl (fun c9 h9 _ => by simpa [ax_ok] using h9) (sp_round _ _ _ _ hn hO1) ⟨by decide, by decide, by show _ ≤ 600000; omega, by show _ ≤ 7302250; omega⟩ (Nat.le_of_ble_eq_true rfl) (ax_dec2 (i := .invokevirtual 97) (n := 3) ok_L_law rfl) (fun r M' hq => ?_)
  obtain ⟨rfl, g2, rfl, hk2⟩ := hq
  have heq : fRou g = fRou g1 := (fRou_q hE1).symm
  change ax_J _ _ _ _ _ _ _ _ _ 760 [some (.inr (.inr (some (90, 0)))), some (.inr (.inr (some (1, 0)))), some (.inr (.inr (some (50, 0)))), some (.inl i)] [.inl (fRou g1), .inl (fRou g)] (P, g2, r, n)
  refine aj_icmp_eq (tgt := 1072) (ax_dec2 (i := .if_icmp .eq 312) (n := 3) ok_L_law rfl) (by decide) (fun c1 => ?_) (fun c1 => ?_)
  · refine aj_run (C := (-2147483648 ≤ i + 6 ∧ i + 6 ≤ 2147483647) ∧ True) (pc' := 18) (la' := [some (.inr (.inr (some (90, 0)))), some (.inr (.inr (some (1, 0)))), some (.inr (.inr (some (50, 0)))), some (.inl (i + 6))]) (st' := []) (M' := (P, g2, r, n)) ok_L_law true 2 rfl (by refine ⟨?_, trivial⟩ <;> (omega)) ?_
    refine aj_wide (kc' := kc + 24) (ks' := ks + 648) (by omega) (by omega) ?_
    exact hk _ _ _ _ (lwI_q hI hw1 hf1 hk2)
  · exact absurd c1 (by exact fun z => z heq)
