/-! ===== calls of the law ===== -/
set_option maxRecDepth 100000 in
set_option maxHeartbeats 4000000 in
theorem lc_plank {L : Nat} {xs : Nat → Int32} {pW : Nat → Int → Prop} {Q : ax_Q} {kc ks : Nat} {i : Int} {P : Nat → Int → Prop} {g : Nat → Int → Int → Int} {r : Nat → Int → Int → Option (Nat × Int)} {n : Nat → Int → Int} (hkc : kc ≤ 500000 ∧ ks ≤ 7000000) (hL : 0 ≤ i ∧ i + 6 ≤ L ∧ L ≤ 3072) (hI : lwI i P g r n) (hFa : cFa P (g 50 0 2)) (hk : ∀ P1 g1 r1 n1, lwI (i + 6) P1 g1 r1 n1 → ax_J 12 code 4 (some (L, xs)) room_1 pW Q (kc + 24) (ks + 648) 18 [some (.inr (.inr (some (90, 0)))), some (.inr (.inr (some (1, 0)))), some (.inr (.inr (some (50, 0)))), some (.inl (i + 6))] [] (P1, g1, r1, n1)) :
    ax_J 12 code 4 (some (L, xs)) room_1 pW Q kc ks 164 [some (.inr (.inr (some (90, 0)))), some (.inr (.inr (some (1, 0)))), some (.inr (.inr (some (50, 0)))), some (.inl i)] [] (P, g, r, n) := by
  obtain ⟨hw, hst0, ⟨hS, h90, h1, h50⟩, hp, hnd, h6, hn, hl⟩ := id hI
  have hO : wOs g := hw.1.2.2
  have hst2 : 0 ≤ g 2 0 11 ∧ g 2 0 11 ≤ 90000 := ⟨by have := hw.2.2.2.1.2.1; omega, by omega⟩
  have hst1 : 0 ≤ g 2 0 11 ∧ g 2 0 11 ≤ 100000 := ⟨hst2.1, by omega⟩
  refine aj_run (C := (-2147483648 ≤ i + 1 ∧ i + 1 ≤ 2147483647) ∧ True) (pc' := 169) (la' := [some (.inr (.inr (some (90, 0)))), some (.inr (.inr (some (1, 0)))), some (.inr (.inr (some (50, 0)))), some (.inl i)]) (st' := [.inl (i + 1), .inr (.inr (some (90, 0))), .inr (.inr (some (1, 0)))]) (M' := (P, g, r, n)) ok_L_law true 5 rfl (by refine ⟨?_, trivial⟩ <;> (omega)) ?_
  refine aj_sld (i := i + 1) ⟨by omega, by omega⟩ (ax_dec2 (i := .iaload) (n := 1) ok_L_law rfl) ?_
  change ax_J _ _ _ _ _ _ _ _ _ 170 [some (.inr (.inr (some (90, 0)))), some (.inr (.inr (some (1, 0)))), some (.inr (.inr (some (50, 0)))), some (.inl i)] [.inl (sX xs (i + 1)), .inr (.inr (some (1, 0)))] (P, g, r, n)
  refine aj_run (C := (-2147483648 ≤ i + 2 ∧ i + 2 ≤ 2147483647) ∧ True) (pc' := 174) (la' := [some (.inr (.inr (some (90, 0)))), some (.inr (.inr (some (1, 0)))), some (.inr (.inr (some (50, 0)))), some (.inl i)]) (st' := [.inl (i + 2), .inr (.inr (some (90, 0))), .inl (sX xs (i + 1)), .inr (.inr (some (1, 0)))]) (M' := (P, g, r, n)) ok_L_law true 4 rfl (by refine ⟨?_, trivial⟩ <;> (omega)) ?_
  refine aj_sld (i := i + 2) ⟨by omega, by omega⟩ (ax_dec2 (i := .iaload) (n := 1) ok_L_law rfl) ?_
  change ax_J _ _ _ _ _ _ _ _ _ 175 [some (.inr (.inr (some (90, 0)))), some (.inr (.inr (some (1, 0)))), some (.inr (.inr (some (50, 0)))), some (.inl i)] [.inl (sX xs (i + 2)), .inl (sX xs (i + 1)), .inr (.inr (some (1, 0)))] (P, g, r, n)
  refine aj_callV (av := [.inl (sX xs (i + 1)), .inl (sX xs (i + 2))]) (st := []) (f := 1) (o := 0) (ci := 10) cal_X10_plank lk_12_13 ins_X10_plank rfl sel_X10_plank rfl (fun c9 h9 _ => by simpa [ax_ok] using h9) (cp_plank (sX xs (i + 1)) (sX xs (i + 2)) _ _ _ _ g hw hst1) ⟨by decide, by decide, by show _ ≤ 600000; omega, by show _ ≤ 7302250; omega⟩ (Nat.le_of_ble_eq_true rfl) (ax_dec2 (i := .invokevirtual 13) (n := 3) ok_L_law rfl) (fun r M' hq => ?_)
  obtain ⟨rfl, g1, rfl, hw1, hf1, hs1⟩ := hq
  have hE1 := lw_e hf1
  have hO1 := wOs_q hE1 hO
  change ax_J _ _ _ _ _ _ _ _ _ 178 [some (.inr (.inr (some (90, 0)))), some (.inr (.inr (some (1, 0)))), some (.inr (.inr (some (50, 0)))), some (.inl i)] [.inl ((mPlank g (sX xs (i + 1)) (sX xs (i + 2))).1)] (P, g1, r, n)
  refine aj_run (C := (-2147483648 ≤ i + 1 ∧ i + 1 ≤ 2147483647) ∧ True) (pc' := 183) (la' := [some (.inr (.inr (some (90, 0)))), some (.inr (.inr (some (1, 0)))), some (.inr (.inr (some (50, 0)))), some (.inl i)]) (st' := [.inl (i + 1), .inr (.inr (some (90, 0))), .inr (.inr (some (50, 0))), .inl ((mPlank g (sX xs (i + 1)) (sX xs (i + 2))).1)]) (M' := (P, g1, r, n)) ok_L_law true 5 rfl (by refine ⟨?_, trivial⟩ <;> (omega)) ?_
  refine aj_sld (i := i + 1) ⟨by omega, by omega⟩ (ax_dec2 (i := .iaload) (n := 1) ok_L_law rfl) ?_
  change ax_J _ _ _ _ _ _ _ _ _ 184 [some (.inr (.inr (some (90, 0)))), some (.inr (.inr (some (1, 0)))), some (.inr (.inr (some (50, 0)))), some (.inl i)] [.inl (sX xs (i + 1)), .inr (.inr (some (50, 0))), .inl ((mPlank g (sX xs (i + 1)) (sX xs (i + 2))).1)] (P, g1, r, n)
  refine aj_run (C := (-2147483648 ≤ i + 2 ∧ i + 2 ≤ 2147483647) ∧ True) (pc' := 188) (la' := [some (.inr (.inr (some (90, 0)))), some (.inr (.inr (some (1, 0)))), some (.inr (.inr (some (50, 0)))), some (.inl i)]) (st' := [.inl (i + 2), .inr (.inr (some (90, 0))), .inl (sX xs (i + 1)), .inr (.inr (some (50, 0))), .inl ((mPlank g (sX xs (i + 1)) (sX xs (i + 2))).1)]) (M' := (P, g1, r, n)) ok_L_law true 4 rfl (by refine ⟨?_, trivial⟩ <;> (omega)) ?_
  refine aj_sld (i := i + 2) ⟨by omega, by omega⟩ (ax_dec2 (i := .iaload) (n := 1) ok_L_law rfl) ?_
  change ax_J _ _ _ _ _ _ _ _ _ 189 [some (.inr (.inr (some (90, 0)))), some (.inr (.inr (some (1, 0)))), some (.inr (.inr (some (50, 0)))), some (.inl i)] [.inl (sX xs (i + 2)), .inl (sX xs (i + 1)), .inr (.inr (some (50, 0))), .inl ((mPlank g (sX xs (i + 1)) (sX xs (i + 2))).1)] (P, g1, r, n)
  refine aj_callV (av := [.inl (sX xs (i + 1)), .inl (sX xs (i + 2))]) (st := [.inl ((mPlank g (sX xs (i + 1)) (sX xs (i + 2))).1)]) (f := 50) (o := 0) (ci := 11) cal_X11_plank lk_12_17 ins_X11_plank rfl sel_X11_plank rfl (fun c9 h9 _ => by simpa [ax_ok] using h9) (sp_plank (sX xs (i + 1)) (sX xs (i + 2)) _ _ _ _ hn hO1.2.2.1 hO1.1) ⟨by decide, by decide, by show _ ≤ 600000; omega, by show _ ≤ 7302250; omega⟩ (Nat.le_of_ble_eq_true rfl) (ax_dec2 (i := .invokevirtual 17) (n := 3) ok_L_law rfl) (fun r M' hq => ?_)
  obtain ⟨rfl, rfl⟩ := hq
  have hq9 := mPlank_q (sX xs (i + 1)) (sX xs (i + 2)) hE1
  have heq : (mPlank g (sX xs (i + 1)) (sX xs (i + 2))).1 = (mPlank g1 (sX xs (i + 1)) (sX xs (i + 2))).1 := hq9.1.symm
  change ax_J _ _ _ _ _ _ _ _ _ 192 [some (.inr (.inr (some (90, 0)))), some (.inr (.inr (some (1, 0)))), some (.inr (.inr (some (50, 0)))), some (.inl i)] [.inl ((mPlank g1 (sX xs (i + 1)) (sX xs (i + 2))).1), .inl ((mPlank g (sX xs (i + 1)) (sX xs (i + 2))).1)] (P, (mPlank g1 (sX xs (i + 1)) (sX xs (i + 2))).2, r, n)
  refine aj_icmp_eq (tgt := 1072) (ax_dec2 (i := .if_icmp .eq 880) (n := 3) ok_L_law rfl) (by decide) (fun c1 => ?_) (fun c1 => ?_)
  · refine aj_run (C := (-2147483648 ≤ i + 6 ∧ i + 6 ≤ 2147483647) ∧ True) (pc' := 18) (la' := [some (.inr (.inr (some (90, 0)))), some (.inr (.inr (some (1, 0)))), some (.inr (.inr (some (50, 0)))), some (.inl (i + 6))]) (st' := []) (M' := (P, (mPlank g1 (sX xs (i + 1)) (sX xs (i + 2))).2, r, n)) ok_L_law true 2 rfl (by refine ⟨?_, trivial⟩ <;> (omega)) ?_
    refine aj_wide (kc' := kc + 24) (ks' := ks + 648) (by omega) (by omega) ?_
    exact hk _ _ _ _ (lwI_m hI hw1 hs1 hnd (fun f z1 _ => hq9.2.1 f z1) hq9.2.2 (mPlank_l (sX xs (i + 1)) (sX xs (i + 2))))
  · exact absurd c1 (by exact fun z => z heq)

set_option maxRecDepth 100000 in
set_option maxHeartbeats 4000000 in
theorem lc_ant {L : Nat} {xs : Nat → Int32} {pW : Nat → Int → Prop} {Q : ax_Q} {kc ks : Nat} {i : Int} {P : Nat → Int → Prop} {g : Nat → Int → Int → Int} {r : Nat → Int → Int → Option (Nat × Int)} {n : Nat → Int → Int} (hkc : kc ≤ 500000 ∧ ks ≤ 7000000) (hL : 0 ≤ i ∧ i + 6 ≤ L ∧ L ≤ 3072) (hI : lwI i P g r n) (hFa : cFa P (g 50 0 2)) (hk : ∀ P1 g1 r1 n1, lwI (i + 6) P1 g1 r1 n1 → ax_J 12 code 4 (some (L, xs)) room_1 pW Q (kc + 24) (ks + 648) 18 [some (.inr (.inr (some (90, 0)))), some (.inr (.inr (some (1, 0)))), some (.inr (.inr (some (50, 0)))), some (.inl (i + 6))] [] (P1, g1, r1, n1)) :
    ax_J 12 code 4 (some (L, xs)) room_1 pW Q kc ks 197 [some (.inr (.inr (some (90, 0)))), some (.inr (.inr (some (1, 0)))), some (.inr (.inr (some (50, 0)))), some (.inl i)] [] (P, g, r, n) := by
  obtain ⟨hw, hst0, ⟨hS, h90, h1, h50⟩, hp, hnd, h6, hn, hl⟩ := id hI
  have hO : wOs g := hw.1.2.2
  have hst2 : 0 ≤ g 2 0 11 ∧ g 2 0 11 ≤ 90000 := ⟨by have := hw.2.2.2.1.2.1; omega, by omega⟩
  have hst1 : 0 ≤ g 2 0 11 ∧ g 2 0 11 ≤ 100000 := ⟨hst2.1, by omega⟩
  refine aj_run (C := (-2147483648 ≤ i + 1 ∧ i + 1 ≤ 2147483647) ∧ True) (pc' := 202) (la' := [some (.inr (.inr (some (90, 0)))), some (.inr (.inr (some (1, 0)))), some (.inr (.inr (some (50, 0)))), some (.inl i)]) (st' := [.inl (i + 1), .inr (.inr (some (90, 0))), .inr (.inr (some (1, 0)))]) (M' := (P, g, r, n)) ok_L_law true 5 rfl (by refine ⟨?_, trivial⟩ <;> (omega)) ?_
  refine aj_sld (i := i + 1) ⟨by omega, by omega⟩ (ax_dec2 (i := .iaload) (n := 1) ok_L_law rfl) ?_
  change ax_J _ _ _ _ _ _ _ _ _ 203 [some (.inr (.inr (some (90, 0)))), some (.inr (.inr (some (1, 0)))), some (.inr (.inr (some (50, 0)))), some (.inl i)] [.inl (sX xs (i + 1)), .inr (.inr (some (1, 0)))] (P, g, r, n)
  refine aj_run (C := (-2147483648 ≤ i + 2 ∧ i + 2 ≤ 2147483647) ∧ True) (pc' := 207) (la' := [some (.inr (.inr (some (90, 0)))), some (.inr (.inr (some (1, 0)))), some (.inr (.inr (some (50, 0)))), some (.inl i)]) (st' := [.inl (i + 2), .inr (.inr (some (90, 0))), .inl (sX xs (i + 1)), .inr (.inr (some (1, 0)))]) (M' := (P, g, r, n)) ok_L_law true 4 rfl (by refine ⟨?_, trivial⟩ <;> (omega)) ?_
  refine aj_sld (i := i + 2) ⟨by omega, by omega⟩ (ax_dec2 (i := .iaload) (n := 1) ok_L_law rfl) ?_
  change ax_J _ _ _ _ _ _ _ _ _ 208 [some (.inr (.inr (some (90, 0)))), some (.inr (.inr (some (1, 0)))), some (.inr (.inr (some (50, 0)))), some (.inl i)] [.inl (sX xs (i + 2)), .inl (sX xs (i + 1)), .inr (.inr (some (1, 0)))] (P, g, r, n)
  refine aj_run (C := (-2147483648 ≤ i + 3 ∧ i + 3 ≤ 2147483647) ∧ True) (pc' := 212) (la' := [some (.inr (.inr (some (90, 0)))), some (.inr (.inr (some (1, 0)))), some (.inr (.inr (some (50, 0)))), some (.inl i)]) (st' := [.inl (i + 3), .inr (.inr (some (90, 0))), .inl (sX xs (i + 2)), .inl (sX xs (i + 1)), .inr (.inr (some (1, 0)))]) (M' := (P, g, r, n)) ok_L_law true 4 rfl (by refine ⟨?_, trivial⟩ <;> (omega)) ?_
  refine aj_sld (i := i + 3) ⟨by omega, by omega⟩ (ax_dec2 (i := .iaload) (n := 1) ok_L_law rfl) ?_
  change ax_J _ _ _ _ _ _ _ _ _ 213 [some (.inr (.inr (some (90, 0)))), some (.inr (.inr (some (1, 0)))), some (.inr (.inr (some (50, 0)))), some (.inl i)] [.inl (sX xs (i + 3)), .inl (sX xs (i + 2)), .inl (sX xs (i + 1)), .inr (.inr (some (1, 0)))] (P, g, r, n)
  refine aj_callV (av := [.inl (sX xs (i + 1)), .inl (sX xs (i + 2)), .inl (sX xs (i + 3))]) (st := []) (f := 1) (o := 0) (ci := 10) cal_X10_ant lk_12_18 ins_X10_ant rfl sel_X10_ant rfl (fun c9 h9 _ => by simpa [ax_ok] using h9) (cp_ant (sX xs (i + 1)) (sX xs (i + 2)) (sX xs (i + 3)) _ _ _ _ g ⟨hw, hFa, hp, hnd⟩ hst1) ⟨by decide, by decide, by show _ ≤ 600000; omega, by show _ ≤ 7302250; omega⟩ (Nat.le_of_ble_eq_true rfl) (ax_dec2 (i := .invokevirtual 18) (n := 3) ok_L_law rfl) (fun r M' hq => ?_)
  obtain ⟨rfl, P1, g1, r1, n1, rfl, he1, hgr1, hs1⟩ := hq
  have hE1 := lw_e hgr1.2.2.1
  have hO1 := wOs_q hE1 hO
  have hn1 : mLen n1 := mLen_k (fun f o z1 z2 => hgr1.2.2.2 f o (by omega)) hn
  change ax_J _ _ _ _ _ _ _ _ _ 216 [some (.inr (.inr (some (90, 0)))), some (.inr (.inr (some (1, 0)))), some (.inr (.inr (some (50, 0)))), some (.inl i)] [.inl ((mAnt g (sX xs (i + 1)) (sX xs (i + 2)) (sX xs (i + 3))).1)] (P1, g1, r1, n1)
  refine aj_run (C := (-2147483648 ≤ i + 1 ∧ i + 1 ≤ 2147483647) ∧ True) (pc' := 221) (la' := [some (.inr (.inr (some (90, 0)))), some (.inr (.inr (some (1, 0)))), some (.inr (.inr (some (50, 0)))), some (.inl i)]) (st' := [.inl (i + 1), .inr (.inr (some (90, 0))), .inr (.inr (some (50, 0))), .inl ((mAnt g (sX xs (i + 1)) (sX xs (i + 2)) (sX xs (i + 3))).1)]) (M' := (P1, g1, r1, n1)) ok_L_law true 5 rfl (by refine ⟨?_, trivial⟩ <;> (omega)) ?_
  refine aj_sld (i := i + 1) ⟨by omega, by omega⟩ (ax_dec2 (i := .iaload) (n := 1) ok_L_law rfl) ?_
  change ax_J _ _ _ _ _ _ _ _ _ 222 [some (.inr (.inr (some (90, 0)))), some (.inr (.inr (some (1, 0)))), some (.inr (.inr (some (50, 0)))), some (.inl i)] [.inl (sX xs (i + 1)), .inr (.inr (some (50, 0))), .inl ((mAnt g (sX xs (i + 1)) (sX xs (i + 2)) (sX xs (i + 3))).1)] (P1, g1, r1, n1)
  refine aj_run (C := (-2147483648 ≤ i + 2 ∧ i + 2 ≤ 2147483647) ∧ True) (pc' := 226) (la' := [some (.inr (.inr (some (90, 0)))), some (.inr (.inr (some (1, 0)))), some (.inr (.inr (some (50, 0)))), some (.inl i)]) (st' := [.inl (i + 2), .inr (.inr (some (90, 0))), .inl (sX xs (i + 1)), .inr (.inr (some (50, 0))), .inl ((mAnt g (sX xs (i + 1)) (sX xs (i + 2)) (sX xs (i + 3))).1)]) (M' := (P1, g1, r1, n1)) ok_L_law true 4 rfl (by refine ⟨?_, trivial⟩ <;> (omega)) ?_
  refine aj_sld (i := i + 2) ⟨by omega, by omega⟩ (ax_dec2 (i := .iaload) (n := 1) ok_L_law rfl) ?_
  change ax_J _ _ _ _ _ _ _ _ _ 227 [some (.inr (.inr (some (90, 0)))), some (.inr (.inr (some (1, 0)))), some (.inr (.inr (some (50, 0)))), some (.inl i)] [.inl (sX xs (i + 2)), .inl (sX xs (i + 1)), .inr (.inr (some (50, 0))), .inl ((mAnt g (sX xs (i + 1)) (sX xs (i + 2)) (sX xs (i + 3))).1)] (P1, g1, r1, n1)
  refine aj_run (C := (-2147483648 ≤ i + 3 ∧ i + 3 ≤ 2147483647) ∧ True) (pc' := 231) (la' := [some (.inr (.inr (some (90, 0)))), some (.inr (.inr (some (1, 0)))), some (.inr (.inr (some (50, 0)))), some (.inl i)]) (st' := [.inl (i + 3), .inr (.inr (some (90, 0))), .inl (sX xs (i + 2)), .inl (sX xs (i + 1)), .inr (.inr (some (50, 0))), .inl ((mAnt g (sX xs (i + 1)) (sX xs (i + 2)) (sX xs (i + 3))).1)]) (M' := (P1, g1, r1, n1)) ok_L_law true 4 rfl (by refine ⟨?_, trivial⟩ <;> (omega)) ?_
  refine aj_sld (i := i + 3) ⟨by omega, by omega⟩ (ax_dec2 (i := .iaload) (n := 1) ok_L_law rfl) ?_
  change ax_J _ _ _ _ _ _ _ _ _ 232 [some (.inr (.inr (some (90, 0)))), some (.inr (.inr (some (1, 0)))), some (.inr (.inr (some (50, 0)))), some (.inl i)] [.inl (sX xs (i + 3)), .inl (sX xs (i + 2)), .inl (sX xs (i + 1)), .inr (.inr (some (50, 0))), .inl ((mAnt g (sX xs (i + 1)) (sX xs (i + 2)) (sX xs (i + 3))).1)] (P1, g1, r1, n1)
  refine aj_callV (av := [.inl (sX xs (i + 1)), .inl (sX xs (i + 2)), .inl (sX xs (i + 3))]) (st := [.inl ((mAnt g (sX xs (i + 1)) (sX xs (i + 2)) (sX xs (i + 3))).1)]) (f := 50) (o := 0) (ci := 11) cal_X11_ant lk_12_22 ins_X11_ant rfl sel_X11_ant rfl (fun c9 h9 _ => by simpa [ax_ok] using h9) (sp_ant (sX xs (i + 1)) (sX xs (i + 2)) (sX xs (i + 3)) _ _ _ _ hn1 hO1.2.2.1 hO1.1) ⟨by decide, by decide, by show _ ≤ 600000; omega, by show _ ≤ 7302250; omega⟩ (Nat.le_of_ble_eq_true rfl) (ax_dec2 (i := .invokevirtual 22) (n := 3) ok_L_law rfl) (fun r M' hq => ?_)
  obtain ⟨rfl, rfl⟩ := hq
  have hq9 := mAnt_q (sX xs (i + 1)) (sX xs (i + 2)) (sX xs (i + 3)) hE1
  have heq : (mAnt g (sX xs (i + 1)) (sX xs (i + 2)) (sX xs (i + 3))).1 = (mAnt g1 (sX xs (i + 1)) (sX xs (i + 2)) (sX xs (i + 3))).1 := hq9.1.symm
  change ax_J _ _ _ _ _ _ _ _ _ 235 [some (.inr (.inr (some (90, 0)))), some (.inr (.inr (some (1, 0)))), some (.inr (.inr (some (50, 0)))), some (.inl i)] [.inl ((mAnt g1 (sX xs (i + 1)) (sX xs (i + 2)) (sX xs (i + 3))).1), .inl ((mAnt g (sX xs (i + 1)) (sX xs (i + 2)) (sX xs (i + 3))).1)] (P1, (mAnt g1 (sX xs (i + 1)) (sX xs (i + 2)) (sX xs (i + 3))).2, r1, n1)
  refine aj_icmp_eq (tgt := 1072) (ax_dec2 (i := .if_icmp .eq 837) (n := 3) ok_L_law rfl) (by decide) (fun c1 => ?_) (fun c1 => ?_)
  · refine aj_run (C := (-2147483648 ≤ i + 6 ∧ i + 6 ≤ 2147483647) ∧ True) (pc' := 18) (la' := [some (.inr (.inr (some (90, 0)))), some (.inr (.inr (some (1, 0)))), some (.inr (.inr (some (50, 0)))), some (.inl (i + 6))]) (st' := []) (M' := (P1, (mAnt g1 (sX xs (i + 1)) (sX xs (i + 2)) (sX xs (i + 3))).2, r1, n1)) ok_L_law true 2 rfl (by refine ⟨?_, trivial⟩ <;> (omega)) ?_
    refine aj_wide (kc' := kc + 24) (ks' := ks + 648) (by omega) (by omega) ?_
    exact hk _ _ _ _ (lwI_a hI he1 hgr1 (by omega) hq9.2 (mAnt_l (sX xs (i + 1)) (sX xs (i + 2)) (sX xs (i + 3))))
  · exact absurd c1 (by exact fun z => z heq)

set_option maxRecDepth 100000 in
set_option maxHeartbeats 4000000 in
theorem lc_set {L : Nat} {xs : Nat → Int32} {pW : Nat → Int → Prop} {Q : ax_Q} {kc ks : Nat} {i : Int} {P : Nat → Int → Prop} {g : Nat → Int → Int → Int} {r : Nat → Int → Int → Option (Nat × Int)} {n : Nat → Int → Int} (hkc : kc ≤ 500000 ∧ ks ≤ 7000000) (hL : 0 ≤ i ∧ i + 6 ≤ L ∧ L ≤ 3072) (hI : lwI i P g r n) (hFa : cFa P (g 50 0 2)) (hk : ∀ P1 g1 r1 n1, lwI (i + 6) P1 g1 r1 n1 → ax_J 12 code 4 (some (L, xs)) room_1 pW Q (kc + 24) (ks + 648) 18 [some (.inr (.inr (some (90, 0)))), some (.inr (.inr (some (1, 0)))), some (.inr (.inr (some (50, 0)))), some (.inl (i + 6))] [] (P1, g1, r1, n1)) :
    ax_J 12 code 4 (some (L, xs)) room_1 pW Q kc ks 240 [some (.inr (.inr (some (90, 0)))), some (.inr (.inr (some (1, 0)))), some (.inr (.inr (some (50, 0)))), some (.inl i)] [] (P, g, r, n) := by
  obtain ⟨hw, hst0, ⟨hS, h90, h1, h50⟩, hp, hnd, h6, hn, hl⟩ := id hI
  have hO : wOs g := hw.1.2.2
  have hst2 : 0 ≤ g 2 0 11 ∧ g 2 0 11 ≤ 90000 := ⟨by have := hw.2.2.2.1.2.1; omega, by omega⟩
  have hst1 : 0 ≤ g 2 0 11 ∧ g 2 0 11 ≤ 100000 := ⟨hst2.1, by omega⟩
  refine aj_run (C := (-2147483648 ≤ i + 1 ∧ i + 1 ≤ 2147483647) ∧ True) (pc' := 245) (la' := [some (.inr (.inr (some (90, 0)))), some (.inr (.inr (some (1, 0)))), some (.inr (.inr (some (50, 0)))), some (.inl i)]) (st' := [.inl (i + 1), .inr (.inr (some (90, 0))), .inr (.inr (some (1, 0)))]) (M' := (P, g, r, n)) ok_L_law true 5 rfl (by refine ⟨?_, trivial⟩ <;> (omega)) ?_
  refine aj_sld (i := i + 1) ⟨by omega, by omega⟩ (ax_dec2 (i := .iaload) (n := 1) ok_L_law rfl) ?_
  change ax_J _ _ _ _ _ _ _ _ _ 246 [some (.inr (.inr (some (90, 0)))), some (.inr (.inr (some (1, 0)))), some (.inr (.inr (some (50, 0)))), some (.inl i)] [.inl (sX xs (i + 1)), .inr (.inr (some (1, 0)))] (P, g, r, n)
  refine aj_run (C := (-2147483648 ≤ i + 2 ∧ i + 2 ≤ 2147483647) ∧ True) (pc' := 250) (la' := [some (.inr (.inr (some (90, 0)))), some (.inr (.inr (some (1, 0)))), some (.inr (.inr (some (50, 0)))), some (.inl i)]) (st' := [.inl (i + 2), .inr (.inr (some (90, 0))), .inl (sX xs (i + 1)), .inr (.inr (some (1, 0)))]) (M' := (P, g, r, n)) ok_L_law true 4 rfl (by refine ⟨?_, trivial⟩ <;> (omega)) ?_
  refine aj_sld (i := i + 2) ⟨by omega, by omega⟩ (ax_dec2 (i := .iaload) (n := 1) ok_L_law rfl) ?_
  change ax_J _ _ _ _ _ _ _ _ _ 251 [some (.inr (.inr (some (90, 0)))), some (.inr (.inr (some (1, 0)))), some (.inr (.inr (some (50, 0)))), some (.inl i)] [.inl (sX xs (i + 2)), .inl (sX xs (i + 1)), .inr (.inr (some (1, 0)))] (P, g, r, n)
  refine aj_run (C := (-2147483648 ≤ i + 3 ∧ i + 3 ≤ 2147483647) ∧ True) (pc' := 255) (la' := [some (.inr (.inr (some (90, 0)))), some (.inr (.inr (some (1, 0)))), some (.inr (.inr (some (50, 0)))), some (.inl i)]) (st' := [.inl (i + 3), .inr (.inr (some (90, 0))), .inl (sX xs (i + 2)), .inl (sX xs (i + 1)), .inr (.inr (some (1, 0)))]) (M' := (P, g, r, n)) ok_L_law true 4 rfl (by refine ⟨?_, trivial⟩ <;> (omega)) ?_
  refine aj_sld (i := i + 3) ⟨by omega, by omega⟩ (ax_dec2 (i := .iaload) (n := 1) ok_L_law rfl) ?_
  change ax_J _ _ _ _ _ _ _ _ _ 256 [some (.inr (.inr (some (90, 0)))), some (.inr (.inr (some (1, 0)))), some (.inr (.inr (some (50, 0)))), some (.inl i)] [.inl (sX xs (i + 3)), .inl (sX xs (i + 2)), .inl (sX xs (i + 1)), .inr (.inr (some (1, 0)))] (P, g, r, n)
  refine aj_callV (av := [.inl (sX xs (i + 1)), .inl (sX xs (i + 2)), .inl (sX xs (i + 3))]) (st := []) (f := 1) (o := 0) (ci := 10) cal_X10_set lk_12_23 ins_X10_set rfl sel_X10_set rfl (fun c9 h9 _ => by simpa [ax_ok] using h9) (cp_set (sX xs (i + 1)) (sX xs (i + 2)) (sX xs (i + 3)) _ _ _ _ g hw hst1) ⟨by decide, by decide, by show _ ≤ 600000; omega, by show _ ≤ 7302250; omega⟩ (Nat.le_of_ble_eq_true rfl) (ax_dec2 (i := .invokevirtual 23) (n := 3) ok_L_law rfl) (fun r M' hq => ?_)
  obtain ⟨rfl, g1, rfl, hw1, hf1, hs1⟩ := hq
  have hE1 := lw_e hf1
  have hO1 := wOs_q hE1 hO
  change ax_J _ _ _ _ _ _ _ _ _ 259 [some (.inr (.inr (some (90, 0)))), some (.inr (.inr (some (1, 0)))), some (.inr (.inr (some (50, 0)))), some (.inl i)] [.inl ((mSet g (sX xs (i + 1)) (sX xs (i + 2)) (sX xs (i + 3))).1)] (P, g1, r, n)
  refine aj_run (C := (-2147483648 ≤ i + 1 ∧ i + 1 ≤ 2147483647) ∧ True) (pc' := 264) (la' := [some (.inr (.inr (some (90, 0)))), some (.inr (.inr (some (1, 0)))), some (.inr (.inr (some (50, 0)))), some (.inl i)]) (st' := [.inl (i + 1), .inr (.inr (some (90, 0))), .inr (.inr (some (50, 0))), .inl ((mSet g (sX xs (i + 1)) (sX xs (i + 2)) (sX xs (i + 3))).1)]) (M' := (P, g1, r, n)) ok_L_law true 5 rfl (by refine ⟨?_, trivial⟩ <;> (omega)) ?_
  refine aj_sld (i := i + 1) ⟨by omega, by omega⟩ (ax_dec2 (i := .iaload) (n := 1) ok_L_law rfl) ?_
  change ax_J _ _ _ _ _ _ _ _ _ 265 [some (.inr (.inr (some (90, 0)))), some (.inr (.inr (some (1, 0)))), some (.inr (.inr (some (50, 0)))), some (.inl i)] [.inl (sX xs (i + 1)), .inr (.inr (some (50, 0))), .inl ((mSet g (sX xs (i + 1)) (sX xs (i + 2)) (sX xs (i + 3))).1)] (P, g1, r, n)
  refine aj_run (C := (-2147483648 ≤ i + 2 ∧ i + 2 ≤ 2147483647) ∧ True) (pc' := 269) (la' := [some (.inr (.inr (some (90, 0)))), some (.inr (.inr (some (1, 0)))), some (.inr (.inr (some (50, 0)))), some (.inl i)]) (st' := [.inl (i + 2), .inr (.inr (some (90, 0))), .inl (sX xs (i + 1)), .inr (.inr (some (50, 0))), .inl ((mSet g (sX xs (i + 1)) (sX xs (i + 2)) (sX xs (i + 3))).1)]) (M' := (P, g1, r, n)) ok_L_law true 4 rfl (by refine ⟨?_, trivial⟩ <;> (omega)) ?_
  refine aj_sld (i := i + 2) ⟨by omega, by omega⟩ (ax_dec2 (i := .iaload) (n := 1) ok_L_law rfl) ?_
  change ax_J _ _ _ _ _ _ _ _ _ 270 [some (.inr (.inr (some (90, 0)))), some (.inr (.inr (some (1, 0)))), some (.inr (.inr (some (50, 0)))), some (.inl i)] [.inl (sX xs (i + 2)), .inl (sX xs (i + 1)), .inr (.inr (some (50, 0))), .inl ((mSet g (sX xs (i + 1)) (sX xs (i + 2)) (sX xs (i + 3))).1)] (P, g1, r, n)
  refine aj_run (C := (-2147483648 ≤ i + 3 ∧ i + 3 ≤ 2147483647) ∧ True) (pc' := 274) (la' := [some (.inr (.inr (some (90, 0)))), some (.inr (.inr (some (1, 0)))), some (.inr (.inr (some (50, 0)))), some (.inl i)]) (st' := [.inl (i + 3), .inr (.inr (some (90, 0))), .inl (sX xs (i + 2)), .inl (sX xs (i + 1)), .inr (.inr (some (50, 0))), .inl ((mSet g (sX xs (i + 1)) (sX xs (i + 2)) (sX xs (i + 3))).1)]) (M' := (P, g1, r, n)) ok_L_law true 4 rfl (by refine ⟨?_, trivial⟩ <;> (omega)) ?_
  refine aj_sld (i := i + 3) ⟨by omega, by omega⟩ (ax_dec2 (i := .iaload) (n := 1) ok_L_law rfl) ?_
  change ax_J _ _ _ _ _ _ _ _ _ 275 [some (.inr (.inr (some (90, 0)))), some (.inr (.inr (some (1, 0)))), some (.inr (.inr (some (50, 0)))), some (.inl i)] [.inl (sX xs (i + 3)), .inl (sX xs (i + 2)), .inl (sX xs (i + 1)), .inr (.inr (some (50, 0))), .inl ((mSet g (sX xs (i + 1)) (sX xs (i + 2)) (sX xs (i + 3))).1)] (P, g1, r, n)
  refine aj_callV (av := [.inl (sX xs (i + 1)), .inl (sX xs (i + 2)), .inl (sX xs (i + 3))]) (st := [.inl ((mSet g (sX xs (i + 1)) (sX xs (i + 2)) (sX xs (i + 3))).1)]) (f := 50) (o := 0) (ci := 11) cal_X11_set lk_12_26 ins_X11_set rfl sel_X11_set rfl (fun c9 h9 _ => by simpa [ax_ok] using h9) (sp_set (sX xs (i + 1)) (sX xs (i + 2)) (sX xs (i + 3)) _ _ _ _ hn hO1.2.2.1 hO1.1 (fun a z1 z2 => (hO1.2.2.2.2.2.2 a z1 z2).2.2.2.2)) ⟨by decide, by decide, by show _ ≤ 600000; omega, by show _ ≤ 7302250; omega⟩ (Nat.le_of_ble_eq_true rfl) (ax_dec2 (i := .invokevirtual 26) (n := 3) ok_L_law rfl) (fun r M' hq => ?_)
  obtain ⟨rfl, rfl⟩ := hq
  have hq9 := mSet_q (sX xs (i + 1)) (sX xs (i + 2)) (sX xs (i + 3)) hE1
  have heq : (mSet g (sX xs (i + 1)) (sX xs (i + 2)) (sX xs (i + 3))).1 = (mSet g1 (sX xs (i + 1)) (sX xs (i + 2)) (sX xs (i + 3))).1 := hq9.1.symm
  change ax_J _ _ _ _ _ _ _ _ _ 278 [some (.inr (.inr (some (90, 0)))), some (.inr (.inr (some (1, 0)))), some (.inr (.inr (some (50, 0)))), some (.inl i)] [.inl ((mSet g1 (sX xs (i + 1)) (sX xs (i + 2)) (sX xs (i + 3))).1), .inl ((mSet g (sX xs (i + 1)) (sX xs (i + 2)) (sX xs (i + 3))).1)] (P, (mSet g1 (sX xs (i + 1)) (sX xs (i + 2)) (sX xs (i + 3))).2, r, n)
  refine aj_icmp_eq (tgt := 1072) (ax_dec2 (i := .if_icmp .eq 794) (n := 3) ok_L_law rfl) (by decide) (fun c1 => ?_) (fun c1 => ?_)
  · refine aj_run (C := (-2147483648 ≤ i + 6 ∧ i + 6 ≤ 2147483647) ∧ True) (pc' := 18) (la' := [some (.inr (.inr (some (90, 0)))), some (.inr (.inr (some (1, 0)))), some (.inr (.inr (some (50, 0)))), some (.inl (i + 6))]) (st' := []) (M' := (P, (mSet g1 (sX xs (i + 1)) (sX xs (i + 2)) (sX xs (i + 3))).2, r, n)) ok_L_law true 2 rfl (by refine ⟨?_, trivial⟩ <;> (omega)) ?_
    refine aj_wide (kc' := kc + 24) (ks' := ks + 648) (by omega) (by omega) ?_
    exact hk _ _ _ _ (lwI_m hI hw1 hs1 hnd (fun f z1 _ => hq9.2.1 f z1) hq9.2.2 (mSet_l (sX xs (i + 1)) (sX xs (i + 2)) (sX xs (i + 3))))
  · exact absurd c1 (by exact fun z => z heq)

set_option maxRecDepth 100000 in
set_option maxHeartbeats 4000000 in
theorem lc_told {L : Nat} {xs : Nat → Int32} {pW : Nat → Int → Prop} {Q : ax_Q} {kc ks : Nat} {i : Int} {P : Nat → Int → Prop} {g : Nat → Int → Int → Int} {r : Nat → Int → Int → Option (Nat × Int)} {n : Nat → Int → Int} (hkc : kc ≤ 500000 ∧ ks ≤ 7000000) (hL : 0 ≤ i ∧ i + 6 ≤ L ∧ L ≤ 3072) (hI : lwI i P g r n) (hFa : cFa P (g 50 0 2)) (hk : ∀ P1 g1 r1 n1, lwI (i + 6) P1 g1 r1 n1 → ax_J 12 code 4 (some (L, xs)) room_1 pW Q (kc + 24) (ks + 648) 18 [some (.inr (.inr (some (90, 0)))), some (.inr (.inr (some (1, 0)))), some (.inr (.inr (some (50, 0)))), some (.inl (i + 6))] [] (P1, g1, r1, n1)) :
    ax_J 12 code 4 (some (L, xs)) room_1 pW Q kc ks 283 [some (.inr (.inr (some (90, 0)))), some (.inr (.inr (some (1, 0)))), some (.inr (.inr (some (50, 0)))), some (.inl i)] [] (P, g, r, n) := by
  obtain ⟨hw, hst0, ⟨hS, h90, h1, h50⟩, hp, hnd, h6, hn, hl⟩ := id hI
  have hO : wOs g := hw.1.2.2
  have hst2 : 0 ≤ g 2 0 11 ∧ g 2 0 11 ≤ 90000 := ⟨by have := hw.2.2.2.1.2.1; omega, by omega⟩
  have hst1 : 0 ≤ g 2 0 11 ∧ g 2 0 11 ≤ 100000 := ⟨hst2.1, by omega⟩
  refine aj_run (C := (-2147483648 ≤ i + 1 ∧ i + 1 ≤ 2147483647) ∧ True) (pc' := 288) (la' := [some (.inr (.inr (some (90, 0)))), some (.inr (.inr (some (1, 0)))), some (.inr (.inr (some (50, 0)))), some (.inl i)]) (st' := [.inl (i + 1), .inr (.inr (some (90, 0))), .inr (.inr (some (1, 0)))]) (M' := (P, g, r, n)) ok_L_law true 5 rfl (by refine ⟨?_, trivial⟩ <;> (omega)) ?_
  refine aj_sld (i := i + 1) ⟨by omega, by omega⟩ (ax_dec2 (i := .iaload) (n := 1) ok_L_law rfl) ?_
  change ax_J _ _ _ _ _ _ _ _ _ 289 [some (.inr (.inr (some (90, 0)))), some (.inr (.inr (some (1, 0)))), some (.inr (.inr (some (50, 0)))), some (.inl i)] [.inl (sX xs (i + 1)), .inr (.inr (some (1, 0)))] (P, g, r, n)
  refine aj_run (C := (-2147483648 ≤ i + 2 ∧ i + 2 ≤ 2147483647) ∧ True) (pc' := 293) (la' := [some (.inr (.inr (some (90, 0)))), some (.inr (.inr (some (1, 0)))), some (.inr (.inr (some (50, 0)))), some (.inl i)]) (st' := [.inl (i + 2), .inr (.inr (some (90, 0))), .inl (sX xs (i + 1)), .inr (.inr (some (1, 0)))]) (M' := (P, g, r, n)) ok_L_law true 4 rfl (by refine ⟨?_, trivial⟩ <;> (omega)) ?_
  refine aj_sld (i := i + 2) ⟨by omega, by omega⟩ (ax_dec2 (i := .iaload) (n := 1) ok_L_law rfl) ?_
  change ax_J _ _ _ _ _ _ _ _ _ 294 [some (.inr (.inr (some (90, 0)))), some (.inr (.inr (some (1, 0)))), some (.inr (.inr (some (50, 0)))), some (.inl i)] [.inl (sX xs (i + 2)), .inl (sX xs (i + 1)), .inr (.inr (some (1, 0)))] (P, g, r, n)
  refine aj_callV (av := [.inl (sX xs (i + 1)), .inl (sX xs (i + 2))]) (st := []) (f := 1) (o := 0) (ci := 10) cal_X10_told lk_12_27 ins_X10_told rfl sel_X10_told rfl (fun c9 h9 _ => by simpa [ax_ok] using h9) (cp_told (sX xs (i + 1)) (sX xs (i + 2)) _ _ _ _ g (cWd_sta hw)) ⟨by decide, by decide, by show _ ≤ 600000; omega, by show _ ≤ 7302250; omega⟩ (Nat.le_of_ble_eq_true rfl) (ax_dec2 (i := .invokevirtual 27) (n := 3) ok_L_law rfl) (fun r M' hq => ?_)
  obtain ⟨rfl, rfl⟩ := hq
  change ax_J _ _ _ _ _ _ _ _ _ 297 [some (.inr (.inr (some (90, 0)))), some (.inr (.inr (some (1, 0)))), some (.inr (.inr (some (50, 0)))), some (.inl i)] [.inl (mTold g (sX xs (i + 1)) (sX xs (i + 2)))] (P, g, r, n)
  refine aj_run (C := (-2147483648 ≤ i + 1 ∧ i + 1 ≤ 2147483647) ∧ True) (pc' := 302) (la' := [some (.inr (.inr (some (90, 0)))), some (.inr (.inr (some (1, 0)))), some (.inr (.inr (some (50, 0)))), some (.inl i)]) (st' := [.inl (i + 1), .inr (.inr (some (90, 0))), .inr (.inr (some (50, 0))), .inl (mTold g (sX xs (i + 1)) (sX xs (i + 2)))]) (M' := (P, g, r, n)) ok_L_law true 5 rfl (by refine ⟨?_, trivial⟩ <;> (omega)) ?_
  refine aj_sld (i := i + 1) ⟨by omega, by omega⟩ (ax_dec2 (i := .iaload) (n := 1) ok_L_law rfl) ?_
  change ax_J _ _ _ _ _ _ _ _ _ 303 [some (.inr (.inr (some (90, 0)))), some (.inr (.inr (some (1, 0)))), some (.inr (.inr (some (50, 0)))), some (.inl i)] [.inl (sX xs (i + 1)), .inr (.inr (some (50, 0))), .inl (mTold g (sX xs (i + 1)) (sX xs (i + 2)))] (P, g, r, n)
  refine aj_run (C := (-2147483648 ≤ i + 2 ∧ i + 2 ≤ 2147483647) ∧ True) (pc' := 307) (la' := [some (.inr (.inr (some (90, 0)))), some (.inr (.inr (some (1, 0)))), some (.inr (.inr (some (50, 0)))), some (.inl i)]) (st' := [.inl (i + 2), .inr (.inr (some (90, 0))), .inl (sX xs (i + 1)), .inr (.inr (some (50, 0))), .inl (mTold g (sX xs (i + 1)) (sX xs (i + 2)))]) (M' := (P, g, r, n)) ok_L_law true 4 rfl (by refine ⟨?_, trivial⟩ <;> (omega)) ?_
  refine aj_sld (i := i + 2) ⟨by omega, by omega⟩ (ax_dec2 (i := .iaload) (n := 1) ok_L_law rfl) ?_
  change ax_J _ _ _ _ _ _ _ _ _ 308 [some (.inr (.inr (some (90, 0)))), some (.inr (.inr (some (1, 0)))), some (.inr (.inr (some (50, 0)))), some (.inl i)] [.inl (sX xs (i + 2)), .inl (sX xs (i + 1)), .inr (.inr (some (50, 0))), .inl (mTold g (sX xs (i + 1)) (sX xs (i + 2)))] (P, g, r, n)
  refine aj_callV (av := [.inl (sX xs (i + 1)), .inl (sX xs (i + 2))]) (st := [.inl (mTold g (sX xs (i + 1)) (sX xs (i + 2)))]) (f := 50) (o := 0) (ci := 11) cal_X11_told lk_12_30 ins_X11_told rfl sel_X11_told rfl (fun c9 h9 _ => by simpa [ax_ok] using h9) (sp_told (sX xs (i + 1)) (sX xs (i + 2)) _ _ _ _ hn hO.2.2.1 (fun a z1 z2 => (hO.2.2.2.2.2.2 a z1 z2).2.2.2.2)) ⟨by decide, by decide, by show _ ≤ 600000; omega, by show _ ≤ 7302250; omega⟩ (Nat.le_of_ble_eq_true rfl) (ax_dec2 (i := .invokevirtual 30) (n := 3) ok_L_law rfl) (fun r M' hq => ?_)
  obtain ⟨rfl, rfl⟩ := hq
  have heq : mTold g (sX xs (i + 1)) (sX xs (i + 2)) = mTold g (sX xs (i + 1)) (sX xs (i + 2)) := rfl
  change ax_J _ _ _ _ _ _ _ _ _ 311 [some (.inr (.inr (some (90, 0)))), some (.inr (.inr (some (1, 0)))), some (.inr (.inr (some (50, 0)))), some (.inl i)] [.inl (mTold g (sX xs (i + 1)) (sX xs (i + 2))), .inl (mTold g (sX xs (i + 1)) (sX xs (i + 2)))] (P, g, r, n)
  refine aj_icmp_eq (tgt := 1072) (ax_dec2 (i := .if_icmp .eq 761) (n := 3) ok_L_law rfl) (by decide) (fun c1 => ?_) (fun c1 => ?_)
  · refine aj_run (C := (-2147483648 ≤ i + 6 ∧ i + 6 ≤ 2147483647) ∧ True) (pc' := 18) (la' := [some (.inr (.inr (some (90, 0)))), some (.inr (.inr (some (1, 0)))), some (.inr (.inr (some (50, 0)))), some (.inl (i + 6))]) (st' := []) (M' := (P, g, r, n)) ok_L_law true 2 rfl (by refine ⟨?_, trivial⟩ <;> (omega)) ?_
    refine aj_wide (kc' := kc + 24) (ks' := ks + 648) (by omega) (by omega) ?_
    exact hk _ _ _ _ (lwI_i hI)
  · exact absurd c1 (by exact fun z => z heq)

set_option maxRecDepth 100000 in
set_option maxHeartbeats 4000000 in
theorem lc_feed {L : Nat} {xs : Nat → Int32} {pW : Nat → Int → Prop} {Q : ax_Q} {kc ks : Nat} {i : Int} {P : Nat → Int → Prop} {g : Nat → Int → Int → Int} {r : Nat → Int → Int → Option (Nat × Int)} {n : Nat → Int → Int} (hkc : kc ≤ 500000 ∧ ks ≤ 7000000) (hL : 0 ≤ i ∧ i + 6 ≤ L ∧ L ≤ 3072) (hI : lwI i P g r n) (hFa : cFa P (g 50 0 2)) (hk : ∀ P1 g1 r1 n1, lwI (i + 6) P1 g1 r1 n1 → ax_J 12 code 4 (some (L, xs)) room_1 pW Q (kc + 24) (ks + 648) 18 [some (.inr (.inr (some (90, 0)))), some (.inr (.inr (some (1, 0)))), some (.inr (.inr (some (50, 0)))), some (.inl (i + 6))] [] (P1, g1, r1, n1)) :
    ax_J 12 code 4 (some (L, xs)) room_1 pW Q kc ks 316 [some (.inr (.inr (some (90, 0)))), some (.inr (.inr (some (1, 0)))), some (.inr (.inr (some (50, 0)))), some (.inl i)] [] (P, g, r, n) := by
  obtain ⟨hw, hst0, ⟨hS, h90, h1, h50⟩, hp, hnd, h6, hn, hl⟩ := id hI
  have hO : wOs g := hw.1.2.2
  have hst2 : 0 ≤ g 2 0 11 ∧ g 2 0 11 ≤ 90000 := ⟨by have := hw.2.2.2.1.2.1; omega, by omega⟩
  have hst1 : 0 ≤ g 2 0 11 ∧ g 2 0 11 ≤ 100000 := ⟨hst2.1, by omega⟩
  refine aj_run (C := (-2147483648 ≤ i + 1 ∧ i + 1 ≤ 2147483647) ∧ True) (pc' := 321) (la' := [some (.inr (.inr (some (90, 0)))), some (.inr (.inr (some (1, 0)))), some (.inr (.inr (some (50, 0)))), some (.inl i)]) (st' := [.inl (i + 1), .inr (.inr (some (90, 0))), .inr (.inr (some (1, 0)))]) (M' := (P, g, r, n)) ok_L_law true 5 rfl (by refine ⟨?_, trivial⟩ <;> (omega)) ?_
  refine aj_sld (i := i + 1) ⟨by omega, by omega⟩ (ax_dec2 (i := .iaload) (n := 1) ok_L_law rfl) ?_
  change ax_J _ _ _ _ _ _ _ _ _ 322 [some (.inr (.inr (some (90, 0)))), some (.inr (.inr (some (1, 0)))), some (.inr (.inr (some (50, 0)))), some (.inl i)] [.inl (sX xs (i + 1)), .inr (.inr (some (1, 0)))] (P, g, r, n)
  refine aj_callV (av := [.inl (sX xs (i + 1))]) (st := []) (f := 1) (o := 0) (ci := 10) cal_X10_feed lk_12_31 ins_X10_feed rfl sel_X10_feed rfl (fun c9 h9 _ => by simpa [ax_ok] using h9) (cp_feed (sX xs (i + 1)) _ _ _ _ g hw hst1) ⟨by decide, by decide, by show _ ≤ 600000; omega, by show _ ≤ 7302250; omega⟩ (Nat.le_of_ble_eq_true rfl) (ax_dec2 (i := .invokevirtual 31) (n := 3) ok_L_law rfl) (fun r M' hq => ?_)
  obtain ⟨rfl, g1, rfl, hw1, hf1, hs1⟩ := hq
  have hE1 := lw_e hf1
  have hO1 := wOs_q hE1 hO
  change ax_J _ _ _ _ _ _ _ _ _ 325 [some (.inr (.inr (some (90, 0)))), some (.inr (.inr (some (1, 0)))), some (.inr (.inr (some (50, 0)))), some (.inl i)] [.inl ((mFeed g (sX xs (i + 1))).1)] (P, g1, r, n)
  refine aj_run (C := (-2147483648 ≤ i + 1 ∧ i + 1 ≤ 2147483647) ∧ True) (pc' := 330) (la' := [some (.inr (.inr (some (90, 0)))), some (.inr (.inr (some (1, 0)))), some (.inr (.inr (some (50, 0)))), some (.inl i)]) (st' := [.inl (i + 1), .inr (.inr (some (90, 0))), .inr (.inr (some (50, 0))), .inl ((mFeed g (sX xs (i + 1))).1)]) (M' := (P, g1, r, n)) ok_L_law true 5 rfl (by refine ⟨?_, trivial⟩ <;> (omega)) ?_
  refine aj_sld (i := i + 1) ⟨by omega, by omega⟩ (ax_dec2 (i := .iaload) (n := 1) ok_L_law rfl) ?_
  change ax_J _ _ _ _ _ _ _ _ _ 331 [some (.inr (.inr (some (90, 0)))), some (.inr (.inr (some (1, 0)))), some (.inr (.inr (some (50, 0)))), some (.inl i)] [.inl (sX xs (i + 1)), .inr (.inr (some (50, 0))), .inl ((mFeed g (sX xs (i + 1))).1)] (P, g1, r, n)
  refine aj_callV (av := [.inl (sX xs (i + 1))]) (st := [.inl ((mFeed g (sX xs (i + 1))).1)]) (f := 50) (o := 0) (ci := 11) cal_X11_feed lk_12_35 ins_X11_feed rfl sel_X11_feed rfl (fun c9 h9 _ => by simpa [ax_ok] using h9) (sp_feed (sX xs (i + 1)) _ _ _ _ hn (by rw [hE1 50 rfl]; exact ⟨hw.2.2.2.2.2.2.2.1.2.1, hw.2.2.2.2.2.2.2.1.2.2⟩)) ⟨by decide, by decide, by show _ ≤ 600000; omega, by show _ ≤ 7302250; omega⟩ (Nat.le_of_ble_eq_true rfl) (ax_dec2 (i := .invokevirtual 35) (n := 3) ok_L_law rfl) (fun r M' hq => ?_)
  obtain ⟨rfl, rfl⟩ := hq
  have hq9 := mFeed_q (sX xs (i + 1)) hE1
  have heq : (mFeed g (sX xs (i + 1))).1 = (mFeed g1 (sX xs (i + 1))).1 := hq9.1.symm
  change ax_J _ _ _ _ _ _ _ _ _ 334 [some (.inr (.inr (some (90, 0)))), some (.inr (.inr (some (1, 0)))), some (.inr (.inr (some (50, 0)))), some (.inl i)] [.inl ((mFeed g1 (sX xs (i + 1))).1), .inl ((mFeed g (sX xs (i + 1))).1)] (P, (mFeed g1 (sX xs (i + 1))).2, r, n)
  refine aj_icmp_eq (tgt := 1072) (ax_dec2 (i := .if_icmp .eq 738) (n := 3) ok_L_law rfl) (by decide) (fun c1 => ?_) (fun c1 => ?_)
  · refine aj_run (C := (-2147483648 ≤ i + 6 ∧ i + 6 ≤ 2147483647) ∧ True) (pc' := 18) (la' := [some (.inr (.inr (some (90, 0)))), some (.inr (.inr (some (1, 0)))), some (.inr (.inr (some (50, 0)))), some (.inl (i + 6))]) (st' := []) (M' := (P, (mFeed g1 (sX xs (i + 1))).2, r, n)) ok_L_law true 2 rfl (by refine ⟨?_, trivial⟩ <;> (omega)) ?_
    refine aj_wide (kc' := kc + 24) (ks' := ks + 648) (by omega) (by omega) ?_
    exact hk _ _ _ _ (lwI_m hI hw1 hs1 hnd (fun f z1 _ => hq9.2.1 f z1) hq9.2.2 (mFeed_l (sX xs (i + 1))))
  · exact absurd c1 (by exact fun z => z heq)

set_option maxRecDepth 100000 in
set_option maxHeartbeats 4000000 in
theorem lc_text {L : Nat} {xs : Nat → Int32} {pW : Nat → Int → Prop} {Q : ax_Q} {kc ks : Nat} {i : Int} {P : Nat → Int → Prop} {g : Nat → Int → Int → Int} {r : Nat → Int → Int → Option (Nat × Int)} {n : Nat → Int → Int} (hkc : kc ≤ 500000 ∧ ks ≤ 7000000) (hL : 0 ≤ i ∧ i + 6 ≤ L ∧ L ≤ 3072) (hI : lwI i P g r n) (hFa : cFa P (g 50 0 2)) (hk : ∀ P1 g1 r1 n1, lwI (i + 6) P1 g1 r1 n1 → ax_J 12 code 4 (some (L, xs)) room_1 pW Q (kc + 24) (ks + 648) 18 [some (.inr (.inr (some (90, 0)))), some (.inr (.inr (some (1, 0)))), some (.inr (.inr (some (50, 0)))), some (.inl (i + 6))] [] (P1, g1, r1, n1)) :
    ax_J 12 code 4 (some (L, xs)) room_1 pW Q kc ks 339 [some (.inr (.inr (some (90, 0)))), some (.inr (.inr (some (1, 0)))), some (.inr (.inr (some (50, 0)))), some (.inl i)] [] (P, g, r, n) := by
  obtain ⟨hw, hst0, ⟨hS, h90, h1, h50⟩, hp, hnd, h6, hn, hl⟩ := id hI
  have hO : wOs g := hw.1.2.2
  have hst2 : 0 ≤ g 2 0 11 ∧ g 2 0 11 ≤ 90000 := ⟨by have := hw.2.2.2.1.2.1; omega, by omega⟩
  have hst1 : 0 ≤ g 2 0 11 ∧ g 2 0 11 ≤ 100000 := ⟨hst2.1, by omega⟩
  refine aj_run (C := True) (pc' := 340) (la' := [some (.inr (.inr (some (90, 0)))), some (.inr (.inr (some (1, 0)))), some (.inr (.inr (some (50, 0)))), some (.inl i)]) (st' := [.inr (.inr (some (1, 0)))]) (M' := (P, g, r, n)) ok_L_law true 1 rfl trivial ?_
  refine aj_callV (av := []) (st := []) (f := 1) (o := 0) (ci := 10) cal_X10_text lk_12_36 ins_X10_text rfl sel_X10_text rfl (fun c9 h9 _ => by simpa [ax_ok] using h9) (cp_text _ _ _ _ g hw hst1 hS ⟨fun z9 => absurd (h6 _ _ z9 (Or.inl rfl)) (by omega), fun k9 z7 z8 z9 => absurd (h6 _ _ z9 (Or.inr ⟨z7, z8⟩)) (by omega)⟩ hp hnd) ⟨by decide, by decide, by show _ ≤ 600000; omega, by show _ ≤ 7302250; omega⟩ (Nat.le_of_ble_eq_true rfl) (ax_dec2 (i := .invokevirtual 36) (n := 3) ok_L_law rfl) (fun r M' hq => ?_)
  obtain ⟨ρ0, rfl, P1, g1, r1, n1, rfl, hx1, hy1⟩ := hq
  have hE1 := lw_e hx1.2.2.1
  have hO1 := wOs_q hE1 hO
  have hn1 : mLen n1 := mLen_k (fun f o z1 z2 => hx1.2.2.2.2.2 f o (by omega)) hn
  have hl1 : mLtr g1 := mLtr_q (fun f o j z => hx1.2.2.1 f o j (by unfold TCl; omega)) hl
  change ax_J _ _ _ _ _ _ _ _ _ 343 [some (.inr (.inr (some (90, 0)))), some (.inr (.inr (some (1, 0)))), some (.inr (.inr (some (50, 0)))), some (.inl i)] [.inl ρ0] (P1, g1, r1, n1)
  refine aj_run (C := True) (pc' := 344) (la' := [some (.inr (.inr (some (90, 0)))), some (.inr (.inr (some (1, 0)))), some (.inr (.inr (some (50, 0)))), some (.inl i)]) (st' := [.inr (.inr (some (50, 0))), .inl ρ0]) (M' := (P1, g1, r1, n1)) ok_L_law true 1 rfl trivial ?_
  refine aj_callV (av := []) (st := [.inl ρ0]) (f := 50) (o := 0) (ci := 11) cal_X11_text lk_12_40 ins_X11_text rfl sel_X11_text rfl (fun c9 h9 _ => by simpa [ax_ok] using h9) (sp_text _ _ _ _ hn1 ⟨by have := hO1.2.2.2.1; omega, hO1.2.2.2.1.2⟩ (by rw [hE1 50 rfl]; exact ⟨hw.2.2.2.2.2.2.2.1.2.1, hw.2.2.2.2.2.2.2.1.2.2⟩) hl1) ⟨by decide, by decide, by show _ ≤ 600000; omega, by show _ ≤ 7302250; omega⟩ (Nat.le_of_ble_eq_true rfl) (ax_dec2 (i := .invokevirtual 40) (n := 3) ok_L_law rfl) (fun r M' hq => ?_)
  obtain ⟨ρ, g2, rfl, rfl, hy2⟩ := lw_yT hq
  obtain ⟨hr9, hw9⟩ := hy1 _ _ (yTx_mix (fun f o j z => hx1.2.2.1 f o j (by unfold TCl; omega)) hy2)
  have heq : ρ0 = ρ := by cases hr9; rfl
  change ax_J _ _ _ _ _ _ _ _ _ 347 [some (.inr (.inr (some (90, 0)))), some (.inr (.inr (some (1, 0)))), some (.inr (.inr (some (50, 0)))), some (.inl i)] [.inl ρ, .inl ρ0] (P1, g2, r1, n1)
  refine aj_icmp_eq (tgt := 1072) (ax_dec2 (i := .if_icmp .eq 725) (n := 3) ok_L_law rfl) (by decide) (fun c1 => ?_) (fun c1 => ?_)
  · refine aj_run (C := (-2147483648 ≤ i + 6 ∧ i + 6 ≤ 2147483647) ∧ True) (pc' := 18) (la' := [some (.inr (.inr (some (90, 0)))), some (.inr (.inr (some (1, 0)))), some (.inr (.inr (some (50, 0)))), some (.inl (i + 6))]) (st' := []) (M' := (P1, g2, r1, n1)) ok_L_law true 2 rfl (by refine ⟨?_, trivial⟩ <;> (omega)) ?_
    refine aj_wide (kc' := kc + 24) (ks' := ks + 648) (by omega) (by omega) ?_
    exact hk _ _ _ _ (lwI_t hI rfl hx1 hw9 hy2)
  · exact absurd c1 (by exact fun z => z heq)

set_option maxRecDepth 100000 in
set_option maxHeartbeats 4000000 in
theorem lc_force {L : Nat} {xs : Nat → Int32} {pW : Nat → Int → Prop} {Q : ax_Q} {kc ks : Nat} {i : Int} {P : Nat → Int → Prop} {g : Nat → Int → Int → Int} {r : Nat → Int → Int → Option (Nat × Int)} {n : Nat → Int → Int} (hkc : kc ≤ 500000 ∧ ks ≤ 7000000) (hL : 0 ≤ i ∧ i + 6 ≤ L ∧ L ≤ 3072) (hI : lwI i P g r n) (hFa : cFa P (g 50 0 2)) (hk : ∀ P1 g1 r1 n1, lwI (i + 6) P1 g1 r1 n1 → ax_J 12 code 4 (some (L, xs)) room_1 pW Q (kc + 24) (ks + 648) 18 [some (.inr (.inr (some (90, 0)))), some (.inr (.inr (some (1, 0)))), some (.inr (.inr (some (50, 0)))), some (.inl (i + 6))] [] (P1, g1, r1, n1)) :
    ax_J 12 code 4 (some (L, xs)) room_1 pW Q kc ks 352 [some (.inr (.inr (some (90, 0)))), some (.inr (.inr (some (1, 0)))), some (.inr (.inr (some (50, 0)))), some (.inl i)] [] (P, g, r, n) := by
  obtain ⟨hw, hst0, ⟨hS, h90, h1, h50⟩, hp, hnd, h6, hn, hl⟩ := id hI
  have hO : wOs g := hw.1.2.2
  have hst2 : 0 ≤ g 2 0 11 ∧ g 2 0 11 ≤ 90000 := ⟨by have := hw.2.2.2.1.2.1; omega, by omega⟩
  have hst1 : 0 ≤ g 2 0 11 ∧ g 2 0 11 ≤ 100000 := ⟨hst2.1, by omega⟩
  refine aj_run (C := (-2147483648 ≤ i + 1 ∧ i + 1 ≤ 2147483647) ∧ True) (pc' := 357) (la' := [some (.inr (.inr (some (90, 0)))), some (.inr (.inr (some (1, 0)))), some (.inr (.inr (some (50, 0)))), some (.inl i)]) (st' := [.inl (i + 1), .inr (.inr (some (90, 0))), .inr (.inr (some (1, 0)))]) (M' := (P, g, r, n)) ok_L_law true 5 rfl (by refine ⟨?_, trivial⟩ <;> (omega)) ?_
  refine aj_sld (i := i + 1) ⟨by omega, by omega⟩ (ax_dec2 (i := .iaload) (n := 1) ok_L_law rfl) ?_
  change ax_J _ _ _ _ _ _ _ _ _ 358 [some (.inr (.inr (some (90, 0)))), some (.inr (.inr (some (1, 0)))), some (.inr (.inr (some (50, 0)))), some (.inl i)] [.inl (sX xs (i + 1)), .inr (.inr (some (1, 0)))] (P, g, r, n)
  refine aj_callV (av := [.inl (sX xs (i + 1))]) (st := []) (f := 1) (o := 0) (ci := 10) cal_X10_force lk_12_41 ins_X10_force rfl sel_X10_force rfl (fun c9 h9 _ => by simpa [ax_ok] using h9) (cp_force (sX xs (i + 1)) _ _ _ _ g hw hst1) ⟨by decide, by decide, by show _ ≤ 600000; omega, by show _ ≤ 7302250; omega⟩ (Nat.le_of_ble_eq_true rfl) (ax_dec2 (i := .invokevirtual 41) (n := 3) ok_L_law rfl) (fun r M' hq => ?_)
  obtain ⟨rfl, g1, r1, rfl, hw1, hf1, hs1, hnd1⟩ := hq
  have hE1 := lw_e hf1
  have hO1 := wOs_q hE1 hO
  change ax_J _ _ _ _ _ _ _ _ _ 361 [some (.inr (.inr (some (90, 0)))), some (.inr (.inr (some (1, 0)))), some (.inr (.inr (some (50, 0)))), some (.inl i)] [.inl ((mForce g (sX xs (i + 1))).1)] (P, g1, r1, n)
  refine aj_run (C := (-2147483648 ≤ i + 1 ∧ i + 1 ≤ 2147483647) ∧ True) (pc' := 366) (la' := [some (.inr (.inr (some (90, 0)))), some (.inr (.inr (some (1, 0)))), some (.inr (.inr (some (50, 0)))), some (.inl i)]) (st' := [.inl (i + 1), .inr (.inr (some (90, 0))), .inr (.inr (some (50, 0))), .inl ((mForce g (sX xs (i + 1))).1)]) (M' := (P, g1, r1, n)) ok_L_law true 5 rfl (by refine ⟨?_, trivial⟩ <;> (omega)) ?_
  refine aj_sld (i := i + 1) ⟨by omega, by omega⟩ (ax_dec2 (i := .iaload) (n := 1) ok_L_law rfl) ?_
  change ax_J _ _ _ _ _ _ _ _ _ 367 [some (.inr (.inr (some (90, 0)))), some (.inr (.inr (some (1, 0)))), some (.inr (.inr (some (50, 0)))), some (.inl i)] [.inl (sX xs (i + 1)), .inr (.inr (some (50, 0))), .inl ((mForce g (sX xs (i + 1))).1)] (P, g1, r1, n)
  refine aj_callV (av := [.inl (sX xs (i + 1))]) (st := [.inl ((mForce g (sX xs (i + 1))).1)]) (f := 50) (o := 0) (ci := 11) cal_X11_force lk_12_44 ins_X11_force rfl sel_X11_force rfl (fun c9 h9 _ => by simpa [ax_ok] using h9) (sp_force (sX xs (i + 1)) _ _ _ _ hO1.2.2.2.1) ⟨by decide, by decide, by show _ ≤ 600000; omega, by show _ ≤ 7302250; omega⟩ (Nat.le_of_ble_eq_true rfl) (ax_dec2 (i := .invokevirtual 44) (n := 3) ok_L_law rfl) (fun r M' hq => ?_)
  obtain ⟨rfl, rfl⟩ := hq
  have hq9 := mForce_q (sX xs (i + 1)) hE1
  have heq : (mForce g (sX xs (i + 1))).1 = (mForce g1 (sX xs (i + 1))).1 := hq9.1.symm
  change ax_J _ _ _ _ _ _ _ _ _ 370 [some (.inr (.inr (some (90, 0)))), some (.inr (.inr (some (1, 0)))), some (.inr (.inr (some (50, 0)))), some (.inl i)] [.inl ((mForce g1 (sX xs (i + 1))).1), .inl ((mForce g (sX xs (i + 1))).1)] (P, (mForce g1 (sX xs (i + 1))).2, r1, n)
  refine aj_icmp_eq (tgt := 1072) (ax_dec2 (i := .if_icmp .eq 702) (n := 3) ok_L_law rfl) (by decide) (fun c1 => ?_) (fun c1 => ?_)
  · refine aj_run (C := (-2147483648 ≤ i + 6 ∧ i + 6 ≤ 2147483647) ∧ True) (pc' := 18) (la' := [some (.inr (.inr (some (90, 0)))), some (.inr (.inr (some (1, 0)))), some (.inr (.inr (some (50, 0)))), some (.inl (i + 6))]) (st' := []) (M' := (P, (mForce g1 (sX xs (i + 1))).2, r1, n)) ok_L_law true 2 rfl (by refine ⟨?_, trivial⟩ <;> (omega)) ?_
    refine aj_wide (kc' := kc + 24) (ks' := ks + 648) (by omega) (by omega) ?_
    exact hk _ _ _ _ (lwI_m hI hw1 hs1 (hnd1 hnd) (fun f z1 _ => hq9.2.1 f z1) hq9.2.2 (mForce_l (sX xs (i + 1))))
  · exact absurd c1 (by exact fun z => z heq)

set_option maxRecDepth 100000 in
set_option maxHeartbeats 4000000 in
theorem lc_of {L : Nat} {xs : Nat → Int32} {pW : Nat → Int → Prop} {Q : ax_Q} {kc ks : Nat} {i : Int} {P : Nat → Int → Prop} {g : Nat → Int → Int → Int} {r : Nat → Int → Int → Option (Nat × Int)} {n : Nat → Int → Int} (hkc : kc ≤ 500000 ∧ ks ≤ 7000000) (hL : 0 ≤ i ∧ i + 6 ≤ L ∧ L ≤ 3072) (hI : lwI i P g r n) (hFa : cFa P (g 50 0 2)) (hk : ∀ P1 g1 r1 n1, lwI (i + 6) P1 g1 r1 n1 → ax_J 12 code 4 (some (L, xs)) room_1 pW Q (kc + 24) (ks + 648) 18 [some (.inr (.inr (some (90, 0)))), some (.inr (.inr (some (1, 0)))), some (.inr (.inr (some (50, 0)))), some (.inl (i + 6))] [] (P1, g1, r1, n1)) :
    ax_J 12 code 4 (some (L, xs)) room_1 pW Q kc ks 375 [some (.inr (.inr (some (90, 0)))), some (.inr (.inr (some (1, 0)))), some (.inr (.inr (some (50, 0)))), some (.inl i)] [] (P, g, r, n) := by
  obtain ⟨hw, hst0, ⟨hS, h90, h1, h50⟩, hp, hnd, h6, hn, hl⟩ := id hI
  have hO : wOs g := hw.1.2.2
  have hst2 : 0 ≤ g 2 0 11 ∧ g 2 0 11 ≤ 90000 := ⟨by have := hw.2.2.2.1.2.1; omega, by omega⟩
  have hst1 : 0 ≤ g 2 0 11 ∧ g 2 0 11 ≤ 100000 := ⟨hst2.1, by omega⟩
  refine aj_run (C := (-2147483648 ≤ i + 1 ∧ i + 1 ≤ 2147483647) ∧ True) (pc' := 380) (la' := [some (.inr (.inr (some (90, 0)))), some (.inr (.inr (some (1, 0)))), some (.inr (.inr (some (50, 0)))), some (.inl i)]) (st' := [.inl (i + 1), .inr (.inr (some (90, 0))), .inr (.inr (some (1, 0)))]) (M' := (P, g, r, n)) ok_L_law true 5 rfl (by refine ⟨?_, trivial⟩ <;> (omega)) ?_
  refine aj_sld (i := i + 1) ⟨by omega, by omega⟩ (ax_dec2 (i := .iaload) (n := 1) ok_L_law rfl) ?_
  change ax_J _ _ _ _ _ _ _ _ _ 381 [some (.inr (.inr (some (90, 0)))), some (.inr (.inr (some (1, 0)))), some (.inr (.inr (some (50, 0)))), some (.inl i)] [.inl (sX xs (i + 1)), .inr (.inr (some (1, 0)))] (P, g, r, n)
  refine aj_run (C := (-2147483648 ≤ i + 2 ∧ i + 2 ≤ 2147483647) ∧ True) (pc' := 385) (la' := [some (.inr (.inr (some (90, 0)))), some (.inr (.inr (some (1, 0)))), some (.inr (.inr (some (50, 0)))), some (.inl i)]) (st' := [.inl (i + 2), .inr (.inr (some (90, 0))), .inl (sX xs (i + 1)), .inr (.inr (some (1, 0)))]) (M' := (P, g, r, n)) ok_L_law true 4 rfl (by refine ⟨?_, trivial⟩ <;> (omega)) ?_
  refine aj_sld (i := i + 2) ⟨by omega, by omega⟩ (ax_dec2 (i := .iaload) (n := 1) ok_L_law rfl) ?_
  change ax_J _ _ _ _ _ _ _ _ _ 386 [some (.inr (.inr (some (90, 0)))), some (.inr (.inr (some (1, 0)))), some (.inr (.inr (some (50, 0)))), some (.inl i)] [.inl (sX xs (i + 2)), .inl (sX xs (i + 1)), .inr (.inr (some (1, 0)))] (P, g, r, n)
  refine aj_callV (av := [.inl (sX xs (i + 1)), .inl (sX xs (i + 2))]) (st := []) (f := 1) (o := 0) (ci := 10) cal_X10_of lk_12_45 ins_X10_of rfl sel_X10_of rfl (fun c9 h9 _ => by simpa [ax_ok] using h9) (cp_of (sX xs (i + 1)) (sX xs (i + 2)) _ _ _ _ g (cWd_sta hw) hw.2.2.2.1) ⟨by decide, by decide, by show _ ≤ 600000; omega, by show _ ≤ 7302250; omega⟩ (Nat.le_of_ble_eq_true rfl) (ax_dec2 (i := .invokevirtual 45) (n := 3) ok_L_law rfl) (fun r M' hq => ?_)
  obtain ⟨rfl, g1, rfl, hd1, hf1⟩ := hq
  obtain ⟨hw1, hE1, hO1⟩ := lw_q hw hd1 hf1
  change ax_J _ _ _ _ _ _ _ _ _ 389 [some (.inr (.inr (some (90, 0)))), some (.inr (.inr (some (1, 0)))), some (.inr (.inr (some (50, 0)))), some (.inl i)] [.inl (fOf g (sX xs (i + 1)) (sX xs (i + 2)))] (P, g1, r, n)
  refine aj_run (C := (-2147483648 ≤ i + 1 ∧ i + 1 ≤ 2147483647) ∧ True) (pc' := 394) (la' := [some (.inr (.inr (some (90, 0)))), some (.inr (.inr (some (1, 0)))), some (.inr (.inr (some (50, 0)))), some (.inl i)]) (st' := [.inl (i + 1), .inr (.inr (some (90, 0))), .inr (.inr (some (50, 0))), .inl (fOf g (sX xs (i + 1)) (sX xs (i + 2)))]) (M' := (P, g1, r, n)) ok_L_law true 5 rfl (by refine ⟨?_, trivial⟩ <;> (omega)) ?_
  refine aj_sld (i := i + 1) ⟨by omega, by omega⟩ (ax_dec2 (i := .iaload) (n := 1) ok_L_law rfl) ?_
  change ax_J _ _ _ _ _ _ _ _ _ 395 [some (.inr (.inr (some (90, 0)))), some (.inr (.inr (some (1, 0)))), some (.inr (.inr (some (50, 0)))), some (.inl i)] [.inl (sX xs (i + 1)), .inr (.inr (some (50, 0))), .inl (fOf g (sX xs (i + 1)) (sX xs (i + 2)))] (P, g1, r, n)
  refine aj_run (C := (-2147483648 ≤ i + 2 ∧ i + 2 ≤ 2147483647) ∧ True) (pc' := 399) (la' := [some (.inr (.inr (some (90, 0)))), some (.inr (.inr (some (1, 0)))), some (.inr (.inr (some (50, 0)))), some (.inl i)]) (st' := [.inl (i + 2), .inr (.inr (some (90, 0))), .inl (sX xs (i + 1)), .inr (.inr (some (50, 0))), .inl (fOf g (sX xs (i + 1)) (sX xs (i + 2)))]) (M' := (P, g1, r, n)) ok_L_law true 4 rfl (by refine ⟨?_, trivial⟩ <;> (omega)) ?_
  refine aj_sld (i := i + 2) ⟨by omega, by omega⟩ (ax_dec2 (i := .iaload) (n := 1) ok_L_law rfl) ?_
  change ax_J _ _ _ _ _ _ _ _ _ 400 [some (.inr (.inr (some (90, 0)))), some (.inr (.inr (some (1, 0)))), some (.inr (.inr (some (50, 0)))), some (.inl i)] [.inl (sX xs (i + 2)), .inl (sX xs (i + 1)), .inr (.inr (some (50, 0))), .inl (fOf g (sX xs (i + 1)) (sX xs (i + 2)))] (P, g1, r, n)
  refine aj_callV (av := [.inl (sX xs (i + 1)), .inl (sX xs (i + 2))]) (st := [.inl (fOf g (sX xs (i + 1)) (sX xs (i + 2)))]) (f := 50) (o := 0) (ci := 11) cal_X11_of lk_12_48 ins_X11_of rfl sel_X11_of rfl (fun c9 h9 _ => by simpa [ax_ok] using h9) (sp_of (sX xs (i + 1)) (sX xs (i + 2)) _ _ _ _ hn hO1) ⟨by decide, by decide, by show _ ≤ 600000; omega, by show _ ≤ 7302250; omega⟩ (Nat.le_of_ble_eq_true rfl) (ax_dec2 (i := .invokevirtual 48) (n := 3) ok_L_law rfl) (fun r M' hq => ?_)
  obtain ⟨rfl, g2, rfl, hk2⟩ := hq
  have heq : fOf g (sX xs (i + 1)) (sX xs (i + 2)) = fOf g1 (sX xs (i + 1)) (sX xs (i + 2)) := (fOf_q _ _ hE1).symm
  change ax_J _ _ _ _ _ _ _ _ _ 403 [some (.inr (.inr (some (90, 0)))), some (.inr (.inr (some (1, 0)))), some (.inr (.inr (some (50, 0)))), some (.inl i)] [.inl (fOf g1 (sX xs (i + 1)) (sX xs (i + 2))), .inl (fOf g (sX xs (i + 1)) (sX xs (i + 2)))] (P, g2, r, n)
  refine aj_icmp_eq (tgt := 1072) (ax_dec2 (i := .if_icmp .eq 669) (n := 3) ok_L_law rfl) (by decide) (fun c1 => ?_) (fun c1 => ?_)
  · refine aj_run (C := (-2147483648 ≤ i + 6 ∧ i + 6 ≤ 2147483647) ∧ True) (pc' := 18) (la' := [some (.inr (.inr (some (90, 0)))), some (.inr (.inr (some (1, 0)))), some (.inr (.inr (some (50, 0)))), some (.inl (i + 6))]) (st' := []) (M' := (P, g2, r, n)) ok_L_law true 2 rfl (by refine ⟨?_, trivial⟩ <;> (omega)) ?_
    refine aj_wide (kc' := kc + 24) (ks' := ks + 648) (by omega) (by omega) ?_
    exact hk _ _ _ _ (lwI_q hI hw1 hf1 hk2)
  · exact absurd c1 (by exact fun z => z heq)

set_option maxRecDepth 100000 in
set_option maxHeartbeats 4000000 in
theorem lc_at {L : Nat} {xs : Nat → Int32} {pW : Nat → Int → Prop} {Q : ax_Q} {kc ks : Nat} {i : Int} {P : Nat → Int → Prop} {g : Nat → Int → Int → Int} {r : Nat → Int → Int → Option (Nat × Int)} {n : Nat → Int → Int} (hkc : kc ≤ 500000 ∧ ks ≤ 7000000) (hL : 0 ≤ i ∧ i + 6 ≤ L ∧ L ≤ 3072) (hI : lwI i P g r n) (hFa : cFa P (g 50 0 2)) (hk : ∀ P1 g1 r1 n1, lwI (i + 6) P1 g1 r1 n1 → ax_J 12 code 4 (some (L, xs)) room_1 pW Q (kc + 24) (ks + 648) 18 [some (.inr (.inr (some (90, 0)))), some (.inr (.inr (some (1, 0)))), some (.inr (.inr (some (50, 0)))), some (.inl (i + 6))] [] (P1, g1, r1, n1)) :
    ax_J 12 code 4 (some (L, xs)) room_1 pW Q kc ks 408 [some (.inr (.inr (some (90, 0)))), some (.inr (.inr (some (1, 0)))), some (.inr (.inr (some (50, 0)))), some (.inl i)] [] (P, g, r, n) := by
  obtain ⟨hw, hst0, ⟨hS, h90, h1, h50⟩, hp, hnd, h6, hn, hl⟩ := id hI
  have hO : wOs g := hw.1.2.2
  have hst2 : 0 ≤ g 2 0 11 ∧ g 2 0 11 ≤ 90000 := ⟨by have := hw.2.2.2.1.2.1; omega, by omega⟩
  have hst1 : 0 ≤ g 2 0 11 ∧ g 2 0 11 ≤ 100000 := ⟨hst2.1, by omega⟩
  refine aj_run (C := (-2147483648 ≤ i + 1 ∧ i + 1 ≤ 2147483647) ∧ True) (pc' := 413) (la' := [some (.inr (.inr (some (90, 0)))), some (.inr (.inr (some (1, 0)))), some (.inr (.inr (some (50, 0)))), some (.inl i)]) (st' := [.inl (i + 1), .inr (.inr (some (90, 0))), .inr (.inr (some (1, 0)))]) (M' := (P, g, r, n)) ok_L_law true 5 rfl (by refine ⟨?_, trivial⟩ <;> (omega)) ?_
  refine aj_sld (i := i + 1) ⟨by omega, by omega⟩ (ax_dec2 (i := .iaload) (n := 1) ok_L_law rfl) ?_
  change ax_J _ _ _ _ _ _ _ _ _ 414 [some (.inr (.inr (some (90, 0)))), some (.inr (.inr (some (1, 0)))), some (.inr (.inr (some (50, 0)))), some (.inl i)] [.inl (sX xs (i + 1)), .inr (.inr (some (1, 0)))] (P, g, r, n)
  refine aj_run (C := (-2147483648 ≤ i + 2 ∧ i + 2 ≤ 2147483647) ∧ True) (pc' := 418) (la' := [some (.inr (.inr (some (90, 0)))), some (.inr (.inr (some (1, 0)))), some (.inr (.inr (some (50, 0)))), some (.inl i)]) (st' := [.inl (i + 2), .inr (.inr (some (90, 0))), .inl (sX xs (i + 1)), .inr (.inr (some (1, 0)))]) (M' := (P, g, r, n)) ok_L_law true 4 rfl (by refine ⟨?_, trivial⟩ <;> (omega)) ?_
  refine aj_sld (i := i + 2) ⟨by omega, by omega⟩ (ax_dec2 (i := .iaload) (n := 1) ok_L_law rfl) ?_
  change ax_J _ _ _ _ _ _ _ _ _ 419 [some (.inr (.inr (some (90, 0)))), some (.inr (.inr (some (1, 0)))), some (.inr (.inr (some (50, 0)))), some (.inl i)] [.inl (sX xs (i + 2)), .inl (sX xs (i + 1)), .inr (.inr (some (1, 0)))] (P, g, r, n)
  refine aj_run (C := (-2147483648 ≤ i + 3 ∧ i + 3 ≤ 2147483647) ∧ True) (pc' := 423) (la' := [some (.inr (.inr (some (90, 0)))), some (.inr (.inr (some (1, 0)))), some (.inr (.inr (some (50, 0)))), some (.inl i)]) (st' := [.inl (i + 3), .inr (.inr (some (90, 0))), .inl (sX xs (i + 2)), .inl (sX xs (i + 1)), .inr (.inr (some (1, 0)))]) (M' := (P, g, r, n)) ok_L_law true 4 rfl (by refine ⟨?_, trivial⟩ <;> (omega)) ?_
  refine aj_sld (i := i + 3) ⟨by omega, by omega⟩ (ax_dec2 (i := .iaload) (n := 1) ok_L_law rfl) ?_
  change ax_J _ _ _ _ _ _ _ _ _ 424 [some (.inr (.inr (some (90, 0)))), some (.inr (.inr (some (1, 0)))), some (.inr (.inr (some (50, 0)))), some (.inl i)] [.inl (sX xs (i + 3)), .inl (sX xs (i + 2)), .inl (sX xs (i + 1)), .inr (.inr (some (1, 0)))] (P, g, r, n)
  refine aj_callV (av := [.inl (sX xs (i + 1)), .inl (sX xs (i + 2)), .inl (sX xs (i + 3))]) (st := []) (f := 1) (o := 0) (ci := 10) cal_X10_at lk_12_49 ins_X10_at rfl sel_X10_at rfl (fun c9 h9 _ => by simpa [ax_ok] using h9) (cp_at (sX xs (i + 1)) (sX xs (i + 2)) (sX xs (i + 3)) _ _ _ _ g (cWd_sta hw) hw.2.2.2.1) ⟨by decide, by decide, by show _ ≤ 600000; omega, by show _ ≤ 7302250; omega⟩ (Nat.le_of_ble_eq_true rfl) (ax_dec2 (i := .invokevirtual 49) (n := 3) ok_L_law rfl) (fun r M' hq => ?_)
  obtain ⟨rfl, g1, rfl, hd1, hf1⟩ := hq
  obtain ⟨hw1, hE1, hO1⟩ := lw_q hw hd1 hf1
  change ax_J _ _ _ _ _ _ _ _ _ 427 [some (.inr (.inr (some (90, 0)))), some (.inr (.inr (some (1, 0)))), some (.inr (.inr (some (50, 0)))), some (.inl i)] [.inl (fAt g (sX xs (i + 1)) (sX xs (i + 2)) (sX xs (i + 3)))] (P, g1, r, n)
  refine aj_run (C := (-2147483648 ≤ i + 1 ∧ i + 1 ≤ 2147483647) ∧ True) (pc' := 432) (la' := [some (.inr (.inr (some (90, 0)))), some (.inr (.inr (some (1, 0)))), some (.inr (.inr (some (50, 0)))), some (.inl i)]) (st' := [.inl (i + 1), .inr (.inr (some (90, 0))), .inr (.inr (some (50, 0))), .inl (fAt g (sX xs (i + 1)) (sX xs (i + 2)) (sX xs (i + 3)))]) (M' := (P, g1, r, n)) ok_L_law true 5 rfl (by refine ⟨?_, trivial⟩ <;> (omega)) ?_
  refine aj_sld (i := i + 1) ⟨by omega, by omega⟩ (ax_dec2 (i := .iaload) (n := 1) ok_L_law rfl) ?_
  change ax_J _ _ _ _ _ _ _ _ _ 433 [some (.inr (.inr (some (90, 0)))), some (.inr (.inr (some (1, 0)))), some (.inr (.inr (some (50, 0)))), some (.inl i)] [.inl (sX xs (i + 1)), .inr (.inr (some (50, 0))), .inl (fAt g (sX xs (i + 1)) (sX xs (i + 2)) (sX xs (i + 3)))] (P, g1, r, n)
  refine aj_run (C := (-2147483648 ≤ i + 2 ∧ i + 2 ≤ 2147483647) ∧ True) (pc' := 437) (la' := [some (.inr (.inr (some (90, 0)))), some (.inr (.inr (some (1, 0)))), some (.inr (.inr (some (50, 0)))), some (.inl i)]) (st' := [.inl (i + 2), .inr (.inr (some (90, 0))), .inl (sX xs (i + 1)), .inr (.inr (some (50, 0))), .inl (fAt g (sX xs (i + 1)) (sX xs (i + 2)) (sX xs (i + 3)))]) (M' := (P, g1, r, n)) ok_L_law true 4 rfl (by refine ⟨?_, trivial⟩ <;> (omega)) ?_
  refine aj_sld (i := i + 2) ⟨by omega, by omega⟩ (ax_dec2 (i := .iaload) (n := 1) ok_L_law rfl) ?_
  change ax_J _ _ _ _ _ _ _ _ _ 438 [some (.inr (.inr (some (90, 0)))), some (.inr (.inr (some (1, 0)))), some (.inr (.inr (some (50, 0)))), some (.inl i)] [.inl (sX xs (i + 2)), .inl (sX xs (i + 1)), .inr (.inr (some (50, 0))), .inl (fAt g (sX xs (i + 1)) (sX xs (i + 2)) (sX xs (i + 3)))] (P, g1, r, n)
  refine aj_run (C := (-2147483648 ≤ i + 3 ∧ i + 3 ≤ 2147483647) ∧ True) (pc' := 442) (la' := [some (.inr (.inr (some (90, 0)))), some (.inr (.inr (some (1, 0)))), some (.inr (.inr (some (50, 0)))), some (.inl i)]) (st' := [.inl (i + 3), .inr (.inr (some (90, 0))), .inl (sX xs (i + 2)), .inl (sX xs (i + 1)), .inr (.inr (some (50, 0))), .inl (fAt g (sX xs (i + 1)) (sX xs (i + 2)) (sX xs (i + 3)))]) (M' := (P, g1, r, n)) ok_L_law true 4 rfl (by refine ⟨?_, trivial⟩ <;> (omega)) ?_
  refine aj_sld (i := i + 3) ⟨by omega, by omega⟩ (ax_dec2 (i := .iaload) (n := 1) ok_L_law rfl) ?_
  change ax_J _ _ _ _ _ _ _ _ _ 443 [some (.inr (.inr (some (90, 0)))), some (.inr (.inr (some (1, 0)))), some (.inr (.inr (some (50, 0)))), some (.inl i)] [.inl (sX xs (i + 3)), .inl (sX xs (i + 2)), .inl (sX xs (i + 1)), .inr (.inr (some (50, 0))), .inl (fAt g (sX xs (i + 1)) (sX xs (i + 2)) (sX xs (i + 3)))] (P, g1, r, n)
  refine aj_callV (av := [.inl (sX xs (i + 1)), .inl (sX xs (i + 2)), .inl (sX xs (i + 3))]) (st := [.inl (fAt g (sX xs (i + 1)) (sX xs (i + 2)) (sX xs (i + 3)))]) (f := 50) (o := 0) (ci := 11) cal_X11_at lk_12_52 ins_X11_at rfl sel_X11_at rfl (fun c9 h9 _ => by simpa [ax_ok] using h9) (sp_at (sX xs (i + 1)) (sX xs (i + 2)) (sX xs (i + 3)) _ _ _ _ hn hO1) ⟨by decide, by decide, by show _ ≤ 600000; omega, by show _ ≤ 7302250; omega⟩ (Nat.le_of_ble_eq_true rfl) (ax_dec2 (i := .invokevirtual 52) (n := 3) ok_L_law rfl) (fun r M' hq => ?_)
  obtain ⟨rfl, g2, rfl, hk2⟩ := hq
  have heq : fAt g (sX xs (i + 1)) (sX xs (i + 2)) (sX xs (i + 3)) = fAt g1 (sX xs (i + 1)) (sX xs (i + 2)) (sX xs (i + 3)) := (fAt_q _ _ _ hE1).symm
  change ax_J _ _ _ _ _ _ _ _ _ 446 [some (.inr (.inr (some (90, 0)))), some (.inr (.inr (some (1, 0)))), some (.inr (.inr (some (50, 0)))), some (.inl i)] [.inl (fAt g1 (sX xs (i + 1)) (sX xs (i + 2)) (sX xs (i + 3))), .inl (fAt g (sX xs (i + 1)) (sX xs (i + 2)) (sX xs (i + 3)))] (P, g2, r, n)
  refine aj_icmp_eq (tgt := 1072) (ax_dec2 (i := .if_icmp .eq 626) (n := 3) ok_L_law rfl) (by decide) (fun c1 => ?_) (fun c1 => ?_)
  · refine aj_run (C := (-2147483648 ≤ i + 6 ∧ i + 6 ≤ 2147483647) ∧ True) (pc' := 18) (la' := [some (.inr (.inr (some (90, 0)))), some (.inr (.inr (some (1, 0)))), some (.inr (.inr (some (50, 0)))), some (.inl (i + 6))]) (st' := []) (M' := (P, g2, r, n)) ok_L_law true 2 rfl (by refine ⟨?_, trivial⟩ <;> (omega)) ?_
    refine aj_wide (kc' := kc + 24) (ks' := ks + 648) (by omega) (by omega) ?_
    exact hk _ _ _ _ (lwI_q hI hw1 hf1 hk2)
  · exact absurd c1 (by exact fun z => z heq)

set_option maxRecDepth 100000 in
set_option maxHeartbeats 4000000 in
theorem lc_last {L : Nat} {xs : Nat → Int32} {pW : Nat → Int → Prop} {Q : ax_Q} {kc ks : Nat} {i : Int} {P : Nat → Int → Prop} {g : Nat → Int → Int → Int} {r : Nat → Int → Int → Option (Nat × Int)} {n : Nat → Int → Int} (hkc : kc ≤ 500000 ∧ ks ≤ 7000000) (hL : 0 ≤ i ∧ i + 6 ≤ L ∧ L ≤ 3072) (hI : lwI i P g r n) (hFa : cFa P (g 50 0 2)) (hk : ∀ P1 g1 r1 n1, lwI (i + 6) P1 g1 r1 n1 → ax_J 12 code 4 (some (L, xs)) room_1 pW Q (kc + 24) (ks + 648) 18 [some (.inr (.inr (some (90, 0)))), some (.inr (.inr (some (1, 0)))), some (.inr (.inr (some (50, 0)))), some (.inl (i + 6))] [] (P1, g1, r1, n1)) :
    ax_J 12 code 4 (some (L, xs)) room_1 pW Q kc ks 451 [some (.inr (.inr (some (90, 0)))), some (.inr (.inr (some (1, 0)))), some (.inr (.inr (some (50, 0)))), some (.inl i)] [] (P, g, r, n) := by
  obtain ⟨hw, hst0, ⟨hS, h90, h1, h50⟩, hp, hnd, h6, hn, hl⟩ := id hI
  have hO : wOs g := hw.1.2.2
  have hst2 : 0 ≤ g 2 0 11 ∧ g 2 0 11 ≤ 90000 := ⟨by have := hw.2.2.2.1.2.1; omega, by omega⟩
  have hst1 : 0 ≤ g 2 0 11 ∧ g 2 0 11 ≤ 100000 := ⟨hst2.1, by omega⟩
  refine aj_run (C := (-2147483648 ≤ i + 1 ∧ i + 1 ≤ 2147483647) ∧ True) (pc' := 456) (la' := [some (.inr (.inr (some (90, 0)))), some (.inr (.inr (some (1, 0)))), some (.inr (.inr (some (50, 0)))), some (.inl i)]) (st' := [.inl (i + 1), .inr (.inr (some (90, 0))), .inr (.inr (some (1, 0)))]) (M' := (P, g, r, n)) ok_L_law true 5 rfl (by refine ⟨?_, trivial⟩ <;> (omega)) ?_
  refine aj_sld (i := i + 1) ⟨by omega, by omega⟩ (ax_dec2 (i := .iaload) (n := 1) ok_L_law rfl) ?_
  change ax_J _ _ _ _ _ _ _ _ _ 457 [some (.inr (.inr (some (90, 0)))), some (.inr (.inr (some (1, 0)))), some (.inr (.inr (some (50, 0)))), some (.inl i)] [.inl (sX xs (i + 1)), .inr (.inr (some (1, 0)))] (P, g, r, n)
  refine aj_callV (av := [.inl (sX xs (i + 1))]) (st := []) (f := 1) (o := 0) (ci := 10) cal_X10_last lk_12_53 ins_X10_last rfl sel_X10_last rfl (fun c9 h9 _ => by simpa [ax_ok] using h9) (cp_last (sX xs (i + 1)) _ _ _ _ g (cWd_sta hw) hw.2.2.2.1) ⟨by decide, by decide, by show _ ≤ 600000; omega, by show _ ≤ 7302250; omega⟩ (Nat.le_of_ble_eq_true rfl) (ax_dec2 (i := .invokevirtual 53) (n := 3) ok_L_law rfl) (fun r M' hq => ?_)
  obtain ⟨rfl, g1, rfl, hd1, hf1⟩ := hq
  obtain ⟨hw1, hE1, hO1⟩ := lw_q hw hd1 hf1
  change ax_J _ _ _ _ _ _ _ _ _ 460 [some (.inr (.inr (some (90, 0)))), some (.inr (.inr (some (1, 0)))), some (.inr (.inr (some (50, 0)))), some (.inl i)] [.inl (fLast g (sX xs (i + 1)))] (P, g1, r, n)
  refine aj_run (C := (-2147483648 ≤ i + 1 ∧ i + 1 ≤ 2147483647) ∧ True) (pc' := 465) (la' := [some (.inr (.inr (some (90, 0)))), some (.inr (.inr (some (1, 0)))), some (.inr (.inr (some (50, 0)))), some (.inl i)]) (st' := [.inl (i + 1), .inr (.inr (some (90, 0))), .inr (.inr (some (50, 0))), .inl (fLast g (sX xs (i + 1)))]) (M' := (P, g1, r, n)) ok_L_law true 5 rfl (by refine ⟨?_, trivial⟩ <;> (omega)) ?_
  refine aj_sld (i := i + 1) ⟨by omega, by omega⟩ (ax_dec2 (i := .iaload) (n := 1) ok_L_law rfl) ?_
  change ax_J _ _ _ _ _ _ _ _ _ 466 [some (.inr (.inr (some (90, 0)))), some (.inr (.inr (some (1, 0)))), some (.inr (.inr (some (50, 0)))), some (.inl i)] [.inl (sX xs (i + 1)), .inr (.inr (some (50, 0))), .inl (fLast g (sX xs (i + 1)))] (P, g1, r, n)
  refine aj_callV (av := [.inl (sX xs (i + 1))]) (st := [.inl (fLast g (sX xs (i + 1)))]) (f := 50) (o := 0) (ci := 11) cal_X11_last lk_12_56 ins_X11_last rfl sel_X11_last rfl (fun c9 h9 _ => by simpa [ax_ok] using h9) (sp_last (sX xs (i + 1)) _ _ _ _ hn hO1) ⟨by decide, by decide, by show _ ≤ 600000; omega, by show _ ≤ 7302250; omega⟩ (Nat.le_of_ble_eq_true rfl) (ax_dec2 (i := .invokevirtual 56) (n := 3) ok_L_law rfl) (fun r M' hq => ?_)
  obtain ⟨rfl, g2, rfl, hk2⟩ := hq
  have heq : fLast g (sX xs (i + 1)) = fLast g1 (sX xs (i + 1)) := (fLast_q _ hE1).symm
  change ax_J _ _ _ _ _ _ _ _ _ 469 [some (.inr (.inr (some (90, 0)))), some (.inr (.inr (some (1, 0)))), some (.inr (.inr (some (50, 0)))), some (.inl i)] [.inl (fLast g1 (sX xs (i + 1))), .inl (fLast g (sX xs (i + 1)))] (P, g2, r, n)
  refine aj_icmp_eq (tgt := 1072) (ax_dec2 (i := .if_icmp .eq 603) (n := 3) ok_L_law rfl) (by decide) (fun c1 => ?_) (fun c1 => ?_)
  · refine aj_run (C := (-2147483648 ≤ i + 6 ∧ i + 6 ≤ 2147483647) ∧ True) (pc' := 18) (la' := [some (.inr (.inr (some (90, 0)))), some (.inr (.inr (some (1, 0)))), some (.inr (.inr (some (50, 0)))), some (.inl (i + 6))]) (st' := []) (M' := (P, g2, r, n)) ok_L_law true 2 rfl (by refine ⟨?_, trivial⟩ <;> (omega)) ?_
    refine aj_wide (kc' := kc + 24) (ks' := ks + 648) (by omega) (by omega) ?_
    exact hk _ _ _ _ (lwI_q hI hw1 hf1 hk2)
  · exact absurd c1 (by exact fun z => z heq)
