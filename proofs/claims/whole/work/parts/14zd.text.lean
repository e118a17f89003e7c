/-! ===== a text of the class ===== -/
theorem txt_eq {P : Nat → Int → Prop} {r0 : Nat → Int → Int → Option (Nat × Int)} {n : Nat → Int → Int} {g h : Nat → Int → Int → Int} (hw : cWd P r0 n g h) : (rSZ (tT (g 302 0) (g 3 0 0)) (tV (g 302 0) (g 3 0 0)) (tkP (g 302 0) (g 3 0 0)) (tkN (g 302 0) (g 3 0 0))) = (rSZ (tT (h 108 0) (h 50 0 9)) (tV (h 108 0) (h 50 0 9)) (tkP (h 108 0) (h 50 0 9)) (tkN (h 108 0) (h 50 0 9))) ∧ rRo (tT (g 302 0) (g 3 0 0)) (tV (g 302 0) (g 3 0 0)) (tkP (g 302 0) (g 3 0 0)) (tkN (g 302 0) (g 3 0 0)) = rRo (tT (h 108 0) (h 50 0 9)) (tV (h 108 0) (h 50 0 9)) (tkP (h 108 0) (h 50 0 9)) (tkN (h 108 0) (h 50 0 9)) := by
  obtain ⟨e9, m0, m1⟩ := hw.2.2.2.2.2.2.2.1
  have hB := hw.2.2.2.2.2.2.2.2
  have hB : ∀ i, 0 ≤ i → i < h 50 0 9 → g 302 0 i = h 108 0 i := fun i z1 z2 => (hB i z1 z2).1
  rw [e9, tT_c m0 hB, show tkP (g 302 0) (h 50 0 9) = tkP (h 108 0) (h 50 0 9) from funext (tkP_c m0 hB), tkN_c m0 hB]
  have hV : ∀ i, tT (h 108 0) (h 50 0 9) i ≠ 0 → tV (g 302 0) (h 50 0 9) i = tV (h 108 0) (h 50 0 9) i := fun i z => tV_c m0 hB (by rw [tT_c m0 hB]; exact z)
  exact ⟨rSZ_v hV, rRo_v hV⟩
def cXt (P : Nat → Int → Prop) (g : Nat → Int → Int → Int) (n : Nat → Int → Int) (t : Int) (P' : Nat → Int → Prop) (g' : Nat → Int → Int → Int) (r' : Nat → Int → Int → Option (Nat × Int)) (n' : Nat → Int → Int) : Prop := (∀ f o, P f o → P' f o) ∧ (∀ f o, P' f o → P f o ∨ (((f = 6 ∨ (600 ≤ f ∧ f ≤ 604)) ∧ o = t) ∧ g' 1 0 4 = t + 1)) ∧ cFr TCl g' g ∧ g' 2 0 11 = g 2 0 11 ∧ ax_nd (P', g', r', n') ∧ ∀ f o, ¬ (f = 6 ∨ (600 ≤ f ∧ f ≤ 604) ∨ 999 < f) → n' f o = n f o
theorem yTx_k {h h' : Nat → Int → Int → Int} (y : cFr (fun f o j => TA (h 50 0 10) f o j ∨ (f = 50 ∧ o = 0 ∧ (j = 9 ∨ j = 10))) h' h) : (∀ f, (102 < f ∧ f < 108) ∨ (150 < f ∧ f < 158) → h' f = h f) ∧ (∀ j, (0 ≤ j ∧ j ≤ 2) ∨ j = 11 ∨ (46 ≤ j ∧ j ≤ 50) → h' 50 0 j = h 50 0 j) ∧ wRws h' h (h 50 0 10) :=
  ⟨fun f z => funext fun o => funext fun j => y f o j (by unfold TA TN; omega), fun j z => y 50 0 j (by unfold TA TN; omega), fun row z1 z2 => ⟨y 113 0 row (by unfold TA TN; omega), fun k z3 z4 => y 112 0 _ (by unfold TA TN; omega)⟩⟩
set_option maxRecDepth 100000 in
set_option maxHeartbeats 4000000 in
theorem cp_text (P : Nat → Int → Prop) (g : Nat → Int → Int → Int) (r0 : Nat → Int → Int → Option (Nat × Int)) (n : Nat → Int → Int) (h : Nat → Int → Int → Int) (hw : cWd P r0 n g h) (hst : 0 ≤ g 2 0 11 ∧ g 2 0 11 ≤ 100000) (hS : cStr P) (hfr : ¬ P 6 (h 50 0 10) ∧ ∀ k : Nat, 600 ≤ k → k ≤ 604 → ¬ P k (h 50 0 10)) (hp : ∀ f o, P f o → f < 999) (hnd : ax_nd (P, g, r0, n)) : ax_S yX10_text cX10_text 2 (some FieldType.int) 41 6 648 [.inr (.inr (some (1, 0)))] (P, g, r0, n) (fun r M' => ∃ ρ0, r = some (.inl ρ0) ∧ ∃ P' g' r' n', M' = (P', g', r', n') ∧ cXt P g n (h 50 0 10) P' g' r' n' ∧ ∀ h' ρ, yTx h h' ρ → r = some (.inl ρ) ∧ cWd P' r' n' g' h') := by
  have hs := cWd_sta hw
  have hT := hw.2.2.1
  have hTp := hw.2.2.2.2.2.2
  have hT2 := hT.2.1
  have hTp2 := hTp.2.1
  have hAs := hs.1.1
  have hPs := hs.1.2.1
  have hOs := hs.1.2.2
  have hP1 := hPs.1
  have hA1 := hAs.1
  have hsz := hOs.2.2.1
  have hxz := hPs.1.1
  have hkk : 2 ≤ g 2 0 2 ∧ g 2 0 2 ≤ 40 := by rw [hP1.2.1]; exact hOs.1
  have hst2 : 0 ≤ g 2 0 11 ∧ g 2 0 11 ≤ 1000000 := by omega
  have hRT : r0 1 0 1 = some (3, 0) ∧ P 3 0 := ⟨hT.1.2.1.1, hT.1.2.1.2⟩
  obtain ⟨eZ, eR⟩ := txt_eq hw
  have h10c := hOs.2.2.2.1
  refine ax_S_of (own := 10) (by decide) rfl (fun h => absurd h (by decide)) rfl (Nat.le_of_ble_eq_true rfl) ?_
  change ax_J _ _ _ _ _ _ _ _ _ _ [some (.inr (.inr (some (1, 0)))), none] _ _
  refine aj_run (C := True) (pc' := 6) (la' := [some (.inr (.inr (some (1, 0)))), none]) (st' := [.inl 6, .inl (g 1 0 4)]) (M' := (P, g, r0, n)) ok_X10_text true 3 rfl trivial ?_
  refine aj_icmp_lt (tgt := 12) (ax_dec2 (i := .if_icmp .lt 6) (n := 3) ok_X10_text rfl) (by decide) (fun c1 => ?_) (fun c1 => ?_)
  · refine aj_run (C := True) (pc' := 13) (la' := [some (.inr (.inr (some (1, 0)))), none]) (st' := [.inr (.inr (some (1, 0)))]) (M' := (P, g, r0, n)) ok_X10_text true 1 rfl trivial ?_
    refine aj_getR (f := 1) (k := 1) (g := 3) (o := 0) (u := 0) (ax_lk_ok (q := (1, 1)) rfl) rfl rfl hRT.1 hRT.2 (ax_dec2 (i := .getfield 19) (n := 3) ok_X10_text rfl) ?_
    refine aj_callV (av := []) (st := []) (f := 3) (o := 0) (ci := 8) cal_X8_read lk_10_56 ins_X8_read rfl sel_X8_read rfl (fun c9 h9 _ => by simpa [ax_ok] using h9) (cp_read (h 50 0 10) _ _ _ _ hTp.1 (by omega) hS hfr (fun f o z => by have := hp f o z; omega) hnd) ⟨by decide, by decide, by decide, by decide⟩ (Nat.le_of_ble_eq_true rfl) (ax_dec2 (i := .invokevirtual 56) (n := 3) ok_X10_text rfl) (fun r M' hq => ?_)
    obtain ⟨hz, rfl, g3, rfl, fr3, h31⟩ | ⟨hz, rfl, P8, g8, r8, n8, rfl, hru⟩ := hq
    · rw [eZ] at hz h31
      change ax_J _ _ _ _ _ _ _ _ _ 19 [some (.inr (.inr (some (1, 0)))), none] [.inr (.inr none)] (P, g3, r0, n)
      refine aj_astore_nN (i := 1) rfl (ax_dec2 (i := .astore_n 1) (n := 1) ok_X10_text rfl) (by decide) rfl ?_
      change ax_J _ _ _ _ _ _ _ _ _ 20 [some (.inr (.inr (some (1, 0)))), some (.inr (.inr none))] [] (P, g3, r0, n)
      refine aj_run (C := True) (pc' := 21) (la' := [some (.inr (.inr (some (1, 0)))), some (.inr (.inr none))]) (st' := [.inr (.inr (some (1, 0)))]) (M' := (P, g3, r0, n)) ok_X10_text true 1 rfl trivial ?_
      refine aj_getR (f := 1) (k := 1) (g := 3) (o := 0) (u := 0) (ax_lk_ok (q := (1, 1)) rfl) rfl rfl hRT.1 hRT.2 (ax_dec2 (i := .getfield 19) (n := 3) ok_X10_text rfl) ?_
      refine aj_run (C := True) (pc' := 28) (la' := [some (.inr (.inr (some (1, 0)))), some (.inr (.inr none))]) (st' := []) (M' := (P, ax_u3 g3 3 0 0 0, r0, n)) ok_X10_text true 2 rfl trivial ?_
      refine aj_aload_nN (i := 1) rfl (ax_dec2 (i := .aload_n 1) (n := 1) ok_X10_text rfl) rfl ?_
      change ax_J _ _ _ _ _ _ _ _ _ 29 [some (.inr (.inr (some (1, 0)))), some (.inr (.inr none))] [.inr (.inr none)] (P, ax_u3 g3 3 0 0 0, r0, n)
      refine aj_ifnnN (ax_dec2 (i := .ifnonnull 14) (n := 3) ok_X10_text rfl) ?_
      change ax_J _ _ _ _ _ _ _ _ _ 32 [some (.inr (.inr (some (1, 0)))), some (.inr (.inr none))] [] (P, ax_u3 g3 3 0 0 0, r0, n)
      refine aj_run (C := True) (pc' := 35) (la' := [some (.inr (.inr (some (1, 0)))), some (.inr (.inr none))]) (st' := [.inr (.inr (some (1, 0))), .inl (-100)]) (M' := (P, ax_u3 g3 3 0 0 0, r0, n)) ok_X10_text true 2 rfl trivial ?_
      refine aj_getR (f := 1) (k := 1) (g := 3) (o := 0) (u := 0) (ax_lk_ok (q := (1, 1)) rfl) rfl rfl hRT.1 hRT.2 (ax_dec2 (i := .getfield 19) (n := 3) ok_X10_text rfl) ?_
      refine aj_run (C := True) (pc' := 41) (la' := [some (.inr (.inr (some (1, 0)))), some (.inr (.inr none))]) (st' := [.inl (g3 3 0 1), .inl (-100)]) (M' := (P, ax_u3 g3 3 0 0 0, r0, n)) ok_X10_text true 1 rfl trivial ?_
      refine aj_run (C := True) (pc' := 42) (la' := [some (.inr (.inr (some (1, 0)))), some (.inr (.inr none))]) (st' := [.inl (Int.bmod ((-100) - (g3 3 0 1)) 4294967296)]) (M' := (P, ax_u3 g3 3 0 0 0, r0, n)) ok_X10_text false 1 rfl trivial ?_
      refine aj_ret (r := some (.inl (Int.bmod ((-100) - (g3 3 0 1)) 4294967296))) (ax_dec2 (i := .ireturn) (n := 1) ok_X10_text rfl) ⟨?_, ?_, by decide, by decide⟩ rfl
      · refine ⟨_, rfl, P, _, r0, n, rfl, ⟨fun _ _ z => z, fun _ _ z => Or.inl z, fun f o j z => (ax_u3_n (by unfold TCl at z; omega)).trans (fr3 f o j (by unfold TCl at z; unfold TRx; omega)), (ax_u3_n (by omega)).trans (fr3 2 0 11 (by unfold TRx; omega)), hnd, fun _ _ _ => rfl⟩, fun h' ρ hx => ?_⟩
        obtain ⟨y1, yb, y2, y3, y4⟩ := hx.2 (by omega)
        obtain ⟨rfl, y5⟩ := y3 hz
        obtain ⟨k1, k2, k3⟩ := yTx_k y1
        exact ⟨ax_si (by rw [h31, ax_bm (by omega)]), cWd_tp hw (fun f o j z => (ax_u3_n (by omega)).trans (fr3 f o j (by unfold TRx; omega))) k1 (fun j z => by by_cases c10 : j = 10; (rw [c10]; exact y5); exact k2 j (by omega)) k3 ⟨hTp.1, ⟨by rw [ax_u3_s, y2], by rw [y2]; decide, by rw [y2]; decide⟩, fun i z1 z2 => by rw [y2] at z2; omega⟩⟩
      · exact ax_ro_i
    · rw [eZ] at hz
      rw [eZ, eR] at hru
      have hru1 := hru.1
      have hru2 := hru.2.1.2
      have hru3 := hru.2.2.1.2.2
      have hru4 := hru.2.2.2.1
      have hRT : r8 1 0 1 = some (3, 0) ∧ P8 3 0 := ⟨(hru4 1 0 1 (by omega)).trans hRT.1, (hru1 3 0).mpr (Or.inl hRT.2)⟩
      have f104 : g8 1 0 4 = h 50 0 10 := (hru3 1 0 4 (by unfold TRx; omega)).trans hT2.1
      have n702 : n8 702 0 = 6 := (hru2 702 0 (by omega)).trans hT.1.2.2
      have p6 : P8 6 (h 50 0 10) := (hru1 6 _).mpr (Or.inr ⟨Or.inl rfl, rfl⟩)
      change ax_J _ _ _ _ _ _ _ _ _ 19 [some (.inr (.inr (some (1, 0)))), none] [.inr (.inr (some (6, (h 50 0 10))))] (P8, g8, r8, n8)
      refine aj_run (C := True) (pc' := 21) (la' := [some (.inr (.inr (some (1, 0)))), some (.inr (.inr (some (6, (h 50 0 10)))))]) (st' := [.inr (.inr (some (1, 0)))]) (M' := (P8, g8, r8, n8)) ok_X10_text true 2 rfl trivial ?_
      refine aj_getR (f := 1) (k := 1) (g := 3) (o := 0) (u := 0) (ax_lk_ok (q := (1, 1)) rfl) rfl rfl hRT.1 hRT.2 (ax_dec2 (i := .getfield 19) (n := 3) ok_X10_text rfl) ?_
      refine aj_run (C := True) (pc' := 29) (la' := [some (.inr (.inr (some (1, 0)))), some (.inr (.inr (some (6, (h 50 0 10)))))]) (st' := [.inr (.inr (some (6, (h 50 0 10))))]) (M' := (P8, ax_u3 g8 3 0 0 0, r8, n8)) ok_X10_text true 3 rfl trivial ?_
      refine aj_ifnn (tgt := 43) (ax_dec2 (i := .ifnonnull 14) (n := 3) ok_X10_text rfl) (by decide) ?_
      change ax_J _ _ _ _ _ _ _ _ _ 43 [some (.inr (.inr (some (1, 0)))), some (.inr (.inr (some (6, (h 50 0 10)))))] [] (P8, ax_u3 g8 3 0 0 0, r8, n8)
      refine aj_run (C := True) (pc' := 51) (la' := [some (.inr (.inr (some (1, 0)))), some (.inr (.inr (some (6, (h 50 0 10)))))]) (st' := [.inl (g8 1 0 4), .inr (.inr (some (702, 0)))]) (M' := (P8, ax_u3 g8 3 0 0 0, r8, n8)) ok_X10_text true 4 rfl trivial ?_
      refine aj_cast rfl (congrArg (fun (z9 : Int) => ([.inl z9, .inr (.inr (some (702, 0)))] : List ax_V)) (show g8 1 0 4 = h 50 0 10 from f104)) rfl ?_
      change ax_J _ _ _ _ _ _ _ _ _ 51 [some (.inr (.inr (some (1, 0)))), some (.inr (.inr (some (6, (h 50 0 10)))))] [.inl (h 50 0 10), .inr (.inr (some (702, 0)))] (P8, ax_u3 g8 3 0 0 0, r8, n8)
      refine aj_run (C := True) (pc' := 52) (la' := [some (.inr (.inr (some (1, 0)))), some (.inr (.inr (some (6, (h 50 0 10)))))]) (st' := [.inr (.inr (some (6, (h 50 0 10)))), .inl (h 50 0 10), .inr (.inr (some (702, 0)))]) (M' := (P8, ax_u3 g8 3 0 0 0, r8, n8)) ok_X10_text true 1 rfl trivial ?_
      refine aj_aast (f := 702) (g := 6) (ci := 4) (E := "AntsTurn$Rule") rfl rfl rfl rfl (fun c9 h9 _ => by simpa [ax_ok] using h9) rfl (Or.inl rfl) ⟨by omega, by show h 50 0 10 < n8 702 0; omega⟩ (ax_dec2 (i := .aastore) (n := 1) ok_X10_text rfl) ?_
      change ax_J _ _ _ _ _ _ _ _ _ 53 [some (.inr (.inr (some (1, 0)))), some (.inr (.inr (some (6, (h 50 0 10)))))] [] (P8, ax_u3 g8 3 0 0 0, ax_u3 r8 702 0 (h 50 0 10) (some (6, (h 50 0 10))), n8)
      refine aj_run (C := (-2147483648 ≤ (g8 1 0 4) + 1 ∧ (g8 1 0 4) + 1 ≤ 2147483647) ∧ (-2147483648 ≤ ((g8 1 0 4) + 1) - 1 ∧ ((g8 1 0 4) + 1) - 1 ≤ 2147483647) ∧ True) (pc' := 69) (la' := [some (.inr (.inr (some (1, 0)))), some (.inr (.inr (some (6, (h 50 0 10)))))]) (st' := [.inl (((g8 1 0 4) + 1) - 1)]) (M' := (P8, ax_u3 (ax_u3 g8 3 0 0 0) 1 0 4 ((g8 1 0 4) + 1), ax_u3 r8 702 0 (h 50 0 10) (some (6, (h 50 0 10))), n8)) ok_X10_text true 10 rfl (by refine ⟨?_, ?_, trivial⟩ <;> (omega)) ?_
      refine aj_ret (r := some (.inl (((g8 1 0 4) + 1) - 1))) (ax_dec2 (i := .ireturn) (n := 1) ok_X10_text rfl) ⟨?_, ?_, by decide, by decide⟩ rfl
      · refine ⟨_, rfl, P8, _, _, n8, rfl, ⟨fun f o z => (hru1 f o).mpr (Or.inl z), fun f o z => ((hru1 f o).mp z).imp id (fun y => ⟨y, by rw [ax_u3_s, f104]⟩), fun f o j z => (ax_u3_n (by unfold TCl at z; omega)).trans ((ax_u3_n (by unfold TCl at z; omega)).trans (hru3 f o j (by unfold TCl at z; unfold TRx; omega))), (ax_u3_n (by omega)).trans ((ax_u3_n (by omega)).trans (hru3 2 0 11 (by unfold TRx; omega))), fun f o j q z1 z2 => ax_nd_uR (M := (P8, g8, r8, n8)) (f := 702) (o := 0) (j := h 50 0 10) (q := (6, h 50 0 10)) hru.2.2.2.2 p6 f o j q z1 z2, fun f o z => hru2 f o (by omega)⟩, fun h' ρ hx => ?_⟩
        obtain ⟨y1, yb, y2, y3, y4⟩ := hx.2 (by omega)
        obtain ⟨rfl, y5, y6⟩ := y4 hz
        obtain ⟨k1, k2, k3⟩ := yTx_k y1
        have hm0 := hTp2.2.1
        obtain ⟨u1, u2⟩ := rul_ok (G := ax_u3 (ax_u3 g8 3 0 0 0) 1 0 4 ((g8 1 0 4) + 1)) (h' := h') (tT_N hm0) (tkN_in hm0).1.1 hz hru (fun f j z1 z2 => (ax_u3_n (by omega)).trans (ax_u3_n (by omega))) y6
        exact ⟨ax_si (by omega), cWd_add hw rfl (by omega) (fun f o z => (hru1 f o).mpr (Or.inl z)) p6 (fun f o j z => (ax_u3_n (by omega)).trans (hru4 f o j (by omega))) ax_u3_s (fun f o z => hru2 f o (by omega)) (fun f o j z => (ax_u3_n (by omega)).trans ((ax_u3_n (by omega)).trans (hru3 f o j (by unfold TRx; omega)))) (by rw [ax_u3_s, f104]) ((ax_u3_n (by omega)).trans ax_u3_s) k1 k2 y5 y2 k3 u1 u2⟩
      · exact ax_ro_i
  · refine aj_run (C := True) (pc' := 11) (la' := [some (.inr (.inr (some (1, 0)))), none]) (st' := [.inl (-4)]) (M' := (P, g, r0, n)) ok_X10_text true 1 rfl trivial ?_
    refine aj_ret (r := some (.inl (-4))) (ax_dec2 (i := .ireturn) (n := 1) ok_X10_text rfl) ⟨?_, ?_, by decide, by decide⟩ rfl
    · exact ⟨_, rfl, P, g, r0, n, rfl, ⟨fun _ _ z => z, fun _ _ z => Or.inl z, fun _ _ _ _ => rfl, rfl, hnd, fun _ _ _ => rfl⟩, fun h' ρ hx => by obtain ⟨rfl, rfl⟩ := hx.1 (by omega); exact ⟨rfl, hw⟩⟩
    · exact ax_ro_i

