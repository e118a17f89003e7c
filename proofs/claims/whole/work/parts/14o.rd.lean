/-! ===== reading of the class: the methods that call each other ===== -/
theorem rLp_x {T : Int → Int} {ops : Int → Bool} {sub : rdF} {r : Int × rdS} (h : ops (T r.2.1) = false) : ∀ k, rLp T ops sub k r = r
  | 0 => rfl
  | k + 1 => by
    show (if ops (T r.2.1) = true then _ else r) = r
    rw [if_neg (by rw [h]; decide)]
theorem rLp_k {T : Int → Int} {ops : Int → Bool} {sub : rdF} {r : Int × rdS} {k : Int} (h : ops (T r.2.1) = true) (hk : k < 160) : rLp T ops sub (160 - k).toNat r = rLp T ops sub (160 - (k + 1)).toNat (rNd (T r.2.1) r.1 (sub (rAdv r.2)).1 (sub (rAdv r.2)).2) := by
  rw [show (160 - k).toNat = (160 - (k + 1)).toNat + 1 by omega]
  show (if ops (T r.2.1) = true then _ else r) = _
  rw [if_pos h]
theorem rLp_e0 {T : Int → Int} {ops : Int → Bool} {sub : rdF} {r : Int × rdS} {k : Int} (hk : ¬ k < 160) : rLp T ops sub (160 - k).toNat r = r := by
  rw [show (160 - k).toNat = 0 by omega]
  rfl
set_option maxRecDepth 100000 in
set_option maxHeartbeats 4000000 in
theorem cp_readTerm {T V p : Int → Int} {N : Int} {D : Nat} {op : Int} {one : rdF} (hD : 3 ≤ D) (hreadOne : cRdS T V p N yX8_readOne cX8_readOne 4 D op one) : cRdS T V p N yX8_readTerm cX8_readTerm 4 (D + 1) op (rTerm T one) := by
  intro s P g r0 n hn hr
  obtain ⟨n302, n303, n304, n305, n308, n309, n310, n311⟩ := id hn
  obtain ⟨hTs, hr7, hr12, hrl, hr1⟩ := id hr
  obtain ⟨hN, hT6, hT0, hTi⟩ := id hTs
  have htk := cRd_t hr
  refine ax_S_of (own := 8) (by decide) rfl (fun h => absurd h (by decide)) rfl (Nat.le_of_ble_eq_true rfl) ?_
  change ax_J _ _ _ _ _ _ _ _ _ _ [some (.inr (.inr (some (3, 0)))), some (.inl op), none, none] _ _
  refine aj_run (C := True) (pc' := 2) (la' := [some (.inr (.inr (some (3, 0)))), some (.inl op), none, none]) (st' := [.inl op, .inr (.inr (some (3, 0)))]) (M' := (P, g, r0, n)) ok_X8_readTerm true 2 rfl trivial ?_
  refine aj_callV (av := [.inl op]) (st := []) (f := 3) (o := 0) (ci := 8) cal_X8_readOne lk_8_156 ins_X8_readOne rfl sel_X8_readOne rfl (fun c9 h9 _ => by simpa [ax_ok] using h9) (hreadOne s _ _ _ _ hn hr) ⟨by show _ ≤ D + 1; omega, by show _ ≤ 64 * (D + 1); omega, Nat.le_refl 0, Nat.le_refl 0⟩ (Nat.le_of_ble_eq_true rfl) (ax_dec2 (i := .invokevirtual 156) (n := 3) ok_X8_readTerm rfl) (fun r M' hq => ?_)
  obtain ⟨rfl, g101, rfl, fr101, hr1⟩ := hq
  have fs1 := cFr_t fr101 (fun _ _ _ _ => rfl)
  change ax_J _ _ _ _ _ _ _ _ _ 5 [some (.inr (.inr (some (3, 0)))), some (.inl op), none, none] [.inl ((one s).1)] (P, g101, r0, n)
  refine aj_run (C := True) (pc' := 8) (la' := [some (.inr (.inr (some (3, 0)))), some (.inl op), some (.inl ((one s).1)), some (.inl 0)]) (st' := []) (M' := (P, g101, r0, n)) ok_X8_readTerm true 3 rfl trivial ?_
  refine aj_loop (σ := (Int) × (Int) × (Nat → Int → Int → Int)) (fun xL => 0 ≤ xL.1 ∧ xL.1 ≤ 160 ∧ cFr TRd xL.2.2 g ∧ ∃ st : rdS, cRd T V p N xL.2.2 st ∧ rLp T oTi one (160 - xL.1).toNat (xL.2.1, st) = rLp T oTi one 160 (one s)) (fun xL => (160 - xL.1).toNat) (fun xL => [some (.inr (.inr (some (3, 0)))), some (.inl op), some (.inl xL.2.1), some (.inl xL.1)]) (fun xL => []) (fun xL => (P, xL.2.2, r0, n)) ?_ (0, (one s).1, g101) ?_
  rotate_left
  · (try dsimp only); exact ⟨by omega, by omega, fs1, _, hr1, rfl⟩
  rintro ⟨k, x, g1⟩ hI ih8
  try dsimp only at hI ih8
  obtain ⟨i1, i2, i3, st, i4, i5⟩ := hI
  change ax_J _ _ _ _ _ _ _ _ _ 8 [some (.inr (.inr (some (3, 0)))), some (.inl op), some (.inl x), some (.inl k)] [] (P, g1, r0, n)
  refine aj_run (C := True) (pc' := 12) (la' := [some (.inr (.inr (some (3, 0)))), some (.inl op), some (.inl x), some (.inl k)]) (st' := [.inl 160, .inl k]) (M' := (P, g1, r0, n)) ok_X8_readTerm true 2 rfl trivial ?_
  refine aj_icmp_ge (tgt := 43) (ax_dec2 (i := .if_icmp .ge 31) (n := 3) ok_X8_readTerm rfl) (by decide) (fun c1 => ?_) (fun c1 => ?_)
  · refine aj_run (C := True) (pc' := 44) (la' := [some (.inr (.inr (some (3, 0)))), some (.inl op), some (.inl x), some (.inl k)]) (st' := [.inl x]) (M' := (P, g1, r0, n)) ok_X8_readTerm true 1 rfl trivial ?_
    refine aj_ret (r := some (.inl x)) (ax_dec2 (i := .ireturn) (n := 1) ok_X8_readTerm rfl) ⟨?_, ?_, by decide, by decide⟩ rfl
    · (have hz : rLp T oTi one 160 (one s) = (x, st) := (by rw [← i5]; exact rLp_e0 (by omega)); exact ⟨ax_si (by show x = (rLp T oTi one 160 (one s)).1; rw [hz]), g1, rfl, i3, by show cRd T V p N g1 (rLp T oTi one 160 (one s)).2; rw [hz]; exact i4⟩)
    · exact ax_ro_i
  · refine aj_run (C := True) (pc' := 18) (la' := [some (.inr (.inr (some (3, 0)))), some (.inl op), some (.inl x), some (.inl k)]) (st' := [.inl 42, .inr (.inr (some (3, 0)))]) (M' := (P, g1, r0, n)) ok_X8_readTerm true 2 rfl trivial ?_
    refine aj_callV (av := [.inl 42]) (st := []) (f := 3) (o := 0) (ci := 8) cal_X8_takes lk_8_141 ins_X8_takes rfl sel_X8_takes rfl (fun c9 h9 _ => by simpa [ax_ok] using h9) (cp_takes 42 st _ _ _ _ hn i4 (by decide)) ⟨by show _ ≤ D + 1; omega, by show _ ≤ 64 * (D + 1); omega, Nat.le_refl 0, Nat.le_refl 0⟩ (Nat.le_of_ble_eq_true rfl) (ax_dec2 (i := .invokevirtual 141) (n := 3) ok_X8_readTerm rfl) (fun r M' hq => ?_)
    obtain ⟨rfl, rfl⟩ := hq
    by_cases ht2 : T st.1 = 42
    · rw [bI_t ht2, if_pos ht2]
      have hr3 := cRd_adv i4 ht2 (by decide)
      change ax_J _ _ _ _ _ _ _ _ _ 21 [some (.inr (.inr (some (3, 0)))), some (.inl op), some (.inl x), some (.inl k)] [.inl 1] (P, ax_u3 g1 3 0 7 (g1 3 0 7 + 1), r0, n)
      refine aj_if_eq (tgt := 43) (ax_dec2 (i := .ifCond .eq 22) (n := 3) ok_X8_readTerm rfl) (by decide) (fun c2 => ?_) (fun c2 => ?_)
      · exact absurd c2 (by omega)
      · refine aj_run (C := True) (pc' := 30) (la' := [some (.inr (.inr (some (3, 0)))), some (.inl op), some (.inl x), some (.inl k)]) (st' := [.inl op, .inr (.inr (some (3, 0))), .inl x, .inl 42, .inr (.inr (some (3, 0)))]) (M' := (P, ax_u3 g1 3 0 7 (g1 3 0 7 + 1), r0, n)) ok_X8_readTerm true 5 rfl trivial ?_
        refine aj_callV (av := [.inl op]) (st := [.inl x, .inl 42, .inr (.inr (some (3, 0)))]) (f := 3) (o := 0) (ci := 8) cal_X8_readOne lk_8_156 ins_X8_readOne rfl sel_X8_readOne rfl (fun c9 h9 _ => by simpa [ax_ok] using h9) (hreadOne (rAdv st) _ _ _ _ hn hr3) ⟨by show _ ≤ D + 1; omega, by show _ ≤ 64 * (D + 1); omega, Nat.le_refl 0, Nat.le_refl 0⟩ (Nat.le_of_ble_eq_true rfl) (ax_dec2 (i := .invokevirtual 156) (n := 3) ok_X8_readTerm rfl) (fun r M' hq => ?_)
        obtain ⟨rfl, g104, rfl, fr104, hr4⟩ := hq
        have fs4 := cFr_t fr104 (cFr_t fr7 i3)
        change ax_J _ _ _ _ _ _ _ _ _ 33 [some (.inr (.inr (some (3, 0)))), some (.inl op), some (.inl x), some (.inl k)] [.inl ((one (rAdv st)).1), .inl x, .inl 42, .inr (.inr (some (3, 0)))] (P, g104, r0, n)
        refine aj_callV (av := [.inl 42, .inl x, .inl ((one (rAdv st)).1)]) (st := []) (f := 3) (o := 0) (ci := 8) cal_X8_node lk_8_144 ins_X8_node rfl sel_X8_node rfl (fun c9 h9 _ => by simpa [ax_ok] using h9) (cp_node 42 x ((one (rAdv st)).1) ((one (rAdv st)).2) _ _ _ _ hn hr4) ⟨by show _ ≤ D + 1; omega, by show _ ≤ 64 * (D + 1); omega, Nat.le_refl 0, Nat.le_refl 0⟩ (Nat.le_of_ble_eq_true rfl) (ax_dec2 (i := .invokevirtual 144) (n := 3) ok_X8_readTerm rfl) (fun r M' hq => ?_)
        obtain ⟨rfl, g105, rfl, fr105, hr5⟩ := hq
        have fs5 := cFr_t fr105 fs4
        change ax_J _ _ _ _ _ _ _ _ _ 36 [some (.inr (.inr (some (3, 0)))), some (.inl op), some (.inl x), some (.inl k)] [.inl ((rNd 42 x ((one (rAdv st)).1) ((one (rAdv st)).2)).1)] (P, g105, r0, n)
        refine aj_run (C := (-2147483648 ≤ k + 1 ∧ k + 1 ≤ 2147483647) ∧ True) (pc' := 8) (la' := [some (.inr (.inr (some (3, 0)))), some (.inl op), some (.inl ((rNd 42 x ((one (rAdv st)).1) ((one (rAdv st)).2)).1)), some (.inl (k + 1))]) (st' := []) (M' := (P, g105, r0, n)) ok_X8_readTerm true 3 rfl (by refine ⟨?_, trivial⟩ <;> (omega)) ?_
        refine ih8 (k + 1, (rNd 42 x ((one (rAdv st)).1) ((one (rAdv st)).2)).1, g105) ?_ ?_
        · (try dsimp only); exact ⟨by omega, by omega, fs5, _, hr5, by rw [← i5, rLp_k (r := (x, st)) (by show oTi (T st.1) = true; rw [ht2]; rfl) (by omega)]; show _ = rLp _ _ _ _ (rNd (T st.1) x _ _); rw [ht2]⟩
        · omega
    · rw [bI_f ht2, if_neg ht2]
      change ax_J _ _ _ _ _ _ _ _ _ 21 [some (.inr (.inr (some (3, 0)))), some (.inl op), some (.inl x), some (.inl k)] [.inl 0] (P, g1, r0, n)
      refine aj_if_eq (tgt := 43) (ax_dec2 (i := .ifCond .eq 22) (n := 3) ok_X8_readTerm rfl) (by decide) (fun c3 => ?_) (fun c3 => ?_)
      · refine aj_run (C := True) (pc' := 44) (la' := [some (.inr (.inr (some (3, 0)))), some (.inl op), some (.inl x), some (.inl k)]) (st' := [.inl x]) (M' := (P, g1, r0, n)) ok_X8_readTerm true 1 rfl trivial ?_
        refine aj_ret (r := some (.inl x)) (ax_dec2 (i := .ireturn) (n := 1) ok_X8_readTerm rfl) ⟨?_, ?_, by decide, by decide⟩ rfl
        · (have hz : rLp T oTi one 160 (one s) = (x, st) := (by rw [← i5]; exact rLp_x (r := (x, st)) (by show oTi (T st.1) = false; exact beq_eq_false_iff_ne.mpr ht2) _); exact ⟨ax_si (by show x = (rLp T oTi one 160 (one s)).1; rw [hz]), g1, rfl, i3, by show cRd T V p N g1 (rLp T oTi one 160 (one s)).2; rw [hz]; exact i4⟩)
        · exact ax_ro_i
      · exact absurd c3 (by omega)

set_option maxRecDepth 100000 in
set_option maxHeartbeats 4000000 in
theorem cp_readSum {T V p : Int → Int} {N : Int} {D : Nat} {op : Int} {one : rdF} (hD : 3 ≤ D) (hreadTerm : cRdS T V p N yX8_readTerm cX8_readTerm 4 D op (rTerm T one)) : cRdS T V p N yX8_readSum cX8_readSum 5 (D + 1) op (rSum T one) := by
  intro s P g r0 n hn hr
  obtain ⟨n302, n303, n304, n305, n308, n309, n310, n311⟩ := id hn
  obtain ⟨hTs, hr7, hr12, hrl, hr1⟩ := id hr
  obtain ⟨hN, hT6, hT0, hTi⟩ := id hTs
  have htk := cRd_t hr
  refine ax_S_of (own := 8) (by decide) rfl (fun h => absurd h (by decide)) rfl (Nat.le_of_ble_eq_true rfl) ?_
  change ax_J _ _ _ _ _ _ _ _ _ _ [some (.inr (.inr (some (3, 0)))), some (.inl op), none, none, none] _ _
  refine aj_run (C := True) (pc' := 2) (la' := [some (.inr (.inr (some (3, 0)))), some (.inl op), none, none, none]) (st' := [.inl op, .inr (.inr (some (3, 0)))]) (M' := (P, g, r0, n)) ok_X8_readSum true 2 rfl trivial ?_
  refine aj_callV (av := [.inl op]) (st := []) (f := 3) (o := 0) (ci := 8) cal_X8_readTerm lk_8_153 ins_X8_readTerm rfl sel_X8_readTerm rfl (fun c9 h9 _ => by simpa [ax_ok] using h9) (hreadTerm s _ _ _ _ hn hr) ⟨by show _ ≤ D + 1; omega, by show _ ≤ 64 * (D + 1); omega, Nat.le_refl 0, Nat.le_refl 0⟩ (Nat.le_of_ble_eq_true rfl) (ax_dec2 (i := .invokevirtual 153) (n := 3) ok_X8_readSum rfl) (fun r M' hq => ?_)
  obtain ⟨rfl, g101, rfl, fr101, hr1⟩ := hq
  have fs1 := cFr_t fr101 (fun _ _ _ _ => rfl)
  change ax_J _ _ _ _ _ _ _ _ _ 5 [some (.inr (.inr (some (3, 0)))), some (.inl op), none, none, none] [.inl ((rTerm T one s).1)] (P, g101, r0, n)
  refine aj_run (C := True) (pc' := 6) (la' := [some (.inr (.inr (some (3, 0)))), some (.inl op), some (.inl ((rTerm T one s).1)), none, none]) (st' := []) (M' := (P, g101, r0, n)) ok_X8_readSum true 1 rfl trivial ?_
  obtain ⟨-, hb2, -⟩ := id hr1
  refine aj_run (C := (0 ≤ g101 3 0 7 ∧ g101 3 0 7 < n 303 0) ∧ True) (pc' := 19) (la' := [some (.inr (.inr (some (3, 0)))), some (.inl op), some (.inl ((rTerm T one s).1)), some (.inl (g101 303 0 (g101 3 0 7))), some (.inl 0)]) (st' := []) (M' := (P, g101, r0, n)) ok_X8_readSum true 8 rfl (by refine ⟨?_, trivial⟩ <;> (omega)) ?_
  refine aj_loop (σ := (Int) × (Int) × (Int) × (Nat → Int → Int → Int)) (fun xL => 0 ≤ xL.1 ∧ xL.1 ≤ 160 ∧ cFr TRd xL.2.2.2 g ∧ ∃ st : rdS, cRd T V p N xL.2.2.2 st ∧ rLp T oPl (rTerm T one) (160 - xL.1).toNat (xL.2.1, st) = rLp T oPl (rTerm T one) 160 (rTerm T one s) ∧ xL.2.2.1 = T st.1) (fun xL => (160 - xL.1).toNat) (fun xL => [some (.inr (.inr (some (3, 0)))), some (.inl op), some (.inl xL.2.1), some (.inl xL.2.2.1), some (.inl xL.1)]) (fun xL => []) (fun xL => (P, xL.2.2.2, r0, n)) ?_ (0, (rTerm T one s).1, g101 303 0 (g101 3 0 7), g101) ?_
  rotate_left
  · (try dsimp only); exact ⟨by omega, by omega, fs1, _, hr1, rfl, (cRd_t hr1).1⟩
  rintro ⟨k, x, sg, g1⟩ hI ih19
  try dsimp only at hI ih19
  obtain ⟨i1, i2, i3, st, i4, i5, i6⟩ := hI
  change ax_J _ _ _ _ _ _ _ _ _ 19 [some (.inr (.inr (some (3, 0)))), some (.inl op), some (.inl x), some (.inl sg), some (.inl k)] [] (P, g1, r0, n)
  refine aj_run (C := True) (pc' := 24) (la' := [some (.inr (.inr (some (3, 0)))), some (.inl op), some (.inl x), some (.inl sg), some (.inl k)]) (st' := [.inl 160, .inl k]) (M' := (P, g1, r0, n)) ok_X8_readSum true 2 rfl trivial ?_
  refine aj_icmp_ge (tgt := 73) (ax_dec2 (i := .if_icmp .ge 49) (n := 3) ok_X8_readSum rfl) (by decide) (fun c1 => ?_) (fun c1 => ?_)
  · refine aj_run (C := True) (pc' := 74) (la' := [some (.inr (.inr (some (3, 0)))), some (.inl op), some (.inl x), some (.inl sg), some (.inl k)]) (st' := [.inl x]) (M' := (P, g1, r0, n)) ok_X8_readSum true 1 rfl trivial ?_
    refine aj_ret (r := some (.inl x)) (ax_dec2 (i := .ireturn) (n := 1) ok_X8_readSum rfl) ⟨?_, ?_, by decide, by decide⟩ rfl
    · (have hz : rLp T oPl (rTerm T one) 160 (rTerm T one s) = (x, st) := (by rw [← i5]; exact rLp_e0 (by omega)); exact ⟨ax_si (by show x = (rLp T oPl (rTerm T one) 160 (rTerm T one s)).1; rw [hz]), g1, rfl, i3, by show cRd T V p N g1 (rLp T oPl (rTerm T one) 160 (rTerm T one s)).2; rw [hz]; exact i4⟩)
    · exact ax_ro_i
  · refine aj_run (C := True) (pc' := 30) (la' := [some (.inr (.inr (some (3, 0)))), some (.inl op), some (.inl x), some (.inl sg), some (.inl k)]) (st' := [.inl 43, .inr (.inr (some (3, 0)))]) (M' := (P, g1, r0, n)) ok_X8_readSum true 2 rfl trivial ?_
    refine aj_callV (av := [.inl 43]) (st := []) (f := 3) (o := 0) (ci := 8) cal_X8_takes lk_8_141 ins_X8_takes rfl sel_X8_takes rfl (fun c9 h9 _ => by simpa [ax_ok] using h9) (cp_takes 43 st _ _ _ _ hn i4 (by decide)) ⟨by show _ ≤ D + 1; omega, by show _ ≤ 64 * (D + 1); omega, Nat.le_refl 0, Nat.le_refl 0⟩ (Nat.le_of_ble_eq_true rfl) (ax_dec2 (i := .invokevirtual 141) (n := 3) ok_X8_readSum rfl) (fun r M' hq => ?_)
    obtain ⟨rfl, rfl⟩ := hq
    by_cases ht3 : T st.1 = 43
    · rw [bI_t ht3, if_pos ht3]
      have hr4 := cRd_adv i4 ht3 (by decide)
      change ax_J _ _ _ _ _ _ _ _ _ 33 [some (.inr (.inr (some (3, 0)))), some (.inl op), some (.inl x), some (.inl sg), some (.inl k)] [.inl 1] (P, ax_u3 g1 3 0 7 (g1 3 0 7 + 1), r0, n)
      refine aj_if_ne (tgt := 45) (ax_dec2 (i := .ifCond .ne 12) (n := 3) ok_X8_readSum rfl) (by decide) (fun c2 => ?_) (fun c2 => ?_)
      · refine aj_run (C := True) (pc' := 50) (la' := [some (.inr (.inr (some (3, 0)))), some (.inl op), some (.inl x), some (.inl sg), some (.inl k)]) (st' := [.inl op, .inr (.inr (some (3, 0))), .inl x, .inl sg, .inr (.inr (some (3, 0)))]) (M' := (P, ax_u3 g1 3 0 7 (g1 3 0 7 + 1), r0, n)) ok_X8_readSum true 5 rfl trivial ?_
        refine aj_callV (av := [.inl op]) (st := [.inl x, .inl sg, .inr (.inr (some (3, 0)))]) (f := 3) (o := 0) (ci := 8) cal_X8_readTerm lk_8_153 ins_X8_readTerm rfl sel_X8_readTerm rfl (fun c9 h9 _ => by simpa [ax_ok] using h9) (hreadTerm (rAdv st) _ _ _ _ hn hr4) ⟨by show _ ≤ D + 1; omega, by show _ ≤ 64 * (D + 1); omega, Nat.le_refl 0, Nat.le_refl 0⟩ (Nat.le_of_ble_eq_true rfl) (ax_dec2 (i := .invokevirtual 153) (n := 3) ok_X8_readSum rfl) (fun r M' hq => ?_)
        obtain ⟨rfl, g105, rfl, fr105, hr5⟩ := hq
        have fs5 := cFr_t fr105 (cFr_t fr7 i3)
        change ax_J _ _ _ _ _ _ _ _ _ 53 [some (.inr (.inr (some (3, 0)))), some (.inl op), some (.inl x), some (.inl sg), some (.inl k)] [.inl ((rTerm T one (rAdv st)).1), .inl x, .inl sg, .inr (.inr (some (3, 0)))] (P, g105, r0, n)
        refine aj_callV (av := [.inl sg, .inl x, .inl ((rTerm T one (rAdv st)).1)]) (st := []) (f := 3) (o := 0) (ci := 8) cal_X8_node lk_8_144 ins_X8_node rfl sel_X8_node rfl (fun c9 h9 _ => by simpa [ax_ok] using h9) (cp_node sg x ((rTerm T one (rAdv st)).1) ((rTerm T one (rAdv st)).2) _ _ _ _ hn hr5) ⟨by show _ ≤ D + 1; omega, by show _ ≤ 64 * (D + 1); omega, Nat.le_refl 0, Nat.le_refl 0⟩ (Nat.le_of_ble_eq_true rfl) (ax_dec2 (i := .invokevirtual 144) (n := 3) ok_X8_readSum rfl) (fun r M' hq => ?_)
        obtain ⟨rfl, g106, rfl, fr106, hr6⟩ := hq
        have fs6 := cFr_t fr106 fs5
        change ax_J _ _ _ _ _ _ _ _ _ 56 [some (.inr (.inr (some (3, 0)))), some (.inl op), some (.inl x), some (.inl sg), some (.inl k)] [.inl ((rNd sg x ((rTerm T one (rAdv st)).1) ((rTerm T one (rAdv st)).2)).1)] (P, g106, r0, n)
        refine aj_run (C := True) (pc' := 57) (la' := [some (.inr (.inr (some (3, 0)))), some (.inl op), some (.inl ((rNd sg x ((rTerm T one (rAdv st)).1) ((rTerm T one (rAdv st)).2)).1)), some (.inl sg), some (.inl k)]) (st' := []) (M' := (P, g106, r0, n)) ok_X8_readSum true 1 rfl trivial ?_
        obtain ⟨-, hb7, -⟩ := id hr6
        refine aj_run (C := (0 ≤ g106 3 0 7 ∧ g106 3 0 7 < n 303 0) ∧ (-2147483648 ≤ k + 1 ∧ k + 1 ≤ 2147483647) ∧ True) (pc' := 19) (la' := [some (.inr (.inr (some (3, 0)))), some (.inl op), some (.inl ((rNd sg x ((rTerm T one (rAdv st)).1) ((rTerm T one (rAdv st)).2)).1)), some (.inl (g106 303 0 (g106 3 0 7))), some (.inl (k + 1))]) (st' := []) (M' := (P, g106, r0, n)) ok_X8_readSum true 8 rfl (by refine ⟨?_, ?_, trivial⟩ <;> (omega)) ?_
        refine ih19 (k + 1, (rNd sg x ((rTerm T one (rAdv st)).1) ((rTerm T one (rAdv st)).2)).1, g106 303 0 (g106 3 0 7), g106) ?_ ?_
        · (try dsimp only); exact ⟨by omega, by omega, fs6, _, hr6, by rw [← i5, rLp_k (r := (x, st)) (by show oPl (T st.1) = true; rw [ht3]; rfl) (by omega)]; show _ = rLp _ _ _ _ (rNd (T st.1) x _ _); rw [i6], (cRd_t hr6).1⟩
        · omega
      · exact absurd c2 (by omega)
    · rw [bI_f ht3, if_neg ht3]
      change ax_J _ _ _ _ _ _ _ _ _ 33 [some (.inr (.inr (some (3, 0)))), some (.inl op), some (.inl x), some (.inl sg), some (.inl k)] [.inl 0] (P, g1, r0, n)
      refine aj_if_ne (tgt := 45) (ax_dec2 (i := .ifCond .ne 12) (n := 3) ok_X8_readSum rfl) (by decide) (fun c3 => ?_) (fun c3 => ?_)
      · exact absurd c3 (by omega)
      · refine aj_run (C := True) (pc' := 39) (la' := [some (.inr (.inr (some (3, 0)))), some (.inl op), some (.inl x), some (.inl sg), some (.inl k)]) (st' := [.inl 45, .inr (.inr (some (3, 0)))]) (M' := (P, g1, r0, n)) ok_X8_readSum true 2 rfl trivial ?_
        refine aj_callV (av := [.inl 45]) (st := []) (f := 3) (o := 0) (ci := 8) cal_X8_takes lk_8_141 ins_X8_takes rfl sel_X8_takes rfl (fun c9 h9 _ => by simpa [ax_ok] using h9) (cp_takes 45 st _ _ _ _ hn i4 (by decide)) ⟨by show _ ≤ D + 1; omega, by show _ ≤ 64 * (D + 1); omega, Nat.le_refl 0, Nat.le_refl 0⟩ (Nat.le_of_ble_eq_true rfl) (ax_dec2 (i := .invokevirtual 141) (n := 3) ok_X8_readSum rfl) (fun r M' hq => ?_)
        obtain ⟨rfl, rfl⟩ := hq
        by_cases ht8 : T st.1 = 45
        · rw [bI_t ht8, if_pos ht8]
          have hr9 := cRd_adv i4 ht8 (by decide)
          change ax_J _ _ _ _ _ _ _ _ _ 42 [some (.inr (.inr (some (3, 0)))), some (.inl op), some (.inl x), some (.inl sg), some (.inl k)] [.inl 1] (P, ax_u3 g1 3 0 7 (g1 3 0 7 + 1), r0, n)
          refine aj_if_eq (tgt := 73) (ax_dec2 (i := .ifCond .eq 31) (n := 3) ok_X8_readSum rfl) (by decide) (fun c4 => ?_) (fun c4 => ?_)
          · exact absurd c4 (by omega)
          · refine aj_run (C := True) (pc' := 50) (la' := [some (.inr (.inr (some (3, 0)))), some (.inl op), some (.inl x), some (.inl sg), some (.inl k)]) (st' := [.inl op, .inr (.inr (some (3, 0))), .inl x, .inl sg, .inr (.inr (some (3, 0)))]) (M' := (P, ax_u3 g1 3 0 7 (g1 3 0 7 + 1), r0, n)) ok_X8_readSum true 5 rfl trivial ?_
            refine aj_callV (av := [.inl op]) (st := [.inl x, .inl sg, .inr (.inr (some (3, 0)))]) (f := 3) (o := 0) (ci := 8) cal_X8_readTerm lk_8_153 ins_X8_readTerm rfl sel_X8_readTerm rfl (fun c9 h9 _ => by simpa [ax_ok] using h9) (hreadTerm (rAdv st) _ _ _ _ hn hr9) ⟨by show _ ≤ D + 1; omega, by show _ ≤ 64 * (D + 1); omega, Nat.le_refl 0, Nat.le_refl 0⟩ (Nat.le_of_ble_eq_true rfl) (ax_dec2 (i := .invokevirtual 153) (n := 3) ok_X8_readSum rfl) (fun r M' hq => ?_)
            obtain ⟨rfl, g110, rfl, fr110, hr10⟩ := hq
            have fs10 := cFr_t fr110 (cFr_t fr7 i3)
            change ax_J _ _ _ _ _ _ _ _ _ 53 [some (.inr (.inr (some (3, 0)))), some (.inl op), some (.inl x), some (.inl sg), some (.inl k)] [.inl ((rTerm T one (rAdv st)).1), .inl x, .inl sg, .inr (.inr (some (3, 0)))] (P, g110, r0, n)
            refine aj_callV (av := [.inl sg, .inl x, .inl ((rTerm T one (rAdv st)).1)]) (st := []) (f := 3) (o := 0) (ci := 8) cal_X8_node lk_8_144 ins_X8_node rfl sel_X8_node rfl (fun c9 h9 _ => by simpa [ax_ok] using h9) (cp_node sg x ((rTerm T one (rAdv st)).1) ((rTerm T one (rAdv st)).2) _ _ _ _ hn hr10) ⟨by show _ ≤ D + 1; omega, by show _ ≤ 64 * (D + 1); omega, Nat.le_refl 0, Nat.le_refl 0⟩ (Nat.le_of_ble_eq_true rfl) (ax_dec2 (i := .invokevirtual 144) (n := 3) ok_X8_readSum rfl) (fun r M' hq => ?_)
            obtain ⟨rfl, g111, rfl, fr111, hr11⟩ := hq
            have fs11 := cFr_t fr111 fs10
            change ax_J _ _ _ _ _ _ _ _ _ 56 [some (.inr (.inr (some (3, 0)))), some (.inl op), some (.inl x), some (.inl sg), some (.inl k)] [.inl ((rNd sg x ((rTerm T one (rAdv st)).1) ((rTerm T one (rAdv st)).2)).1)] (P, g111, r0, n)
            refine aj_run (C := True) (pc' := 57) (la' := [some (.inr (.inr (some (3, 0)))), some (.inl op), some (.inl ((rNd sg x ((rTerm T one (rAdv st)).1) ((rTerm T one (rAdv st)).2)).1)), some (.inl sg), some (.inl k)]) (st' := []) (M' := (P, g111, r0, n)) ok_X8_readSum true 1 rfl trivial ?_
            obtain ⟨-, hb12, -⟩ := id hr11
            refine aj_run (C := (0 ≤ g111 3 0 7 ∧ g111 3 0 7 < n 303 0) ∧ (-2147483648 ≤ k + 1 ∧ k + 1 ≤ 2147483647) ∧ True) (pc' := 19) (la' := [some (.inr (.inr (some (3, 0)))), some (.inl op), some (.inl ((rNd sg x ((rTerm T one (rAdv st)).1) ((rTerm T one (rAdv st)).2)).1)), some (.inl (g111 303 0 (g111 3 0 7))), some (.inl (k + 1))]) (st' := []) (M' := (P, g111, r0, n)) ok_X8_readSum true 8 rfl (by refine ⟨?_, ?_, trivial⟩ <;> (omega)) ?_
            refine ih19 (k + 1, (rNd sg x ((rTerm T one (rAdv st)).1) ((rTerm T one (rAdv st)).2)).1, g111 303 0 (g111 3 0 7), g111) ?_ ?_
            · (try dsimp only); exact ⟨by omega, by omega, fs11, _, hr11, by rw [← i5, rLp_k (r := (x, st)) (by show oPl (T st.1) = true; rw [ht8]; rfl) (by omega)]; show _ = rLp _ _ _ _ (rNd (T st.1) x _ _); rw [i6], (cRd_t hr11).1⟩
            · omega
        · rw [bI_f ht8, if_neg ht8]
          change ax_J _ _ _ _ _ _ _ _ _ 42 [some (.inr (.inr (some (3, 0)))), some (.inl op), some (.inl x), some (.inl sg), some (.inl k)] [.inl 0] (P, g1, r0, n)
          refine aj_if_eq (tgt := 73) (ax_dec2 (i := .ifCond .eq 31) (n := 3) ok_X8_readSum rfl) (by decide) (fun c5 => ?_) (fun c5 => ?_)
          · refine aj_run (C := True) (pc' := 74) (la' := [some (.inr (.inr (some (3, 0)))), some (.inl op), some (.inl x), some (.inl sg), some (.inl k)]) (st' := [.inl x]) (M' := (P, g1, r0, n)) ok_X8_readSum true 1 rfl trivial ?_
            refine aj_ret (r := some (.inl x)) (ax_dec2 (i := .ireturn) (n := 1) ok_X8_readSum rfl) ⟨?_, ?_, by decide, by decide⟩ rfl
            · (have hz : rLp T oPl (rTerm T one) 160 (rTerm T one s) = (x, st) := (by rw [← i5]; exact rLp_x (r := (x, st)) (by show oPl (T st.1) = false; unfold oPl; rw [beq_eq_false_iff_ne.mpr ht3, beq_eq_false_iff_ne.mpr ht8]; rfl) _); exact ⟨ax_si (by show x = (rLp T oPl (rTerm T one) 160 (rTerm T one s)).1; rw [hz]), g1, rfl, i3, by show cRd T V p N g1 (rLp T oPl (rTerm T one) 160 (rTerm T one s)).2; rw [hz]; exact i4⟩)
            · exact ax_ro_i
          · exact absurd c5 (by omega)

set_option maxRecDepth 100000 in
set_option maxHeartbeats 4000000 in
theorem cp_readBoth {T V p : Int → Int} {N : Int} {D : Nat} {op : Int} {nt : rdF} (hD : 3 ≤ D) (hreadNot : cRdS T V p N yX8_readNot cX8_readNot 4 D op nt) : cRdS T V p N yX8_readBoth cX8_readBoth 4 (D + 1) op (rBoth T nt) := by
  intro s P g r0 n hn hr
  obtain ⟨n302, n303, n304, n305, n308, n309, n310, n311⟩ := id hn
  obtain ⟨hTs, hr7, hr12, hrl, hr1⟩ := id hr
  obtain ⟨hN, hT6, hT0, hTi⟩ := id hTs
  have htk := cRd_t hr
  refine ax_S_of (own := 8) (by decide) rfl (fun h => absurd h (by decide)) rfl (Nat.le_of_ble_eq_true rfl) ?_
  change ax_J _ _ _ _ _ _ _ _ _ _ [some (.inr (.inr (some (3, 0)))), some (.inl op), none, none] _ _
  refine aj_run (C := True) (pc' := 2) (la' := [some (.inr (.inr (some (3, 0)))), some (.inl op), none, none]) (st' := [.inl op, .inr (.inr (some (3, 0)))]) (M' := (P, g, r0, n)) ok_X8_readBoth true 2 rfl trivial ?_
  refine aj_callV (av := [.inl op]) (st := []) (f := 3) (o := 0) (ci := 8) cal_X8_readNot lk_8_147 ins_X8_readNot rfl sel_X8_readNot rfl (fun c9 h9 _ => by simpa [ax_ok] using h9) (hreadNot s _ _ _ _ hn hr) ⟨by show _ ≤ D + 1; omega, by show _ ≤ 64 * (D + 1); omega, Nat.le_refl 0, Nat.le_refl 0⟩ (Nat.le_of_ble_eq_true rfl) (ax_dec2 (i := .invokevirtual 147) (n := 3) ok_X8_readBoth rfl) (fun r M' hq => ?_)
  obtain ⟨rfl, g101, rfl, fr101, hr1⟩ := hq
  have fs1 := cFr_t fr101 (fun _ _ _ _ => rfl)
  change ax_J _ _ _ _ _ _ _ _ _ 5 [some (.inr (.inr (some (3, 0)))), some (.inl op), none, none] [.inl ((nt s).1)] (P, g101, r0, n)
  refine aj_run (C := True) (pc' := 8) (la' := [some (.inr (.inr (some (3, 0)))), some (.inl op), some (.inl ((nt s).1)), some (.inl 0)]) (st' := []) (M' := (P, g101, r0, n)) ok_X8_readBoth true 3 rfl trivial ?_
  refine aj_loop (σ := (Int) × (Int) × (Nat → Int → Int → Int)) (fun xL => 0 ≤ xL.1 ∧ xL.1 ≤ 160 ∧ cFr TRd xL.2.2 g ∧ ∃ st : rdS, cRd T V p N xL.2.2 st ∧ rLp T oAn nt (160 - xL.1).toNat (xL.2.1, st) = rLp T oAn nt 160 (nt s)) (fun xL => (160 - xL.1).toNat) (fun xL => [some (.inr (.inr (some (3, 0)))), some (.inl op), some (.inl xL.2.1), some (.inl xL.1)]) (fun xL => []) (fun xL => (P, xL.2.2, r0, n)) ?_ (0, (nt s).1, g101) ?_
  rotate_left
  · (try dsimp only); exact ⟨by omega, by omega, fs1, _, hr1, rfl⟩
  rintro ⟨k, x, g1⟩ hI ih8
  try dsimp only at hI ih8
  obtain ⟨i1, i2, i3, st, i4, i5⟩ := hI
  change ax_J _ _ _ _ _ _ _ _ _ 8 [some (.inr (.inr (some (3, 0)))), some (.inl op), some (.inl x), some (.inl k)] [] (P, g1, r0, n)
  refine aj_run (C := True) (pc' := 12) (la' := [some (.inr (.inr (some (3, 0)))), some (.inl op), some (.inl x), some (.inl k)]) (st' := [.inl 160, .inl k]) (M' := (P, g1, r0, n)) ok_X8_readBoth true 2 rfl trivial ?_
  refine aj_icmp_ge (tgt := 43) (ax_dec2 (i := .if_icmp .ge 31) (n := 3) ok_X8_readBoth rfl) (by decide) (fun c1 => ?_) (fun c1 => ?_)
  · refine aj_run (C := True) (pc' := 44) (la' := [some (.inr (.inr (some (3, 0)))), some (.inl op), some (.inl x), some (.inl k)]) (st' := [.inl x]) (M' := (P, g1, r0, n)) ok_X8_readBoth true 1 rfl trivial ?_
    refine aj_ret (r := some (.inl x)) (ax_dec2 (i := .ireturn) (n := 1) ok_X8_readBoth rfl) ⟨?_, ?_, by decide, by decide⟩ rfl
    · (have hz : rLp T oAn nt 160 (nt s) = (x, st) := (by rw [← i5]; exact rLp_e0 (by omega)); exact ⟨ax_si (by show x = (rLp T oAn nt 160 (nt s)).1; rw [hz]), g1, rfl, i3, by show cRd T V p N g1 (rLp T oAn nt 160 (nt s)).2; rw [hz]; exact i4⟩)
    · exact ax_ro_i
  · refine aj_run (C := True) (pc' := 18) (la' := [some (.inr (.inr (some (3, 0)))), some (.inl op), some (.inl x), some (.inl k)]) (st' := [.inl 9, .inr (.inr (some (3, 0)))]) (M' := (P, g1, r0, n)) ok_X8_readBoth true 2 rfl trivial ?_
    refine aj_callV (av := [.inl 9]) (st := []) (f := 3) (o := 0) (ci := 8) cal_X8_takes lk_8_141 ins_X8_takes rfl sel_X8_takes rfl (fun c9 h9 _ => by simpa [ax_ok] using h9) (cp_takes 9 st _ _ _ _ hn i4 (by decide)) ⟨by show _ ≤ D + 1; omega, by show _ ≤ 64 * (D + 1); omega, Nat.le_refl 0, Nat.le_refl 0⟩ (Nat.le_of_ble_eq_true rfl) (ax_dec2 (i := .invokevirtual 141) (n := 3) ok_X8_readBoth rfl) (fun r M' hq => ?_)
    obtain ⟨rfl, rfl⟩ := hq
    by_cases ht2 : T st.1 = 9
    · rw [bI_t ht2, if_pos ht2]
      have hr3 := cRd_adv i4 ht2 (by decide)
      change ax_J _ _ _ _ _ _ _ _ _ 21 [some (.inr (.inr (some (3, 0)))), some (.inl op), some (.inl x), some (.inl k)] [.inl 1] (P, ax_u3 g1 3 0 7 (g1 3 0 7 + 1), r0, n)
      refine aj_if_eq (tgt := 43) (ax_dec2 (i := .ifCond .eq 22) (n := 3) ok_X8_readBoth rfl) (by decide) (fun c2 => ?_) (fun c2 => ?_)
      · exact absurd c2 (by omega)
      · refine aj_run (C := True) (pc' := 30) (la' := [some (.inr (.inr (some (3, 0)))), some (.inl op), some (.inl x), some (.inl k)]) (st' := [.inl op, .inr (.inr (some (3, 0))), .inl x, .inl 9, .inr (.inr (some (3, 0)))]) (M' := (P, ax_u3 g1 3 0 7 (g1 3 0 7 + 1), r0, n)) ok_X8_readBoth true 5 rfl trivial ?_
        refine aj_callV (av := [.inl op]) (st := [.inl x, .inl 9, .inr (.inr (some (3, 0)))]) (f := 3) (o := 0) (ci := 8) cal_X8_readNot lk_8_147 ins_X8_readNot rfl sel_X8_readNot rfl (fun c9 h9 _ => by simpa [ax_ok] using h9) (hreadNot (rAdv st) _ _ _ _ hn hr3) ⟨by show _ ≤ D + 1; omega, by show _ ≤ 64 * (D + 1); omega, Nat.le_refl 0, Nat.le_refl 0⟩ (Nat.le_of_ble_eq_true rfl) (ax_dec2 (i := .invokevirtual 147) (n := 3) ok_X8_readBoth rfl) (fun r M' hq => ?_)
        obtain ⟨rfl, g104, rfl, fr104, hr4⟩ := hq
        have fs4 := cFr_t fr104 (cFr_t fr7 i3)
        change ax_J _ _ _ _ _ _ _ _ _ 33 [some (.inr (.inr (some (3, 0)))), some (.inl op), some (.inl x), some (.inl k)] [.inl ((nt (rAdv st)).1), .inl x, .inl 9, .inr (.inr (some (3, 0)))] (P, g104, r0, n)
        refine aj_callV (av := [.inl 9, .inl x, .inl ((nt (rAdv st)).1)]) (st := []) (f := 3) (o := 0) (ci := 8) cal_X8_node lk_8_144 ins_X8_node rfl sel_X8_node rfl (fun c9 h9 _ => by simpa [ax_ok] using h9) (cp_node 9 x ((nt (rAdv st)).1) ((nt (rAdv st)).2) _ _ _ _ hn hr4) ⟨by show _ ≤ D + 1; omega, by show _ ≤ 64 * (D + 1); omega, Nat.le_refl 0, Nat.le_refl 0⟩ (Nat.le_of_ble_eq_true rfl) (ax_dec2 (i := .invokevirtual 144) (n := 3) ok_X8_readBoth rfl) (fun r M' hq => ?_)
        obtain ⟨rfl, g105, rfl, fr105, hr5⟩ := hq
        have fs5 := cFr_t fr105 fs4
        change ax_J _ _ _ _ _ _ _ _ _ 36 [some (.inr (.inr (some (3, 0)))), some (.inl op), some (.inl x), some (.inl k)] [.inl ((rNd 9 x ((nt (rAdv st)).1) ((nt (rAdv st)).2)).1)] (P, g105, r0, n)
        refine aj_run (C := (-2147483648 ≤ k + 1 ∧ k + 1 ≤ 2147483647) ∧ True) (pc' := 8) (la' := [some (.inr (.inr (some (3, 0)))), some (.inl op), some (.inl ((rNd 9 x ((nt (rAdv st)).1) ((nt (rAdv st)).2)).1)), some (.inl (k + 1))]) (st' := []) (M' := (P, g105, r0, n)) ok_X8_readBoth true 3 rfl (by refine ⟨?_, trivial⟩ <;> (omega)) ?_
        refine ih8 (k + 1, (rNd 9 x ((nt (rAdv st)).1) ((nt (rAdv st)).2)).1, g105) ?_ ?_
        · (try dsimp only); exact ⟨by omega, by omega, fs5, _, hr5, by rw [← i5, rLp_k (r := (x, st)) (by show oAn (T st.1) = true; rw [ht2]; rfl) (by omega)]; show _ = rLp _ _ _ _ (rNd (T st.1) x _ _); rw [ht2]⟩
        · omega
    · rw [bI_f ht2, if_neg ht2]
      change ax_J _ _ _ _ _ _ _ _ _ 21 [some (.inr (.inr (some (3, 0)))), some (.inl op), some (.inl x), some (.inl k)] [.inl 0] (P, g1, r0, n)
      refine aj_if_eq (tgt := 43) (ax_dec2 (i := .ifCond .eq 22) (n := 3) ok_X8_readBoth rfl) (by decide) (fun c3 => ?_) (fun c3 => ?_)
      · refine aj_run (C := True) (pc' := 44) (la' := [some (.inr (.inr (some (3, 0)))), some (.inl op), some (.inl x), some (.inl k)]) (st' := [.inl x]) (M' := (P, g1, r0, n)) ok_X8_readBoth true 1 rfl trivial ?_
        refine aj_ret (r := some (.inl x)) (ax_dec2 (i := .ireturn) (n := 1) ok_X8_readBoth rfl) ⟨?_, ?_, by decide, by decide⟩ rfl
        · (have hz : rLp T oAn nt 160 (nt s) = (x, st) := (by rw [← i5]; exact rLp_x (r := (x, st)) (by show oAn (T st.1) = false; exact beq_eq_false_iff_ne.mpr ht2) _); exact ⟨ax_si (by show x = (rLp T oAn nt 160 (nt s)).1; rw [hz]), g1, rfl, i3, by show cRd T V p N g1 (rLp T oAn nt 160 (nt s)).2; rw [hz]; exact i4⟩)
        · exact ax_ro_i
      · exact absurd c3 (by omega)

set_option maxRecDepth 100000 in
set_option maxHeartbeats 4000000 in
theorem cp_readEith {T V p : Int → Int} {N : Int} {D : Nat} {op : Int} {nt : rdF} (hD : 3 ≤ D) (hreadBoth : cRdS T V p N yX8_readBoth cX8_readBoth 4 D op (rBoth T nt)) : cRdS T V p N yX8_readEither cX8_readEither 4 (D + 1) op (rEith T nt) := by
  intro s P g r0 n hn hr
  obtain ⟨n302, n303, n304, n305, n308, n309, n310, n311⟩ := id hn
  obtain ⟨hTs, hr7, hr12, hrl, hr1⟩ := id hr
  obtain ⟨hN, hT6, hT0, hTi⟩ := id hTs
  have htk := cRd_t hr
  refine ax_S_of (own := 8) (by decide) rfl (fun h => absurd h (by decide)) rfl (Nat.le_of_ble_eq_true rfl) ?_
  change ax_J _ _ _ _ _ _ _ _ _ _ [some (.inr (.inr (some (3, 0)))), some (.inl op), none, none] _ _
  refine aj_run (C := True) (pc' := 2) (la' := [some (.inr (.inr (some (3, 0)))), some (.inl op), none, none]) (st' := [.inl op, .inr (.inr (some (3, 0)))]) (M' := (P, g, r0, n)) ok_X8_readEither true 2 rfl trivial ?_
  refine aj_callV (av := [.inl op]) (st := []) (f := 3) (o := 0) (ci := 8) cal_X8_readBoth lk_8_138 ins_X8_readBoth rfl sel_X8_readBoth rfl (fun c9 h9 _ => by simpa [ax_ok] using h9) (hreadBoth s _ _ _ _ hn hr) ⟨by show _ ≤ D + 1; omega, by show _ ≤ 64 * (D + 1); omega, Nat.le_refl 0, Nat.le_refl 0⟩ (Nat.le_of_ble_eq_true rfl) (ax_dec2 (i := .invokevirtual 138) (n := 3) ok_X8_readEither rfl) (fun r M' hq => ?_)
  obtain ⟨rfl, g101, rfl, fr101, hr1⟩ := hq
  have fs1 := cFr_t fr101 (fun _ _ _ _ => rfl)
  change ax_J _ _ _ _ _ _ _ _ _ 5 [some (.inr (.inr (some (3, 0)))), some (.inl op), none, none] [.inl (((rBoth T nt) s).1)] (P, g101, r0, n)
  refine aj_run (C := True) (pc' := 8) (la' := [some (.inr (.inr (some (3, 0)))), some (.inl op), some (.inl (((rBoth T nt) s).1)), some (.inl 0)]) (st' := []) (M' := (P, g101, r0, n)) ok_X8_readEither true 3 rfl trivial ?_
  refine aj_loop (σ := (Int) × (Int) × (Nat → Int → Int → Int)) (fun xL => 0 ≤ xL.1 ∧ xL.1 ≤ 160 ∧ cFr TRd xL.2.2 g ∧ ∃ st : rdS, cRd T V p N xL.2.2 st ∧ rLp T oOr (rBoth T nt) (160 - xL.1).toNat (xL.2.1, st) = rLp T oOr (rBoth T nt) 160 ((rBoth T nt) s)) (fun xL => (160 - xL.1).toNat) (fun xL => [some (.inr (.inr (some (3, 0)))), some (.inl op), some (.inl xL.2.1), some (.inl xL.1)]) (fun xL => []) (fun xL => (P, xL.2.2, r0, n)) ?_ (0, ((rBoth T nt) s).1, g101) ?_
  rotate_left
  · (try dsimp only); exact ⟨by omega, by omega, fs1, _, hr1, rfl⟩
  rintro ⟨k, x, g1⟩ hI ih8
  try dsimp only at hI ih8
  obtain ⟨i1, i2, i3, st, i4, i5⟩ := hI
  change ax_J _ _ _ _ _ _ _ _ _ 8 [some (.inr (.inr (some (3, 0)))), some (.inl op), some (.inl x), some (.inl k)] [] (P, g1, r0, n)
  refine aj_run (C := True) (pc' := 12) (la' := [some (.inr (.inr (some (3, 0)))), some (.inl op), some (.inl x), some (.inl k)]) (st' := [.inl 160, .inl k]) (M' := (P, g1, r0, n)) ok_X8_readEither true 2 rfl trivial ?_
  refine aj_icmp_ge (tgt := 43) (ax_dec2 (i := .if_icmp .ge 31) (n := 3) ok_X8_readEither rfl) (by decide) (fun c1 => ?_) (fun c1 => ?_)
  · refine aj_run (C := True) (pc' := 44) (la' := [some (.inr (.inr (some (3, 0)))), some (.inl op), some (.inl x), some (.inl k)]) (st' := [.inl x]) (M' := (P, g1, r0, n)) ok_X8_readEither true 1 rfl trivial ?_
    refine aj_ret (r := some (.inl x)) (ax_dec2 (i := .ireturn) (n := 1) ok_X8_readEither rfl) ⟨?_, ?_, by decide, by decide⟩ rfl
    · (have hz : rLp T oOr (rBoth T nt) 160 ((rBoth T nt) s) = (x, st) := (by rw [← i5]; exact rLp_e0 (by omega)); exact ⟨ax_si (by show x = (rLp T oOr (rBoth T nt) 160 ((rBoth T nt) s)).1; rw [hz]), g1, rfl, i3, by show cRd T V p N g1 (rLp T oOr (rBoth T nt) 160 ((rBoth T nt) s)).2; rw [hz]; exact i4⟩)
    · exact ax_ro_i
  · refine aj_run (C := True) (pc' := 18) (la' := [some (.inr (.inr (some (3, 0)))), some (.inl op), some (.inl x), some (.inl k)]) (st' := [.inl 8, .inr (.inr (some (3, 0)))]) (M' := (P, g1, r0, n)) ok_X8_readEither true 2 rfl trivial ?_
    refine aj_callV (av := [.inl 8]) (st := []) (f := 3) (o := 0) (ci := 8) cal_X8_takes lk_8_141 ins_X8_takes rfl sel_X8_takes rfl (fun c9 h9 _ => by simpa [ax_ok] using h9) (cp_takes 8 st _ _ _ _ hn i4 (by decide)) ⟨by show _ ≤ D + 1; omega, by show _ ≤ 64 * (D + 1); omega, Nat.le_refl 0, Nat.le_refl 0⟩ (Nat.le_of_ble_eq_true rfl) (ax_dec2 (i := .invokevirtual 141) (n := 3) ok_X8_readEither rfl) (fun r M' hq => ?_)
    obtain ⟨rfl, rfl⟩ := hq
    by_cases ht2 : T st.1 = 8
    · rw [bI_t ht2, if_pos ht2]
      have hr3 := cRd_adv i4 ht2 (by decide)
      change ax_J _ _ _ _ _ _ _ _ _ 21 [some (.inr (.inr (some (3, 0)))), some (.inl op), some (.inl x), some (.inl k)] [.inl 1] (P, ax_u3 g1 3 0 7 (g1 3 0 7 + 1), r0, n)
      refine aj_if_eq (tgt := 43) (ax_dec2 (i := .ifCond .eq 22) (n := 3) ok_X8_readEither rfl) (by decide) (fun c2 => ?_) (fun c2 => ?_)
      · exact absurd c2 (by omega)
      · refine aj_run (C := True) (pc' := 30) (la' := [some (.inr (.inr (some (3, 0)))), some (.inl op), some (.inl x), some (.inl k)]) (st' := [.inl op, .inr (.inr (some (3, 0))), .inl x, .inl 8, .inr (.inr (some (3, 0)))]) (M' := (P, ax_u3 g1 3 0 7 (g1 3 0 7 + 1), r0, n)) ok_X8_readEither true 5 rfl trivial ?_
        refine aj_callV (av := [.inl op]) (st := [.inl x, .inl 8, .inr (.inr (some (3, 0)))]) (f := 3) (o := 0) (ci := 8) cal_X8_readBoth lk_8_138 ins_X8_readBoth rfl sel_X8_readBoth rfl (fun c9 h9 _ => by simpa [ax_ok] using h9) (hreadBoth (rAdv st) _ _ _ _ hn hr3) ⟨by show _ ≤ D + 1; omega, by show _ ≤ 64 * (D + 1); omega, Nat.le_refl 0, Nat.le_refl 0⟩ (Nat.le_of_ble_eq_true rfl) (ax_dec2 (i := .invokevirtual 138) (n := 3) ok_X8_readEither rfl) (fun r M' hq => ?_)
        obtain ⟨rfl, g104, rfl, fr104, hr4⟩ := hq
        have fs4 := cFr_t fr104 (cFr_t fr7 i3)
        change ax_J _ _ _ _ _ _ _ _ _ 33 [some (.inr (.inr (some (3, 0)))), some (.inl op), some (.inl x), some (.inl k)] [.inl (((rBoth T nt) (rAdv st)).1), .inl x, .inl 8, .inr (.inr (some (3, 0)))] (P, g104, r0, n)
        refine aj_callV (av := [.inl 8, .inl x, .inl (((rBoth T nt) (rAdv st)).1)]) (st := []) (f := 3) (o := 0) (ci := 8) cal_X8_node lk_8_144 ins_X8_node rfl sel_X8_node rfl (fun c9 h9 _ => by simpa [ax_ok] using h9) (cp_node 8 x (((rBoth T nt) (rAdv st)).1) (((rBoth T nt) (rAdv st)).2) _ _ _ _ hn hr4) ⟨by show _ ≤ D + 1; omega, by show _ ≤ 64 * (D + 1); omega, Nat.le_refl 0, Nat.le_refl 0⟩ (Nat.le_of_ble_eq_true rfl) (ax_dec2 (i := .invokevirtual 144) (n := 3) ok_X8_readEither rfl) (fun r M' hq => ?_)
        obtain ⟨rfl, g105, rfl, fr105, hr5⟩ := hq
        have fs5 := cFr_t fr105 fs4
        change ax_J _ _ _ _ _ _ _ _ _ 36 [some (.inr (.inr (some (3, 0)))), some (.inl op), some (.inl x), some (.inl k)] [.inl ((rNd 8 x (((rBoth T nt) (rAdv st)).1) (((rBoth T nt) (rAdv st)).2)).1)] (P, g105, r0, n)
        refine aj_run (C := (-2147483648 ≤ k + 1 ∧ k + 1 ≤ 2147483647) ∧ True) (pc' := 8) (la' := [some (.inr (.inr (some (3, 0)))), some (.inl op), some (.inl ((rNd 8 x (((rBoth T nt) (rAdv st)).1) (((rBoth T nt) (rAdv st)).2)).1)), some (.inl (k + 1))]) (st' := []) (M' := (P, g105, r0, n)) ok_X8_readEither true 3 rfl (by refine ⟨?_, trivial⟩ <;> (omega)) ?_
        refine ih8 (k + 1, (rNd 8 x (((rBoth T nt) (rAdv st)).1) (((rBoth T nt) (rAdv st)).2)).1, g105) ?_ ?_
        · (try dsimp only); exact ⟨by omega, by omega, fs5, _, hr5, by rw [← i5, rLp_k (r := (x, st)) (by show oOr (T st.1) = true; rw [ht2]; rfl) (by omega)]; show _ = rLp _ _ _ _ (rNd (T st.1) x _ _); rw [ht2]⟩
        · omega
    · rw [bI_f ht2, if_neg ht2]
      change ax_J _ _ _ _ _ _ _ _ _ 21 [some (.inr (.inr (some (3, 0)))), some (.inl op), some (.inl x), some (.inl k)] [.inl 0] (P, g1, r0, n)
      refine aj_if_eq (tgt := 43) (ax_dec2 (i := .ifCond .eq 22) (n := 3) ok_X8_readEither rfl) (by decide) (fun c3 => ?_) (fun c3 => ?_)
      · refine aj_run (C := True) (pc' := 44) (la' := [some (.inr (.inr (some (3, 0)))), some (.inl op), some (.inl x), some (.inl k)]) (st' := [.inl x]) (M' := (P, g1, r0, n)) ok_X8_readEither true 1 rfl trivial ?_
        refine aj_ret (r := some (.inl x)) (ax_dec2 (i := .ireturn) (n := 1) ok_X8_readEither rfl) ⟨?_, ?_, by decide, by decide⟩ rfl
        · (have hz : rLp T oOr (rBoth T nt) 160 ((rBoth T nt) s) = (x, st) := (by rw [← i5]; exact rLp_x (r := (x, st)) (by show oOr (T st.1) = false; exact beq_eq_false_iff_ne.mpr ht2) _); exact ⟨ax_si (by show x = (rLp T oOr (rBoth T nt) 160 ((rBoth T nt) s)).1; rw [hz]), g1, rfl, i3, by show cRd T V p N g1 (rLp T oOr (rBoth T nt) 160 ((rBoth T nt) s)).2; rw [hz]; exact i4⟩)
        · exact ax_ro_i
      · exact absurd c3 (by omega)

set_option maxRecDepth 100000 in
set_option maxHeartbeats 4000000 in
theorem cp_readNot0 {T V p : Int → Int} {N : Int} {D : Nat} {op : Int} {one : rdF} (hD : 3 ≤ D) (hop : 5 ≤ op) (hreadSum : cRdS T V p N yX8_readSum cX8_readSum 5 D op (rSum T one)) : cRdS T V p N yX8_readNot cX8_readNot 4 (D + 1) op (rNot T p N none one) := by
  intro s P g r0 n hn hr
  obtain ⟨n302, n303, n304, n305, n308, n309, n310, n311⟩ := id hn
  obtain ⟨hTs, hr7, hr12, hrl, hr1⟩ := id hr
  obtain ⟨hN, hT6, hT0, hTi⟩ := id hTs
  have htk := cRd_t hr
  refine ax_S_of (own := 8) (by decide) rfl (fun h => absurd h (by decide)) rfl (Nat.le_of_ble_eq_true rfl) ?_
  change ax_J _ _ _ _ _ _ _ _ _ _ [some (.inr (.inr (some (3, 0)))), some (.inl op), none, none] _ _
  refine aj_run (C := (0 ≤ g 3 0 7 ∧ g 3 0 7 < n 303 0) ∧ True) (pc' := 11) (la' := [some (.inr (.inr (some (3, 0)))), some (.inl op), none, none]) (st' := [.inl 10, .inl (g 303 0 (g 3 0 7))]) (M' := (P, g, r0, n)) ok_X8_readNot true 6 rfl (by refine ⟨?_, trivial⟩ <;> (omega)) ?_
  refine aj_icmp_ne (tgt := 49) (ax_dec2 (i := .if_icmp .ne 38) (n := 3) ok_X8_readNot rfl) (by decide) (fun c1 => ?_) (fun c1 => ?_)
  · refine aj_run (C := True) (pc' := 51) (la' := [some (.inr (.inr (some (3, 0)))), some (.inl op), none, none]) (st' := [.inl op, .inr (.inr (some (3, 0)))]) (M' := (P, g, r0, n)) ok_X8_readNot true 2 rfl trivial ?_
    refine aj_callV (av := [.inl op]) (st := []) (f := 3) (o := 0) (ci := 8) cal_X8_readSum lk_8_150 ins_X8_readSum rfl sel_X8_readSum rfl (fun c9 h9 _ => by simpa [ax_ok] using h9) (hreadSum s _ _ _ _ hn hr) ⟨by show _ ≤ D + 1; omega, by show _ ≤ 64 * (D + 1); omega, Nat.le_refl 0, Nat.le_refl 0⟩ (Nat.le_of_ble_eq_true rfl) (ax_dec2 (i := .invokevirtual 150) (n := 3) ok_X8_readNot rfl) (fun r M' hq => ?_)
    obtain ⟨rfl, g101, rfl, fr101, hr1⟩ := hq
    have fs1 := cFr_t fr101 (fun _ _ _ _ => rfl)
    change ax_J _ _ _ _ _ _ _ _ _ 54 [some (.inr (.inr (some (3, 0)))), some (.inl op), none, none] [.inl ((rSum T one s).1)] (P, g101, r0, n)
    refine aj_run (C := True) (pc' := 55) (la' := [some (.inr (.inr (some (3, 0)))), some (.inl op), some (.inl ((rSum T one s).1)), none]) (st' := []) (M' := (P, g101, r0, n)) ok_X8_readNot true 1 rfl trivial ?_
    have hrS := hr1
    obtain ⟨-, hbS, -⟩ := id hrS
    refine aj_run (C := (0 ≤ g101 3 0 7 ∧ g101 3 0 7 < n 303 0) ∧ True) (pc' := 68) (la' := [some (.inr (.inr (some (3, 0)))), some (.inl op), some (.inl ((rSum T one s).1)), some (.inl (g101 303 0 (g101 3 0 7)))]) (st' := [.inl 60, .inr (.inr (some (3, 0)))]) (M' := (P, g101, r0, n)) ok_X8_readNot true 8 rfl (by refine ⟨?_, trivial⟩ <;> (omega)) ?_
    refine aj_callV (av := [.inl 60]) (st := []) (f := 3) (o := 0) (ci := 8) cal_X8_takes lk_8_141 ins_X8_takes rfl sel_X8_takes rfl (fun c9 h9 _ => by simpa [ax_ok] using h9) (cp_takes 60 ((rSum T one s).2) _ _ _ _ hn hr1 (by decide)) ⟨by show _ ≤ D + 1; omega, by show _ ≤ 64 * (D + 1); omega, Nat.le_refl 0, Nat.le_refl 0⟩ (Nat.le_of_ble_eq_true rfl) (ax_dec2 (i := .invokevirtual 141) (n := 3) ok_X8_readNot rfl) (fun r M' hq => ?_)
    obtain ⟨rfl, rfl⟩ := hq
    by_cases ht2 : T ((rSum T one s).2).1 = 60
    · rw [bI_t ht2, if_pos ht2]
      have hr3 := cRd_adv hr1 ht2 (by decide)
      change ax_J _ _ _ _ _ _ _ _ _ 71 [some (.inr (.inr (some (3, 0)))), some (.inl op), some (.inl ((rSum T one s).1)), some (.inl (g101 303 0 (g101 3 0 7)))] [.inl 1] (P, ax_u3 g101 3 0 7 (g101 3 0 7 + 1), r0, n)
      refine aj_if_ne (tgt := 83) (ax_dec2 (i := .ifCond .ne 12) (n := 3) ok_X8_readNot rfl) (by decide) (fun c2 => ?_) (fun c2 => ?_)
      · refine aj_run (C := True) (pc' := 88) (la' := [some (.inr (.inr (some (3, 0)))), some (.inl op), some (.inl ((rSum T one s).1)), some (.inl (g101 303 0 (g101 3 0 7)))]) (st' := [.inl op, .inr (.inr (some (3, 0))), .inl ((rSum T one s).1), .inl (g101 303 0 (g101 3 0 7)), .inr (.inr (some (3, 0)))]) (M' := (P, ax_u3 g101 3 0 7 (g101 3 0 7 + 1), r0, n)) ok_X8_readNot true 5 rfl trivial ?_
        refine aj_callV (av := [.inl op]) (st := [.inl ((rSum T one s).1), .inl (g101 303 0 (g101 3 0 7)), .inr (.inr (some (3, 0)))]) (f := 3) (o := 0) (ci := 8) cal_X8_readSum lk_8_150 ins_X8_readSum rfl sel_X8_readSum rfl (fun c9 h9 _ => by simpa [ax_ok] using h9) (hreadSum (rAdv ((rSum T one s).2)) _ _ _ _ hn hr3) ⟨by show _ ≤ D + 1; omega, by show _ ≤ 64 * (D + 1); omega, Nat.le_refl 0, Nat.le_refl 0⟩ (Nat.le_of_ble_eq_true rfl) (ax_dec2 (i := .invokevirtual 150) (n := 3) ok_X8_readNot rfl) (fun r M' hq => ?_)
        obtain ⟨rfl, g104, rfl, fr104, hr4⟩ := hq
        have fs4 := cFr_t fr104 (cFr_t fr7 fs1)
        change ax_J _ _ _ _ _ _ _ _ _ 91 [some (.inr (.inr (some (3, 0)))), some (.inl op), some (.inl ((rSum T one s).1)), some (.inl (g101 303 0 (g101 3 0 7)))] [.inl ((rSum T one (rAdv ((rSum T one s).2))).1), .inl ((rSum T one s).1), .inl (g101 303 0 (g101 3 0 7)), .inr (.inr (some (3, 0)))] (P, g104, r0, n)
        refine aj_callV (av := [.inl (g101 303 0 (g101 3 0 7)), .inl ((rSum T one s).1), .inl ((rSum T one (rAdv ((rSum T one s).2))).1)]) (st := []) (f := 3) (o := 0) (ci := 8) cal_X8_node lk_8_144 ins_X8_node rfl sel_X8_node rfl (fun c9 h9 _ => by simpa [ax_ok] using h9) (cp_node (g101 303 0 (g101 3 0 7)) ((rSum T one s).1) ((rSum T one (rAdv ((rSum T one s).2))).1) ((rSum T one (rAdv ((rSum T one s).2))).2) _ _ _ _ hn hr4) ⟨by show _ ≤ D + 1; omega, by show _ ≤ 64 * (D + 1); omega, Nat.le_refl 0, Nat.le_refl 0⟩ (Nat.le_of_ble_eq_true rfl) (ax_dec2 (i := .invokevirtual 144) (n := 3) ok_X8_readNot rfl) (fun r M' hq => ?_)
        obtain ⟨rfl, g105, rfl, fr105, hr5⟩ := hq
        have fs5 := cFr_t fr105 fs4
        change ax_J _ _ _ _ _ _ _ _ _ 94 [some (.inr (.inr (some (3, 0)))), some (.inl op), some (.inl ((rSum T one s).1)), some (.inl (g101 303 0 (g101 3 0 7)))] [.inl ((rNd (g101 303 0 (g101 3 0 7)) ((rSum T one s).1) ((rSum T one (rAdv ((rSum T one s).2))).1) ((rSum T one (rAdv ((rSum T one s).2))).2)).1)] (P, g105, r0, n)
        refine aj_ret (r := some (.inl ((rNd (g101 303 0 (g101 3 0 7)) ((rSum T one s).1) ((rSum T one (rAdv ((rSum T one s).2))).1) ((rSum T one (rAdv ((rSum T one s).2))).2)).1))) (ax_dec2 (i := .ireturn) (n := 1) ok_X8_readNot rfl) ⟨?_, ?_, by decide, by decide⟩ rfl
        · (have hsg : g101 303 0 (g101 3 0 7) = T (rSum T one s).2.1 := (cRd_t hrS).1; exact ⟨ax_si (by unfold rNot; rw [if_neg (by omega), if_pos (by omega), hsg]), _, rfl, fs5, by unfold rNot; rw [if_neg (by omega), if_pos (by omega), ← hsg]; exact hr5⟩)
        · exact ax_ro_i
      · exact absurd c2 (by omega)
    · rw [bI_f ht2, if_neg ht2]
      change ax_J _ _ _ _ _ _ _ _ _ 71 [some (.inr (.inr (some (3, 0)))), some (.inl op), some (.inl ((rSum T one s).1)), some (.inl (g101 303 0 (g101 3 0 7)))] [.inl 0] (P, g101, r0, n)
      refine aj_if_ne (tgt := 83) (ax_dec2 (i := .ifCond .ne 12) (n := 3) ok_X8_readNot rfl) (by decide) (fun c3 => ?_) (fun c3 => ?_)
      · exact absurd c3 (by omega)
      · refine aj_run (C := True) (pc' := 77) (la' := [some (.inr (.inr (some (3, 0)))), some (.inl op), some (.inl ((rSum T one s).1)), some (.inl (g101 303 0 (g101 3 0 7)))]) (st' := [.inl 61, .inr (.inr (some (3, 0)))]) (M' := (P, g101, r0, n)) ok_X8_readNot true 2 rfl trivial ?_
        refine aj_callV (av := [.inl 61]) (st := []) (f := 3) (o := 0) (ci := 8) cal_X8_takes lk_8_141 ins_X8_takes rfl sel_X8_takes rfl (fun c9 h9 _ => by simpa [ax_ok] using h9) (cp_takes 61 ((rSum T one s).2) _ _ _ _ hn hr1 (by decide)) ⟨by show _ ≤ D + 1; omega, by show _ ≤ 64 * (D + 1); omega, Nat.le_refl 0, Nat.le_refl 0⟩ (Nat.le_of_ble_eq_true rfl) (ax_dec2 (i := .invokevirtual 141) (n := 3) ok_X8_readNot rfl) (fun r M' hq => ?_)
        obtain ⟨rfl, rfl⟩ := hq
        by_cases ht6 : T ((rSum T one s).2).1 = 61
        · rw [bI_t ht6, if_pos ht6]
          have hr7 := cRd_adv hr1 ht6 (by decide)
          change ax_J _ _ _ _ _ _ _ _ _ 80 [some (.inr (.inr (some (3, 0)))), some (.inl op), some (.inl ((rSum T one s).1)), some (.inl (g101 303 0 (g101 3 0 7)))] [.inl 1] (P, ax_u3 g101 3 0 7 (g101 3 0 7 + 1), r0, n)
          refine aj_if_eq (tgt := 95) (ax_dec2 (i := .ifCond .eq 15) (n := 3) ok_X8_readNot rfl) (by decide) (fun c4 => ?_) (fun c4 => ?_)
          · exact absurd c4 (by omega)
          · refine aj_run (C := True) (pc' := 88) (la' := [some (.inr (.inr (some (3, 0)))), some (.inl op), some (.inl ((rSum T one s).1)), some (.inl (g101 303 0 (g101 3 0 7)))]) (st' := [.inl op, .inr (.inr (some (3, 0))), .inl ((rSum T one s).1), .inl (g101 303 0 (g101 3 0 7)), .inr (.inr (some (3, 0)))]) (M' := (P, ax_u3 g101 3 0 7 (g101 3 0 7 + 1), r0, n)) ok_X8_readNot true 5 rfl trivial ?_
            refine aj_callV (av := [.inl op]) (st := [.inl ((rSum T one s).1), .inl (g101 303 0 (g101 3 0 7)), .inr (.inr (some (3, 0)))]) (f := 3) (o := 0) (ci := 8) cal_X8_readSum lk_8_150 ins_X8_readSum rfl sel_X8_readSum rfl (fun c9 h9 _ => by simpa [ax_ok] using h9) (hreadSum (rAdv ((rSum T one s).2)) _ _ _ _ hn hr7) ⟨by show _ ≤ D + 1; omega, by show _ ≤ 64 * (D + 1); omega, Nat.le_refl 0, Nat.le_refl 0⟩ (Nat.le_of_ble_eq_true rfl) (ax_dec2 (i := .invokevirtual 150) (n := 3) ok_X8_readNot rfl) (fun r M' hq => ?_)
            obtain ⟨rfl, g108, rfl, fr108, hr8⟩ := hq
            have fs8 := cFr_t fr108 (cFr_t fr7 fs1)
            change ax_J _ _ _ _ _ _ _ _ _ 91 [some (.inr (.inr (some (3, 0)))), some (.inl op), some (.inl ((rSum T one s).1)), some (.inl (g101 303 0 (g101 3 0 7)))] [.inl ((rSum T one (rAdv ((rSum T one s).2))).1), .inl ((rSum T one s).1), .inl (g101 303 0 (g101 3 0 7)), .inr (.inr (some (3, 0)))] (P, g108, r0, n)
            refine aj_callV (av := [.inl (g101 303 0 (g101 3 0 7)), .inl ((rSum T one s).1), .inl ((rSum T one (rAdv ((rSum T one s).2))).1)]) (st := []) (f := 3) (o := 0) (ci := 8) cal_X8_node lk_8_144 ins_X8_node rfl sel_X8_node rfl (fun c9 h9 _ => by simpa [ax_ok] using h9) (cp_node (g101 303 0 (g101 3 0 7)) ((rSum T one s).1) ((rSum T one (rAdv ((rSum T one s).2))).1) ((rSum T one (rAdv ((rSum T one s).2))).2) _ _ _ _ hn hr8) ⟨by show _ ≤ D + 1; omega, by show _ ≤ 64 * (D + 1); omega, Nat.le_refl 0, Nat.le_refl 0⟩ (Nat.le_of_ble_eq_true rfl) (ax_dec2 (i := .invokevirtual 144) (n := 3) ok_X8_readNot rfl) (fun r M' hq => ?_)
            obtain ⟨rfl, g109, rfl, fr109, hr9⟩ := hq
            have fs9 := cFr_t fr109 fs8
            change ax_J _ _ _ _ _ _ _ _ _ 94 [some (.inr (.inr (some (3, 0)))), some (.inl op), some (.inl ((rSum T one s).1)), some (.inl (g101 303 0 (g101 3 0 7)))] [.inl ((rNd (g101 303 0 (g101 3 0 7)) ((rSum T one s).1) ((rSum T one (rAdv ((rSum T one s).2))).1) ((rSum T one (rAdv ((rSum T one s).2))).2)).1)] (P, g109, r0, n)
            refine aj_ret (r := some (.inl ((rNd (g101 303 0 (g101 3 0 7)) ((rSum T one s).1) ((rSum T one (rAdv ((rSum T one s).2))).1) ((rSum T one (rAdv ((rSum T one s).2))).2)).1))) (ax_dec2 (i := .ireturn) (n := 1) ok_X8_readNot rfl) ⟨?_, ?_, by decide, by decide⟩ rfl
            · (have hsg : g101 303 0 (g101 3 0 7) = T (rSum T one s).2.1 := (cRd_t hrS).1; exact ⟨ax_si (by unfold rNot; rw [if_neg (by omega), if_pos (by omega), hsg]), _, rfl, fs9, by unfold rNot; rw [if_neg (by omega), if_pos (by omega), ← hsg]; exact hr9⟩)
            · exact ax_ro_i
        · rw [bI_f ht6, if_neg ht6]
          change ax_J _ _ _ _ _ _ _ _ _ 80 [some (.inr (.inr (some (3, 0)))), some (.inl op), some (.inl ((rSum T one s).1)), some (.inl (g101 303 0 (g101 3 0 7)))] [.inl 0] (P, g101, r0, n)
          refine aj_if_eq (tgt := 95) (ax_dec2 (i := .ifCond .eq 15) (n := 3) ok_X8_readNot rfl) (by decide) (fun c5 => ?_) (fun c5 => ?_)
          · refine aj_run (C := True) (pc' := 96) (la' := [some (.inr (.inr (some (3, 0)))), some (.inl op), some (.inl ((rSum T one s).1)), some (.inl (g101 303 0 (g101 3 0 7)))]) (st' := [.inl ((rSum T one s).1)]) (M' := (P, g101, r0, n)) ok_X8_readNot true 1 rfl trivial ?_
            refine aj_ret (r := some (.inl ((rSum T one s).1))) (ax_dec2 (i := .ireturn) (n := 1) ok_X8_readNot rfl) ⟨?_, ?_, by decide, by decide⟩ rfl
            · exact ⟨ax_si (by unfold rNot; rw [if_neg (by omega), if_neg (by omega)]), _, rfl, fs1, by unfold rNot; rw [if_neg (by omega), if_neg (by omega)]; exact hr1⟩
            · exact ax_ro_i
          · exact absurd c5 (by omega)
  · refine aj_run (C := True) (pc' := 16) (la' := [some (.inr (.inr (some (3, 0)))), some (.inl op), none, none]) (st' := [.inl 5, .inl op]) (M' := (P, g, r0, n)) ok_X8_readNot true 2 rfl trivial ?_
    refine aj_icmp_lt (tgt := 24) (ax_dec2 (i := .if_icmp .lt 8) (n := 3) ok_X8_readNot rfl) (by decide) (fun c6 => ?_) (fun c6 => ?_)
    · exact absurd c6 (by omega)
    · refine aj_run (C := True) (pc' := 20) (la' := [some (.inr (.inr (some (3, 0)))), some (.inl op), none, none]) (st' := [.inr (.inr (some (3, 0)))]) (M' := (P, g, r0, n)) ok_X8_readNot true 1 rfl trivial ?_
      refine aj_callV (av := []) (st := []) (f := 3) (o := 0) (ci := 8) cal_X8_refuse lk_8_56 ins_X8_refuse rfl sel_X8_refuse rfl (fun c9 h9 _ => by simpa [ax_ok] using h9) (cp_refuse s _ _ _ _ hn hr) ⟨by show _ ≤ D + 1; omega, by show _ ≤ 64 * (D + 1); omega, Nat.le_refl 0, Nat.le_refl 0⟩ (Nat.le_of_ble_eq_true rfl) (ax_dec2 (i := .invokevirtual 56) (n := 3) ok_X8_readNot rfl) (fun r M' hq => ?_)
      obtain ⟨rfl, g110, rfl, fr110, hr10⟩ := hq
      have fs10 := cFr_t fr110 (fun _ _ _ _ => rfl)
      change ax_J _ _ _ _ _ _ _ _ _ 23 [some (.inr (.inr (some (3, 0)))), some (.inl op), none, none] [.inl 0] (P, g110, r0, n)
      refine aj_ret (r := some (.inl 0)) (ax_dec2 (i := .ireturn) (n := 1) ok_X8_readNot rfl) ⟨?_, ?_, by decide, by decide⟩ rfl
      · exact ⟨ax_si (by unfold rNot; rw [if_pos (by omega)]), _, rfl, fs10, by unfold rNot; rw [if_pos (by omega)]; exact hr10⟩
      · exact ax_ro_i

set_option maxRecDepth 100000 in
set_option maxHeartbeats 4000000 in
theorem cp_readNot1 {T V p : Int → Int} {N : Int} {D D2 : Nat} {op : Int} {one nt : rdF} (hD : 3 ≤ D) (hop : op < 5) (hop0 : 0 ≤ op) (hD2 : D2 ≤ D) (hreadSum : cRdS T V p N yX8_readSum cX8_readSum 5 D op (rSum T one)) (hreadNot : cRdS T V p N yX8_readNot cX8_readNot 4 D2 (op + 1) nt) : cRdS T V p N yX8_readNot cX8_readNot 4 (D + 1) op (rNot T p N (some nt) one) := by
  intro s P g r0 n hn hr
  obtain ⟨n302, n303, n304, n305, n308, n309, n310, n311⟩ := id hn
  obtain ⟨hTs, hr7, hr12, hrl, hr1⟩ := id hr
  obtain ⟨hN, hT6, hT0, hTi⟩ := id hTs
  have htk := cRd_t hr
  refine ax_S_of (own := 8) (by decide) rfl (fun h => absurd h (by decide)) rfl (Nat.le_of_ble_eq_true rfl) ?_
  change ax_J _ _ _ _ _ _ _ _ _ _ [some (.inr (.inr (some (3, 0)))), some (.inl op), none, none] _ _
  refine aj_run (C := (0 ≤ g 3 0 7 ∧ g 3 0 7 < n 303 0) ∧ True) (pc' := 11) (la' := [some (.inr (.inr (some (3, 0)))), some (.inl op), none, none]) (st' := [.inl 10, .inl (g 303 0 (g 3 0 7))]) (M' := (P, g, r0, n)) ok_X8_readNot true 6 rfl (by refine ⟨?_, trivial⟩ <;> (omega)) ?_
  refine aj_icmp_ne (tgt := 49) (ax_dec2 (i := .if_icmp .ne 38) (n := 3) ok_X8_readNot rfl) (by decide) (fun c1 => ?_) (fun c1 => ?_)
  · refine aj_run (C := True) (pc' := 51) (la' := [some (.inr (.inr (some (3, 0)))), some (.inl op), none, none]) (st' := [.inl op, .inr (.inr (some (3, 0)))]) (M' := (P, g, r0, n)) ok_X8_readNot true 2 rfl trivial ?_
    refine aj_callV (av := [.inl op]) (st := []) (f := 3) (o := 0) (ci := 8) cal_X8_readSum lk_8_150 ins_X8_readSum rfl sel_X8_readSum rfl (fun c9 h9 _ => by simpa [ax_ok] using h9) (hreadSum s _ _ _ _ hn hr) ⟨by show _ ≤ D + 1; omega, by show _ ≤ 64 * (D + 1); omega, Nat.le_refl 0, Nat.le_refl 0⟩ (Nat.le_of_ble_eq_true rfl) (ax_dec2 (i := .invokevirtual 150) (n := 3) ok_X8_readNot rfl) (fun r M' hq => ?_)
    obtain ⟨rfl, g101, rfl, fr101, hr1⟩ := hq
    have fs1 := cFr_t fr101 (fun _ _ _ _ => rfl)
    change ax_J _ _ _ _ _ _ _ _ _ 54 [some (.inr (.inr (some (3, 0)))), some (.inl op), none, none] [.inl ((rSum T one s).1)] (P, g101, r0, n)
    refine aj_run (C := True) (pc' := 55) (la' := [some (.inr (.inr (some (3, 0)))), some (.inl op), some (.inl ((rSum T one s).1)), none]) (st' := []) (M' := (P, g101, r0, n)) ok_X8_readNot true 1 rfl trivial ?_
    have hrS := hr1
    obtain ⟨-, hbS, -⟩ := id hrS
    refine aj_run (C := (0 ≤ g101 3 0 7 ∧ g101 3 0 7 < n 303 0) ∧ True) (pc' := 68) (la' := [some (.inr (.inr (some (3, 0)))), some (.inl op), some (.inl ((rSum T one s).1)), some (.inl (g101 303 0 (g101 3 0 7)))]) (st' := [.inl 60, .inr (.inr (some (3, 0)))]) (M' := (P, g101, r0, n)) ok_X8_readNot true 8 rfl (by refine ⟨?_, trivial⟩ <;> (omega)) ?_
    refine aj_callV (av := [.inl 60]) (st := []) (f := 3) (o := 0) (ci := 8) cal_X8_takes lk_8_141 ins_X8_takes rfl sel_X8_takes rfl (fun c9 h9 _ => by simpa [ax_ok] using h9) (cp_takes 60 ((rSum T one s).2) _ _ _ _ hn hr1 (by decide)) ⟨by show _ ≤ D + 1; omega, by show _ ≤ 64 * (D + 1); omega, Nat.le_refl 0, Nat.le_refl 0⟩ (Nat.le_of_ble_eq_true rfl) (ax_dec2 (i := .invokevirtual 141) (n := 3) ok_X8_readNot rfl) (fun r M' hq => ?_)
    obtain ⟨rfl, rfl⟩ := hq
    by_cases ht2 : T ((rSum T one s).2).1 = 60
    · rw [bI_t ht2, if_pos ht2]
      have hr3 := cRd_adv hr1 ht2 (by decide)
      change ax_J _ _ _ _ _ _ _ _ _ 71 [some (.inr (.inr (some (3, 0)))), some (.inl op), some (.inl ((rSum T one s).1)), some (.inl (g101 303 0 (g101 3 0 7)))] [.inl 1] (P, ax_u3 g101 3 0 7 (g101 3 0 7 + 1), r0, n)
      refine aj_if_ne (tgt := 83) (ax_dec2 (i := .ifCond .ne 12) (n := 3) ok_X8_readNot rfl) (by decide) (fun c2 => ?_) (fun c2 => ?_)
      · refine aj_run (C := True) (pc' := 88) (la' := [some (.inr (.inr (some (3, 0)))), some (.inl op), some (.inl ((rSum T one s).1)), some (.inl (g101 303 0 (g101 3 0 7)))]) (st' := [.inl op, .inr (.inr (some (3, 0))), .inl ((rSum T one s).1), .inl (g101 303 0 (g101 3 0 7)), .inr (.inr (some (3, 0)))]) (M' := (P, ax_u3 g101 3 0 7 (g101 3 0 7 + 1), r0, n)) ok_X8_readNot true 5 rfl trivial ?_
        refine aj_callV (av := [.inl op]) (st := [.inl ((rSum T one s).1), .inl (g101 303 0 (g101 3 0 7)), .inr (.inr (some (3, 0)))]) (f := 3) (o := 0) (ci := 8) cal_X8_readSum lk_8_150 ins_X8_readSum rfl sel_X8_readSum rfl (fun c9 h9 _ => by simpa [ax_ok] using h9) (hreadSum (rAdv ((rSum T one s).2)) _ _ _ _ hn hr3) ⟨by show _ ≤ D + 1; omega, by show _ ≤ 64 * (D + 1); omega, Nat.le_refl 0, Nat.le_refl 0⟩ (Nat.le_of_ble_eq_true rfl) (ax_dec2 (i := .invokevirtual 150) (n := 3) ok_X8_readNot rfl) (fun r M' hq => ?_)
        obtain ⟨rfl, g104, rfl, fr104, hr4⟩ := hq
        have fs4 := cFr_t fr104 (cFr_t fr7 fs1)
        change ax_J _ _ _ _ _ _ _ _ _ 91 [some (.inr (.inr (some (3, 0)))), some (.inl op), some (.inl ((rSum T one s).1)), some (.inl (g101 303 0 (g101 3 0 7)))] [.inl ((rSum T one (rAdv ((rSum T one s).2))).1), .inl ((rSum T one s).1), .inl (g101 303 0 (g101 3 0 7)), .inr (.inr (some (3, 0)))] (P, g104, r0, n)
        refine aj_callV (av := [.inl (g101 303 0 (g101 3 0 7)), .inl ((rSum T one s).1), .inl ((rSum T one (rAdv ((rSum T one s).2))).1)]) (st := []) (f := 3) (o := 0) (ci := 8) cal_X8_node lk_8_144 ins_X8_node rfl sel_X8_node rfl (fun c9 h9 _ => by simpa [ax_ok] using h9) (cp_node (g101 303 0 (g101 3 0 7)) ((rSum T one s).1) ((rSum T one (rAdv ((rSum T one s).2))).1) ((rSum T one (rAdv ((rSum T one s).2))).2) _ _ _ _ hn hr4) ⟨by show _ ≤ D + 1; omega, by show _ ≤ 64 * (D + 1); omega, Nat.le_refl 0, Nat.le_refl 0⟩ (Nat.le_of_ble_eq_true rfl) (ax_dec2 (i := .invokevirtual 144) (n := 3) ok_X8_readNot rfl) (fun r M' hq => ?_)
        obtain ⟨rfl, g105, rfl, fr105, hr5⟩ := hq
        have fs5 := cFr_t fr105 fs4
        change ax_J _ _ _ _ _ _ _ _ _ 94 [some (.inr (.inr (some (3, 0)))), some (.inl op), some (.inl ((rSum T one s).1)), some (.inl (g101 303 0 (g101 3 0 7)))] [.inl ((rNd (g101 303 0 (g101 3 0 7)) ((rSum T one s).1) ((rSum T one (rAdv ((rSum T one s).2))).1) ((rSum T one (rAdv ((rSum T one s).2))).2)).1)] (P, g105, r0, n)
        refine aj_ret (r := some (.inl ((rNd (g101 303 0 (g101 3 0 7)) ((rSum T one s).1) ((rSum T one (rAdv ((rSum T one s).2))).1) ((rSum T one (rAdv ((rSum T one s).2))).2)).1))) (ax_dec2 (i := .ireturn) (n := 1) ok_X8_readNot rfl) ⟨?_, ?_, by decide, by decide⟩ rfl
        · (have hsg : g101 303 0 (g101 3 0 7) = T (rSum T one s).2.1 := (cRd_t hrS).1; exact ⟨ax_si (by unfold rNot; rw [if_neg (by omega), if_pos (by omega), hsg]), _, rfl, fs5, by unfold rNot; rw [if_neg (by omega), if_pos (by omega), ← hsg]; exact hr5⟩)
        · exact ax_ro_i
      · exact absurd c2 (by omega)
    · rw [bI_f ht2, if_neg ht2]
      change ax_J _ _ _ _ _ _ _ _ _ 71 [some (.inr (.inr (some (3, 0)))), some (.inl op), some (.inl ((rSum T one s).1)), some (.inl (g101 303 0 (g101 3 0 7)))] [.inl 0] (P, g101, r0, n)
      refine aj_if_ne (tgt := 83) (ax_dec2 (i := .ifCond .ne 12) (n := 3) ok_X8_readNot rfl) (by decide) (fun c3 => ?_) (fun c3 => ?_)
      · exact absurd c3 (by omega)
      · refine aj_run (C := True) (pc' := 77) (la' := [some (.inr (.inr (some (3, 0)))), some (.inl op), some (.inl ((rSum T one s).1)), some (.inl (g101 303 0 (g101 3 0 7)))]) (st' := [.inl 61, .inr (.inr (some (3, 0)))]) (M' := (P, g101, r0, n)) ok_X8_readNot true 2 rfl trivial ?_
        refine aj_callV (av := [.inl 61]) (st := []) (f := 3) (o := 0) (ci := 8) cal_X8_takes lk_8_141 ins_X8_takes rfl sel_X8_takes rfl (fun c9 h9 _ => by simpa [ax_ok] using h9) (cp_takes 61 ((rSum T one s).2) _ _ _ _ hn hr1 (by decide)) ⟨by show _ ≤ D + 1; omega, by show _ ≤ 64 * (D + 1); omega, Nat.le_refl 0, Nat.le_refl 0⟩ (Nat.le_of_ble_eq_true rfl) (ax_dec2 (i := .invokevirtual 141) (n := 3) ok_X8_readNot rfl) (fun r M' hq => ?_)
        obtain ⟨rfl, rfl⟩ := hq
        by_cases ht6 : T ((rSum T one s).2).1 = 61
        · rw [bI_t ht6, if_pos ht6]
          have hr7 := cRd_adv hr1 ht6 (by decide)
          change ax_J _ _ _ _ _ _ _ _ _ 80 [some (.inr (.inr (some (3, 0)))), some (.inl op), some (.inl ((rSum T one s).1)), some (.inl (g101 303 0 (g101 3 0 7)))] [.inl 1] (P, ax_u3 g101 3 0 7 (g101 3 0 7 + 1), r0, n)
          refine aj_if_eq (tgt := 95) (ax_dec2 (i := .ifCond .eq 15) (n := 3) ok_X8_readNot rfl) (by decide) (fun c4 => ?_) (fun c4 => ?_)
          · exact absurd c4 (by omega)
          · refine aj_run (C := True) (pc' := 88) (la' := [some (.inr (.inr (some (3, 0)))), some (.inl op), some (.inl ((rSum T one s).1)), some (.inl (g101 303 0 (g101 3 0 7)))]) (st' := [.inl op, .inr (.inr (some (3, 0))), .inl ((rSum T one s).1), .inl (g101 303 0 (g101 3 0 7)), .inr (.inr (some (3, 0)))]) (M' := (P, ax_u3 g101 3 0 7 (g101 3 0 7 + 1), r0, n)) ok_X8_readNot true 5 rfl trivial ?_
            refine aj_callV (av := [.inl op]) (st := [.inl ((rSum T one s).1), .inl (g101 303 0 (g101 3 0 7)), .inr (.inr (some (3, 0)))]) (f := 3) (o := 0) (ci := 8) cal_X8_readSum lk_8_150 ins_X8_readSum rfl sel_X8_readSum rfl (fun c9 h9 _ => by simpa [ax_ok] using h9) (hreadSum (rAdv ((rSum T one s).2)) _ _ _ _ hn hr7) ⟨by show _ ≤ D + 1; omega, by show _ ≤ 64 * (D + 1); omega, Nat.le_refl 0, Nat.le_refl 0⟩ (Nat.le_of_ble_eq_true rfl) (ax_dec2 (i := .invokevirtual 150) (n := 3) ok_X8_readNot rfl) (fun r M' hq => ?_)
            obtain ⟨rfl, g108, rfl, fr108, hr8⟩ := hq
            have fs8 := cFr_t fr108 (cFr_t fr7 fs1)
            change ax_J _ _ _ _ _ _ _ _ _ 91 [some (.inr (.inr (some (3, 0)))), some (.inl op), some (.inl ((rSum T one s).1)), some (.inl (g101 303 0 (g101 3 0 7)))] [.inl ((rSum T one (rAdv ((rSum T one s).2))).1), .inl ((rSum T one s).1), .inl (g101 303 0 (g101 3 0 7)), .inr (.inr (some (3, 0)))] (P, g108, r0, n)
            refine aj_callV (av := [.inl (g101 303 0 (g101 3 0 7)), .inl ((rSum T one s).1), .inl ((rSum T one (rAdv ((rSum T one s).2))).1)]) (st := []) (f := 3) (o := 0) (ci := 8) cal_X8_node lk_8_144 ins_X8_node rfl sel_X8_node rfl (fun c9 h9 _ => by simpa [ax_ok] using h9) (cp_node (g101 303 0 (g101 3 0 7)) ((rSum T one s).1) ((rSum T one (rAdv ((rSum T one s).2))).1) ((rSum T one (rAdv ((rSum T one s).2))).2) _ _ _ _ hn hr8) ⟨by show _ ≤ D + 1; omega, by show _ ≤ 64 * (D + 1); omega, Nat.le_refl 0, Nat.le_refl 0⟩ (Nat.le_of_ble_eq_true rfl) (ax_dec2 (i := .invokevirtual 144) (n := 3) ok_X8_readNot rfl) (fun r M' hq => ?_)
            obtain ⟨rfl, g109, rfl, fr109, hr9⟩ := hq
            have fs9 := cFr_t fr109 fs8
            change ax_J _ _ _ _ _ _ _ _ _ 94 [some (.inr (.inr (some (3, 0)))), some (.inl op), some (.inl ((rSum T one s).1)), some (.inl (g101 303 0 (g101 3 0 7)))] [.inl ((rNd (g101 303 0 (g101 3 0 7)) ((rSum T one s).1) ((rSum T one (rAdv ((rSum T one s).2))).1) ((rSum T one (rAdv ((rSum T one s).2))).2)).1)] (P, g109, r0, n)
            refine aj_ret (r := some (.inl ((rNd (g101 303 0 (g101 3 0 7)) ((rSum T one s).1) ((rSum T one (rAdv ((rSum T one s).2))).1) ((rSum T one (rAdv ((rSum T one s).2))).2)).1))) (ax_dec2 (i := .ireturn) (n := 1) ok_X8_readNot rfl) ⟨?_, ?_, by decide, by decide⟩ rfl
            · (have hsg : g101 303 0 (g101 3 0 7) = T (rSum T one s).2.1 := (cRd_t hrS).1; exact ⟨ax_si (by unfold rNot; rw [if_neg (by omega), if_pos (by omega), hsg]), _, rfl, fs9, by unfold rNot; rw [if_neg (by omega), if_pos (by omega), ← hsg]; exact hr9⟩)
            · exact ax_ro_i
        · rw [bI_f ht6, if_neg ht6]
          change ax_J _ _ _ _ _ _ _ _ _ 80 [some (.inr (.inr (some (3, 0)))), some (.inl op), some (.inl ((rSum T one s).1)), some (.inl (g101 303 0 (g101 3 0 7)))] [.inl 0] (P, g101, r0, n)
          refine aj_if_eq (tgt := 95) (ax_dec2 (i := .ifCond .eq 15) (n := 3) ok_X8_readNot rfl) (by decide) (fun c5 => ?_) (fun c5 => ?_)
          · refine aj_run (C := True) (pc' := 96) (la' := [some (.inr (.inr (some (3, 0)))), some (.inl op), some (.inl ((rSum T one s).1)), some (.inl (g101 303 0 (g101 3 0 7)))]) (st' := [.inl ((rSum T one s).1)]) (M' := (P, g101, r0, n)) ok_X8_readNot true 1 rfl trivial ?_
            refine aj_ret (r := some (.inl ((rSum T one s).1))) (ax_dec2 (i := .ireturn) (n := 1) ok_X8_readNot rfl) ⟨?_, ?_, by decide, by decide⟩ rfl
            · exact ⟨ax_si (by unfold rNot; rw [if_neg (by omega), if_neg (by omega)]), _, rfl, fs1, by unfold rNot; rw [if_neg (by omega), if_neg (by omega)]; exact hr1⟩
            · exact ax_ro_i
          · exact absurd c5 (by omega)
  · refine aj_run (C := True) (pc' := 16) (la' := [some (.inr (.inr (some (3, 0)))), some (.inl op), none, none]) (st' := [.inl 5, .inl op]) (M' := (P, g, r0, n)) ok_X8_readNot true 2 rfl trivial ?_
    refine aj_icmp_lt (tgt := 24) (ax_dec2 (i := .if_icmp .lt 8) (n := 3) ok_X8_readNot rfl) (by decide) (fun c6 => ?_) (fun c6 => ?_)
    · refine aj_run (C := (-2147483648 ≤ (g 3 0 7) + 1 ∧ (g 3 0 7) + 1 ≤ 2147483647) ∧ True) (pc' := 34) (la' := [some (.inr (.inr (some (3, 0)))), some (.inl op), none, none]) (st' := []) (M' := (P, ax_u3 g 3 0 7 ((g 3 0 7) + 1), r0, n)) ok_X8_readNot true 6 rfl (by refine ⟨?_, trivial⟩ <;> (omega)) ?_
      have hr10 := cRd_adv (t := T s.1) hr rfl (by omega)
      refine aj_run (C := (-2147483648 ≤ op + 1 ∧ op + 1 ≤ 2147483647) ∧ True) (pc' := 41) (la' := [some (.inr (.inr (some (3, 0)))), some (.inl op), none, none]) (st' := [.inl (op + 1), .inr (.inr (some (3, 0))), .inl 10, .inr (.inr (some (3, 0)))]) (M' := (P, ax_u3 g 3 0 7 ((g 3 0 7) + 1), r0, n)) ok_X8_readNot true 6 rfl (by refine ⟨?_, trivial⟩ <;> (omega)) ?_
      refine aj_callV (av := [.inl (op + 1)]) (st := [.inl 10, .inr (.inr (some (3, 0)))]) (f := 3) (o := 0) (ci := 8) cal_X8_readNot lk_8_147 ins_X8_readNot rfl sel_X8_readNot rfl (fun c9 h9 _ => by simpa [ax_ok] using h9) (hreadNot (rAdv s) _ _ _ _ hn hr10) ⟨by show _ ≤ D + 1; omega, by show _ ≤ 64 * (D + 1); omega, Nat.le_refl 0, Nat.le_refl 0⟩ (Nat.le_of_ble_eq_true rfl) (ax_dec2 (i := .invokevirtual 147) (n := 3) ok_X8_readNot rfl) (fun r M' hq => ?_)
      obtain ⟨rfl, g111, rfl, fr111, hr11⟩ := hq
      have fs11 := cFr_t fr111 (cFr_t fr7 (fun _ _ _ _ => rfl))
      change ax_J _ _ _ _ _ _ _ _ _ 44 [some (.inr (.inr (some (3, 0)))), some (.inl op), none, none] [.inl ((nt (rAdv s)).1), .inl 10, .inr (.inr (some (3, 0)))] (P, g111, r0, n)
      refine aj_run (C := True) (pc' := 45) (la' := [some (.inr (.inr (some (3, 0)))), some (.inl op), none, none]) (st' := [.inl 0, .inl ((nt (rAdv s)).1), .inl 10, .inr (.inr (some (3, 0)))]) (M' := (P, g111, r0, n)) ok_X8_readNot true 1 rfl trivial ?_
      refine aj_callV (av := [.inl 10, .inl ((nt (rAdv s)).1), .inl 0]) (st := []) (f := 3) (o := 0) (ci := 8) cal_X8_node lk_8_144 ins_X8_node rfl sel_X8_node rfl (fun c9 h9 _ => by simpa [ax_ok] using h9) (cp_node 10 ((nt (rAdv s)).1) 0 ((nt (rAdv s)).2) _ _ _ _ hn hr11) ⟨by show _ ≤ D + 1; omega, by show _ ≤ 64 * (D + 1); omega, Nat.le_refl 0, Nat.le_refl 0⟩ (Nat.le_of_ble_eq_true rfl) (ax_dec2 (i := .invokevirtual 144) (n := 3) ok_X8_readNot rfl) (fun r M' hq => ?_)
      obtain ⟨rfl, g112, rfl, fr112, hr12⟩ := hq
      have fs12 := cFr_t fr112 fs11
      change ax_J _ _ _ _ _ _ _ _ _ 48 [some (.inr (.inr (some (3, 0)))), some (.inl op), none, none] [.inl ((rNd 10 ((nt (rAdv s)).1) 0 ((nt (rAdv s)).2)).1)] (P, g112, r0, n)
      refine aj_ret (r := some (.inl ((rNd 10 ((nt (rAdv s)).1) 0 ((nt (rAdv s)).2)).1))) (ax_dec2 (i := .ireturn) (n := 1) ok_X8_readNot rfl) ⟨?_, ?_, by decide, by decide⟩ rfl
      · exact ⟨ax_si (by unfold rNot; rw [if_pos (by omega)]), _, rfl, fs12, by unfold rNot; rw [if_pos (by omega)]; exact hr12⟩
      · exact ax_ro_i
    · exact absurd c6 (by omega)

set_option maxRecDepth 100000 in
set_option maxHeartbeats 4000000 in
theorem cp_readOne0 {T V p : Int → Int} {N : Int} {D : Nat} {op : Int} (hD : 3 ≤ D) (hop : 5 ≤ op) : cRdS T V p N yX8_readOne cX8_readOne 4 (D) op (rOne T V p N none) := by
  intro s P g r0 n hn hr
  obtain ⟨n302, n303, n304, n305, n308, n309, n310, n311⟩ := id hn
  obtain ⟨hTs, hr7, hr12, hrl, hr1⟩ := id hr
  obtain ⟨hN, hT6, hT0, hTi⟩ := id hTs
  have htk := cRd_t hr
  refine ax_S_of (own := 8) (by decide) rfl (fun h => absurd h (by decide)) rfl (Nat.le_of_ble_eq_true rfl) ?_
  change ax_J _ _ _ _ _ _ _ _ _ _ [some (.inr (.inr (some (3, 0)))), some (.inl op), none, none] _ _
  refine aj_run (C := (0 ≤ g 3 0 7 ∧ g 3 0 7 < n 303 0) ∧ True) (pc' := 12) (la' := [some (.inr (.inr (some (3, 0)))), some (.inl op), some (.inl (g 303 0 (g 3 0 7))), none]) (st' := [.inl 2, .inl (g 303 0 (g 3 0 7))]) (M' := (P, g, r0, n)) ok_X8_readOne true 8 rfl (by refine ⟨?_, trivial⟩ <;> (omega)) ?_
  refine aj_icmp_eq (tgt := 20) (ax_dec2 (i := .if_icmp .eq 8) (n := 3) ok_X8_readOne rfl) (by decide) (fun c1 => ?_) (fun c1 => ?_)
  · refine aj_run (C := (-2147483648 ≤ (g 3 0 7) + 1 ∧ (g 3 0 7) + 1 ≤ 2147483647) ∧ True) (pc' := 30) (la' := [some (.inr (.inr (some (3, 0)))), some (.inl op), some (.inl (g 303 0 (g 3 0 7))), none]) (st' := []) (M' := (P, ax_u3 g 3 0 7 ((g 3 0 7) + 1), r0, n)) ok_X8_readOne true 6 rfl (by refine ⟨?_, trivial⟩ <;> (omega)) ?_
    have hr1 := cRd_adv (t := T s.1) hr rfl (by omega)
    have hvv : g 305 0 (g 3 0 7 + 1 - 1) = V s.1 := by rw [show g 3 0 7 + 1 - 1 = g 3 0 7 by omega]; exact htk.2.2 (by omega)
    refine aj_run (C := (-2147483648 ≤ ((g 3 0 7) + 1) - 1 ∧ ((g 3 0 7) + 1) - 1 ≤ 2147483647) ∧ (0 ≤ ((g 3 0 7) + 1) - 1 ∧ ((g 3 0 7) + 1) - 1 < n 305 0) ∧ True) (pc' := 44) (la' := [some (.inr (.inr (some (3, 0)))), some (.inl op), some (.inl (g 303 0 (g 3 0 7))), none]) (st' := [.inl 0, .inl (g 305 0 (((g 3 0 7) + 1) - 1)), .inl (g 303 0 (g 3 0 7)), .inr (.inr (some (3, 0)))]) (M' := (P, ax_u3 g 3 0 7 ((g 3 0 7) + 1), r0, n)) ok_X8_readOne true 10 rfl (by refine ⟨?_, ?_, trivial⟩ <;> (omega)) ?_
    refine aj_callV (av := [.inl (g 303 0 (g 3 0 7)), .inl (g 305 0 (((g 3 0 7) + 1) - 1)), .inl 0]) (st := []) (f := 3) (o := 0) (ci := 8) cal_X8_node lk_8_144 ins_X8_node rfl sel_X8_node rfl (fun c9 h9 _ => by simpa [ax_ok] using h9) (cp_node (g 303 0 (g 3 0 7)) (g 305 0 (((g 3 0 7) + 1) - 1)) 0 (rAdv s) _ _ _ _ hn hr1) ⟨by show _ ≤ D; omega, by show _ ≤ 64 * (D); omega, Nat.le_refl 0, Nat.le_refl 0⟩ (Nat.le_of_ble_eq_true rfl) (ax_dec2 (i := .invokevirtual 144) (n := 3) ok_X8_readOne rfl) (fun r M' hq => ?_)
    obtain ⟨rfl, g102, rfl, fr102, hr2⟩ := hq
    have fs2 := cFr_t fr102 (cFr_t fr7 (fun _ _ _ _ => rfl))
    change ax_J _ _ _ _ _ _ _ _ _ 47 [some (.inr (.inr (some (3, 0)))), some (.inl op), some (.inl (g 303 0 (g 3 0 7))), none] [.inl ((rNd (g 303 0 (g 3 0 7)) (g 305 0 (((g 3 0 7) + 1) - 1)) 0 (rAdv s)).1)] (P, g102, r0, n)
    refine aj_ret (r := some (.inl ((rNd (g 303 0 (g 3 0 7)) (g 305 0 (((g 3 0 7) + 1) - 1)) 0 (rAdv s)).1))) (ax_dec2 (i := .ireturn) (n := 1) ok_X8_readOne rfl) ⟨?_, ?_, by decide, by decide⟩ rfl
    · exact ⟨ax_si (by unfold rOne; rw [if_pos (by omega), hvv, htk.1]), _, rfl, fs2, by unfold rOne; rw [if_pos (by omega), ← hvv, ← htk.1]; exact hr2⟩
    · exact ax_ro_i
  · refine aj_run (C := True) (pc' := 17) (la' := [some (.inr (.inr (some (3, 0)))), some (.inl op), some (.inl (g 303 0 (g 3 0 7))), none]) (st' := [.inl 3, .inl (g 303 0 (g 3 0 7))]) (M' := (P, g, r0, n)) ok_X8_readOne true 2 rfl trivial ?_
    refine aj_icmp_ne (tgt := 48) (ax_dec2 (i := .if_icmp .ne 31) (n := 3) ok_X8_readOne rfl) (by decide) (fun c2 => ?_) (fun c2 => ?_)
    · refine aj_run (C := True) (pc' := 51) (la' := [some (.inr (.inr (some (3, 0)))), some (.inl op), some (.inl (g 303 0 (g 3 0 7))), none]) (st' := [.inl 45, .inl (g 303 0 (g 3 0 7))]) (M' := (P, g, r0, n)) ok_X8_readOne true 2 rfl trivial ?_
      refine aj_icmp_eq (tgt := 60) (ax_dec2 (i := .if_icmp .eq 9) (n := 3) ok_X8_readOne rfl) (by decide) (fun c3 => ?_) (fun c3 => ?_)
      · refine aj_run (C := True) (pc' := 62) (la' := [some (.inr (.inr (some (3, 0)))), some (.inl op), some (.inl (g 303 0 (g 3 0 7))), none]) (st' := [.inl 5, .inl op]) (M' := (P, g, r0, n)) ok_X8_readOne true 2 rfl trivial ?_
        refine aj_icmp_lt (tgt := 70) (ax_dec2 (i := .if_icmp .lt 8) (n := 3) ok_X8_readOne rfl) (by decide) (fun c4 => ?_) (fun c4 => ?_)
        · exact absurd c4 (by omega)
        · refine aj_run (C := True) (pc' := 66) (la' := [some (.inr (.inr (some (3, 0)))), some (.inl op), some (.inl (g 303 0 (g 3 0 7))), none]) (st' := [.inr (.inr (some (3, 0)))]) (M' := (P, g, r0, n)) ok_X8_readOne true 1 rfl trivial ?_
          refine aj_callV (av := []) (st := []) (f := 3) (o := 0) (ci := 8) cal_X8_refuse lk_8_56 ins_X8_refuse rfl sel_X8_refuse rfl (fun c9 h9 _ => by simpa [ax_ok] using h9) (cp_refuse s _ _ _ _ hn hr) ⟨by show _ ≤ D; omega, by show _ ≤ 64 * (D); omega, Nat.le_refl 0, Nat.le_refl 0⟩ (Nat.le_of_ble_eq_true rfl) (ax_dec2 (i := .invokevirtual 56) (n := 3) ok_X8_readOne rfl) (fun r M' hq => ?_)
          obtain ⟨rfl, g103, rfl, fr103, hr3⟩ := hq
          have fs3 := cFr_t fr103 (fun _ _ _ _ => rfl)
          change ax_J _ _ _ _ _ _ _ _ _ 69 [some (.inr (.inr (some (3, 0)))), some (.inl op), some (.inl (g 303 0 (g 3 0 7))), none] [.inl 0] (P, g103, r0, n)
          refine aj_ret (r := some (.inl 0)) (ax_dec2 (i := .ireturn) (n := 1) ok_X8_readOne rfl) ⟨?_, ?_, by decide, by decide⟩ rfl
          · exact ⟨ax_si (by unfold rOne; rw [if_neg (by omega)]), _, rfl, fs3, by unfold rOne; rw [if_neg (by omega)]; exact hr3⟩
          · exact ax_ro_i
      · refine aj_run (C := True) (pc' := 57) (la' := [some (.inr (.inr (some (3, 0)))), some (.inl op), some (.inl (g 303 0 (g 3 0 7))), none]) (st' := [.inl 40, .inl (g 303 0 (g 3 0 7))]) (M' := (P, g, r0, n)) ok_X8_readOne true 2 rfl trivial ?_
        refine aj_icmp_ne (tgt := 65) (ax_dec2 (i := .if_icmp .ne 8) (n := 3) ok_X8_readOne rfl) (by decide) (fun c5 => ?_) (fun c5 => ?_)
        · refine aj_run (C := True) (pc' := 66) (la' := [some (.inr (.inr (some (3, 0)))), some (.inl op), some (.inl (g 303 0 (g 3 0 7))), none]) (st' := [.inr (.inr (some (3, 0)))]) (M' := (P, g, r0, n)) ok_X8_readOne true 1 rfl trivial ?_
          refine aj_callV (av := []) (st := []) (f := 3) (o := 0) (ci := 8) cal_X8_refuse lk_8_56 ins_X8_refuse rfl sel_X8_refuse rfl (fun c9 h9 _ => by simpa [ax_ok] using h9) (cp_refuse s _ _ _ _ hn hr) ⟨by show _ ≤ D; omega, by show _ ≤ 64 * (D); omega, Nat.le_refl 0, Nat.le_refl 0⟩ (Nat.le_of_ble_eq_true rfl) (ax_dec2 (i := .invokevirtual 56) (n := 3) ok_X8_readOne rfl) (fun r M' hq => ?_)
          obtain ⟨rfl, g104, rfl, fr104, hr4⟩ := hq
          have fs4 := cFr_t fr104 (fun _ _ _ _ => rfl)
          change ax_J _ _ _ _ _ _ _ _ _ 69 [some (.inr (.inr (some (3, 0)))), some (.inl op), some (.inl (g 303 0 (g 3 0 7))), none] [.inl 0] (P, g104, r0, n)
          refine aj_ret (r := some (.inl 0)) (ax_dec2 (i := .ireturn) (n := 1) ok_X8_readOne rfl) ⟨?_, ?_, by decide, by decide⟩ rfl
          · exact ⟨ax_si (by unfold rOne; rw [if_neg (by omega)]), _, rfl, fs4, by unfold rOne; rw [if_neg (by omega)]; exact hr4⟩
          · exact ax_ro_i
        · refine aj_run (C := True) (pc' := 62) (la' := [some (.inr (.inr (some (3, 0)))), some (.inl op), some (.inl (g 303 0 (g 3 0 7))), none]) (st' := [.inl 5, .inl op]) (M' := (P, g, r0, n)) ok_X8_readOne true 2 rfl trivial ?_
          refine aj_icmp_lt (tgt := 70) (ax_dec2 (i := .if_icmp .lt 8) (n := 3) ok_X8_readOne rfl) (by decide) (fun c6 => ?_) (fun c6 => ?_)
          · exact absurd c6 (by omega)
          · refine aj_run (C := True) (pc' := 66) (la' := [some (.inr (.inr (some (3, 0)))), some (.inl op), some (.inl (g 303 0 (g 3 0 7))), none]) (st' := [.inr (.inr (some (3, 0)))]) (M' := (P, g, r0, n)) ok_X8_readOne true 1 rfl trivial ?_
            refine aj_callV (av := []) (st := []) (f := 3) (o := 0) (ci := 8) cal_X8_refuse lk_8_56 ins_X8_refuse rfl sel_X8_refuse rfl (fun c9 h9 _ => by simpa [ax_ok] using h9) (cp_refuse s _ _ _ _ hn hr) ⟨by show _ ≤ D; omega, by show _ ≤ 64 * (D); omega, Nat.le_refl 0, Nat.le_refl 0⟩ (Nat.le_of_ble_eq_true rfl) (ax_dec2 (i := .invokevirtual 56) (n := 3) ok_X8_readOne rfl) (fun r M' hq => ?_)
            obtain ⟨rfl, g105, rfl, fr105, hr5⟩ := hq
            have fs5 := cFr_t fr105 (fun _ _ _ _ => rfl)
            change ax_J _ _ _ _ _ _ _ _ _ 69 [some (.inr (.inr (some (3, 0)))), some (.inl op), some (.inl (g 303 0 (g 3 0 7))), none] [.inl 0] (P, g105, r0, n)
            refine aj_ret (r := some (.inl 0)) (ax_dec2 (i := .ireturn) (n := 1) ok_X8_readOne rfl) ⟨?_, ?_, by decide, by decide⟩ rfl
            · exact ⟨ax_si (by unfold rOne; rw [if_neg (by omega)]), _, rfl, fs5, by unfold rOne; rw [if_neg (by omega)]; exact hr5⟩
            · exact ax_ro_i
    · refine aj_run (C := (-2147483648 ≤ (g 3 0 7) + 1 ∧ (g 3 0 7) + 1 ≤ 2147483647) ∧ True) (pc' := 30) (la' := [some (.inr (.inr (some (3, 0)))), some (.inl op), some (.inl (g 303 0 (g 3 0 7))), none]) (st' := []) (M' := (P, ax_u3 g 3 0 7 ((g 3 0 7) + 1), r0, n)) ok_X8_readOne true 6 rfl (by refine ⟨?_, trivial⟩ <;> (omega)) ?_
      have hr6 := cRd_adv (t := T s.1) hr rfl (by omega)
      have hvv : g 305 0 (g 3 0 7 + 1 - 1) = V s.1 := by rw [show g 3 0 7 + 1 - 1 = g 3 0 7 by omega]; exact htk.2.2 (by omega)
      refine aj_run (C := (-2147483648 ≤ ((g 3 0 7) + 1) - 1 ∧ ((g 3 0 7) + 1) - 1 ≤ 2147483647) ∧ (0 ≤ ((g 3 0 7) + 1) - 1 ∧ ((g 3 0 7) + 1) - 1 < n 305 0) ∧ True) (pc' := 44) (la' := [some (.inr (.inr (some (3, 0)))), some (.inl op), some (.inl (g 303 0 (g 3 0 7))), none]) (st' := [.inl 0, .inl (g 305 0 (((g 3 0 7) + 1) - 1)), .inl (g 303 0 (g 3 0 7)), .inr (.inr (some (3, 0)))]) (M' := (P, ax_u3 g 3 0 7 ((g 3 0 7) + 1), r0, n)) ok_X8_readOne true 10 rfl (by refine ⟨?_, ?_, trivial⟩ <;> (omega)) ?_
      refine aj_callV (av := [.inl (g 303 0 (g 3 0 7)), .inl (g 305 0 (((g 3 0 7) + 1) - 1)), .inl 0]) (st := []) (f := 3) (o := 0) (ci := 8) cal_X8_node lk_8_144 ins_X8_node rfl sel_X8_node rfl (fun c9 h9 _ => by simpa [ax_ok] using h9) (cp_node (g 303 0 (g 3 0 7)) (g 305 0 (((g 3 0 7) + 1) - 1)) 0 (rAdv s) _ _ _ _ hn hr6) ⟨by show _ ≤ D; omega, by show _ ≤ 64 * (D); omega, Nat.le_refl 0, Nat.le_refl 0⟩ (Nat.le_of_ble_eq_true rfl) (ax_dec2 (i := .invokevirtual 144) (n := 3) ok_X8_readOne rfl) (fun r M' hq => ?_)
      obtain ⟨rfl, g107, rfl, fr107, hr7⟩ := hq
      have fs7 := cFr_t fr107 (cFr_t fr7 (fun _ _ _ _ => rfl))
      change ax_J _ _ _ _ _ _ _ _ _ 47 [some (.inr (.inr (some (3, 0)))), some (.inl op), some (.inl (g 303 0 (g 3 0 7))), none] [.inl ((rNd (g 303 0 (g 3 0 7)) (g 305 0 (((g 3 0 7) + 1) - 1)) 0 (rAdv s)).1)] (P, g107, r0, n)
      refine aj_ret (r := some (.inl ((rNd (g 303 0 (g 3 0 7)) (g 305 0 (((g 3 0 7) + 1) - 1)) 0 (rAdv s)).1))) (ax_dec2 (i := .ireturn) (n := 1) ok_X8_readOne rfl) ⟨?_, ?_, by decide, by decide⟩ rfl
      · exact ⟨ax_si (by unfold rOne; rw [if_pos (by omega), hvv, htk.1]), _, rfl, fs7, by unfold rOne; rw [if_pos (by omega), ← hvv, ← htk.1]; exact hr7⟩
      · exact ax_ro_i

set_option maxRecDepth 100000 in
set_option maxHeartbeats 4000000 in
theorem cp_readOne1 {T V p : Int → Int} {N : Int} {D D1 D2 : Nat} {op : Int} {one et : rdF} (hD : 3 ≤ D) (hop : op < 5) (hop0 : 0 ≤ op) (hD1 : D1 + 1 ≤ D) (hD2 : D2 + 1 ≤ D) (hreadOne : cRdS T V p N yX8_readOne cX8_readOne 4 D1 (op + 1) one) (hreadEither : cRdS T V p N yX8_readEither cX8_readEither 4 D2 (op + 1) et) : cRdS T V p N yX8_readOne cX8_readOne 4 (D) op (rOne T V p N (some (one, et))) := by
  intro s P g r0 n hn hr
  obtain ⟨n302, n303, n304, n305, n308, n309, n310, n311⟩ := id hn
  obtain ⟨hTs, hr7, hr12, hrl, hr1⟩ := id hr
  obtain ⟨hN, hT6, hT0, hTi⟩ := id hTs
  have htk := cRd_t hr
  refine ax_S_of (own := 8) (by decide) rfl (fun h => absurd h (by decide)) rfl (Nat.le_of_ble_eq_true rfl) ?_
  change ax_J _ _ _ _ _ _ _ _ _ _ [some (.inr (.inr (some (3, 0)))), some (.inl op), none, none] _ _
  refine aj_run (C := (0 ≤ g 3 0 7 ∧ g 3 0 7 < n 303 0) ∧ True) (pc' := 12) (la' := [some (.inr (.inr (some (3, 0)))), some (.inl op), some (.inl (g 303 0 (g 3 0 7))), none]) (st' := [.inl 2, .inl (g 303 0 (g 3 0 7))]) (M' := (P, g, r0, n)) ok_X8_readOne true 8 rfl (by refine ⟨?_, trivial⟩ <;> (omega)) ?_
  refine aj_icmp_eq (tgt := 20) (ax_dec2 (i := .if_icmp .eq 8) (n := 3) ok_X8_readOne rfl) (by decide) (fun c1 => ?_) (fun c1 => ?_)
  · refine aj_run (C := (-2147483648 ≤ (g 3 0 7) + 1 ∧ (g 3 0 7) + 1 ≤ 2147483647) ∧ True) (pc' := 30) (la' := [some (.inr (.inr (some (3, 0)))), some (.inl op), some (.inl (g 303 0 (g 3 0 7))), none]) (st' := []) (M' := (P, ax_u3 g 3 0 7 ((g 3 0 7) + 1), r0, n)) ok_X8_readOne true 6 rfl (by refine ⟨?_, trivial⟩ <;> (omega)) ?_
    have hr1 := cRd_adv (t := T s.1) hr rfl (by omega)
    have hvv : g 305 0 (g 3 0 7 + 1 - 1) = V s.1 := by rw [show g 3 0 7 + 1 - 1 = g 3 0 7 by omega]; exact htk.2.2 (by omega)
    refine aj_run (C := (-2147483648 ≤ ((g 3 0 7) + 1) - 1 ∧ ((g 3 0 7) + 1) - 1 ≤ 2147483647) ∧ (0 ≤ ((g 3 0 7) + 1) - 1 ∧ ((g 3 0 7) + 1) - 1 < n 305 0) ∧ True) (pc' := 44) (la' := [some (.inr (.inr (some (3, 0)))), some (.inl op), some (.inl (g 303 0 (g 3 0 7))), none]) (st' := [.inl 0, .inl (g 305 0 (((g 3 0 7) + 1) - 1)), .inl (g 303 0 (g 3 0 7)), .inr (.inr (some (3, 0)))]) (M' := (P, ax_u3 g 3 0 7 ((g 3 0 7) + 1), r0, n)) ok_X8_readOne true 10 rfl (by refine ⟨?_, ?_, trivial⟩ <;> (omega)) ?_
    refine aj_callV (av := [.inl (g 303 0 (g 3 0 7)), .inl (g 305 0 (((g 3 0 7) + 1) - 1)), .inl 0]) (st := []) (f := 3) (o := 0) (ci := 8) cal_X8_node lk_8_144 ins_X8_node rfl sel_X8_node rfl (fun c9 h9 _ => by simpa [ax_ok] using h9) (cp_node (g 303 0 (g 3 0 7)) (g 305 0 (((g 3 0 7) + 1) - 1)) 0 (rAdv s) _ _ _ _ hn hr1) ⟨by show _ ≤ D; omega, by show _ ≤ 64 * (D); omega, Nat.le_refl 0, Nat.le_refl 0⟩ (Nat.le_of_ble_eq_true rfl) (ax_dec2 (i := .invokevirtual 144) (n := 3) ok_X8_readOne rfl) (fun r M' hq => ?_)
    obtain ⟨rfl, g102, rfl, fr102, hr2⟩ := hq
    have fs2 := cFr_t fr102 (cFr_t fr7 (fun _ _ _ _ => rfl))
    change ax_J _ _ _ _ _ _ _ _ _ 47 [some (.inr (.inr (some (3, 0)))), some (.inl op), some (.inl (g 303 0 (g 3 0 7))), none] [.inl ((rNd (g 303 0 (g 3 0 7)) (g 305 0 (((g 3 0 7) + 1) - 1)) 0 (rAdv s)).1)] (P, g102, r0, n)
    refine aj_ret (r := some (.inl ((rNd (g 303 0 (g 3 0 7)) (g 305 0 (((g 3 0 7) + 1) - 1)) 0 (rAdv s)).1))) (ax_dec2 (i := .ireturn) (n := 1) ok_X8_readOne rfl) ⟨?_, ?_, by decide, by decide⟩ rfl
    · exact ⟨ax_si (by unfold rOne; rw [if_pos (by omega), hvv, htk.1]), _, rfl, fs2, by unfold rOne; rw [if_pos (by omega), ← hvv, ← htk.1]; exact hr2⟩
    · exact ax_ro_i
  · refine aj_run (C := True) (pc' := 17) (la' := [some (.inr (.inr (some (3, 0)))), some (.inl op), some (.inl (g 303 0 (g 3 0 7))), none]) (st' := [.inl 3, .inl (g 303 0 (g 3 0 7))]) (M' := (P, g, r0, n)) ok_X8_readOne true 2 rfl trivial ?_
    refine aj_icmp_ne (tgt := 48) (ax_dec2 (i := .if_icmp .ne 31) (n := 3) ok_X8_readOne rfl) (by decide) (fun c2 => ?_) (fun c2 => ?_)
    · refine aj_run (C := True) (pc' := 51) (la' := [some (.inr (.inr (some (3, 0)))), some (.inl op), some (.inl (g 303 0 (g 3 0 7))), none]) (st' := [.inl 45, .inl (g 303 0 (g 3 0 7))]) (M' := (P, g, r0, n)) ok_X8_readOne true 2 rfl trivial ?_
      refine aj_icmp_eq (tgt := 60) (ax_dec2 (i := .if_icmp .eq 9) (n := 3) ok_X8_readOne rfl) (by decide) (fun c3 => ?_) (fun c3 => ?_)
      · refine aj_run (C := True) (pc' := 62) (la' := [some (.inr (.inr (some (3, 0)))), some (.inl op), some (.inl (g 303 0 (g 3 0 7))), none]) (st' := [.inl 5, .inl op]) (M' := (P, g, r0, n)) ok_X8_readOne true 2 rfl trivial ?_
        refine aj_icmp_lt (tgt := 70) (ax_dec2 (i := .if_icmp .lt 8) (n := 3) ok_X8_readOne rfl) (by decide) (fun c4 => ?_) (fun c4 => ?_)
        · refine aj_run (C := (-2147483648 ≤ (g 3 0 7) + 1 ∧ (g 3 0 7) + 1 ≤ 2147483647) ∧ True) (pc' := 80) (la' := [some (.inr (.inr (some (3, 0)))), some (.inl op), some (.inl (g 303 0 (g 3 0 7))), none]) (st' := []) (M' := (P, ax_u3 g 3 0 7 ((g 3 0 7) + 1), r0, n)) ok_X8_readOne true 6 rfl (by refine ⟨?_, trivial⟩ <;> (omega)) ?_
          have hr3 := cRd_adv (t := T s.1) hr rfl (by omega)
          refine aj_run (C := True) (pc' := 83) (la' := [some (.inr (.inr (some (3, 0)))), some (.inl op), some (.inl (g 303 0 (g 3 0 7))), none]) (st' := [.inl 45, .inl (g 303 0 (g 3 0 7))]) (M' := (P, ax_u3 g 3 0 7 ((g 3 0 7) + 1), r0, n)) ok_X8_readOne true 2 rfl trivial ?_
          refine aj_icmp_ne (tgt := 100) (ax_dec2 (i := .if_icmp .ne 17) (n := 3) ok_X8_readOne rfl) (by decide) (fun c5 => ?_) (fun c5 => ?_)
          · exact absurd c5 (by omega)
          · refine aj_run (C := (-2147483648 ≤ op + 1 ∧ op + 1 ≤ 2147483647) ∧ True) (pc' := 92) (la' := [some (.inr (.inr (some (3, 0)))), some (.inl op), some (.inl (g 303 0 (g 3 0 7))), none]) (st' := [.inl (op + 1), .inr (.inr (some (3, 0))), .inl 4, .inr (.inr (some (3, 0)))]) (M' := (P, ax_u3 g 3 0 7 ((g 3 0 7) + 1), r0, n)) ok_X8_readOne true 6 rfl (by refine ⟨?_, trivial⟩ <;> (omega)) ?_
            refine aj_callV (av := [.inl (op + 1)]) (st := [.inl 4, .inr (.inr (some (3, 0)))]) (f := 3) (o := 0) (ci := 8) cal_X8_readOne lk_8_156 ins_X8_readOne rfl sel_X8_readOne rfl (fun c9 h9 _ => by simpa [ax_ok] using h9) (hreadOne (rAdv s) _ _ _ _ hn hr3) ⟨by show _ ≤ D; omega, by show _ ≤ 64 * (D); omega, Nat.le_refl 0, Nat.le_refl 0⟩ (Nat.le_of_ble_eq_true rfl) (ax_dec2 (i := .invokevirtual 156) (n := 3) ok_X8_readOne rfl) (fun r M' hq => ?_)
            obtain ⟨rfl, g104, rfl, fr104, hr4⟩ := hq
            have fs4 := cFr_t fr104 (cFr_t fr7 (fun _ _ _ _ => rfl))
            change ax_J _ _ _ _ _ _ _ _ _ 95 [some (.inr (.inr (some (3, 0)))), some (.inl op), some (.inl (g 303 0 (g 3 0 7))), none] [.inl ((one (rAdv s)).1), .inl 4, .inr (.inr (some (3, 0)))] (P, g104, r0, n)
            refine aj_run (C := True) (pc' := 96) (la' := [some (.inr (.inr (some (3, 0)))), some (.inl op), some (.inl (g 303 0 (g 3 0 7))), none]) (st' := [.inl 0, .inl ((one (rAdv s)).1), .inl 4, .inr (.inr (some (3, 0)))]) (M' := (P, g104, r0, n)) ok_X8_readOne true 1 rfl trivial ?_
            refine aj_callV (av := [.inl 4, .inl ((one (rAdv s)).1), .inl 0]) (st := []) (f := 3) (o := 0) (ci := 8) cal_X8_node lk_8_144 ins_X8_node rfl sel_X8_node rfl (fun c9 h9 _ => by simpa [ax_ok] using h9) (cp_node 4 ((one (rAdv s)).1) 0 ((one (rAdv s)).2) _ _ _ _ hn hr4) ⟨by show _ ≤ D; omega, by show _ ≤ 64 * (D); omega, Nat.le_refl 0, Nat.le_refl 0⟩ (Nat.le_of_ble_eq_true rfl) (ax_dec2 (i := .invokevirtual 144) (n := 3) ok_X8_readOne rfl) (fun r M' hq => ?_)
            obtain ⟨rfl, g105, rfl, fr105, hr5⟩ := hq
            have fs5 := cFr_t fr105 fs4
            change ax_J _ _ _ _ _ _ _ _ _ 99 [some (.inr (.inr (some (3, 0)))), some (.inl op), some (.inl (g 303 0 (g 3 0 7))), none] [.inl ((rNd 4 ((one (rAdv s)).1) 0 ((one (rAdv s)).2)).1)] (P, g105, r0, n)
            refine aj_ret (r := some (.inl ((rNd 4 ((one (rAdv s)).1) 0 ((one (rAdv s)).2)).1))) (ax_dec2 (i := .ireturn) (n := 1) ok_X8_readOne rfl) ⟨?_, ?_, by decide, by decide⟩ rfl
            · exact ⟨ax_si (by unfold rOne; rw [if_neg (by omega)]; show _ = (if T s.1 = 45 then rNd 4 (one (rAdv s)).1 0 (one (rAdv s)).2 else if T s.1 = 40 then ((et (rAdv s)).1, rNeed T p N 41 (et (rAdv s)).2) else (0, rRef p N s)).1; rw [if_pos (by omega)]), _, rfl, fs5, by unfold rOne; rw [if_neg (by omega)]; show cRd T V p N _ (if T s.1 = 45 then rNd 4 (one (rAdv s)).1 0 (one (rAdv s)).2 else if T s.1 = 40 then ((et (rAdv s)).1, rNeed T p N 41 (et (rAdv s)).2) else (0, rRef p N s)).2; rw [if_pos (by omega)]; exact hr5⟩
            · exact ax_ro_i
        · exact absurd c4 (by omega)
      · refine aj_run (C := True) (pc' := 57) (la' := [some (.inr (.inr (some (3, 0)))), some (.inl op), some (.inl (g 303 0 (g 3 0 7))), none]) (st' := [.inl 40, .inl (g 303 0 (g 3 0 7))]) (M' := (P, g, r0, n)) ok_X8_readOne true 2 rfl trivial ?_
        refine aj_icmp_ne (tgt := 65) (ax_dec2 (i := .if_icmp .ne 8) (n := 3) ok_X8_readOne rfl) (by decide) (fun c6 => ?_) (fun c6 => ?_)
        · refine aj_run (C := True) (pc' := 66) (la' := [some (.inr (.inr (some (3, 0)))), some (.inl op), some (.inl (g 303 0 (g 3 0 7))), none]) (st' := [.inr (.inr (some (3, 0)))]) (M' := (P, g, r0, n)) ok_X8_readOne true 1 rfl trivial ?_
          refine aj_callV (av := []) (st := []) (f := 3) (o := 0) (ci := 8) cal_X8_refuse lk_8_56 ins_X8_refuse rfl sel_X8_refuse rfl (fun c9 h9 _ => by simpa [ax_ok] using h9) (cp_refuse s _ _ _ _ hn hr) ⟨by show _ ≤ D; omega, by show _ ≤ 64 * (D); omega, Nat.le_refl 0, Nat.le_refl 0⟩ (Nat.le_of_ble_eq_true rfl) (ax_dec2 (i := .invokevirtual 56) (n := 3) ok_X8_readOne rfl) (fun r M' hq => ?_)
          obtain ⟨rfl, g106, rfl, fr106, hr6⟩ := hq
          have fs6 := cFr_t fr106 (fun _ _ _ _ => rfl)
          change ax_J _ _ _ _ _ _ _ _ _ 69 [some (.inr (.inr (some (3, 0)))), some (.inl op), some (.inl (g 303 0 (g 3 0 7))), none] [.inl 0] (P, g106, r0, n)
          refine aj_ret (r := some (.inl 0)) (ax_dec2 (i := .ireturn) (n := 1) ok_X8_readOne rfl) ⟨?_, ?_, by decide, by decide⟩ rfl
          · exact ⟨ax_si (by unfold rOne; rw [if_neg (by omega)]; show _ = (if T s.1 = 45 then rNd 4 (one (rAdv s)).1 0 (one (rAdv s)).2 else if T s.1 = 40 then ((et (rAdv s)).1, rNeed T p N 41 (et (rAdv s)).2) else (0, rRef p N s)).1; rw [if_neg (by omega), if_neg (by omega)]), _, rfl, fs6, by unfold rOne; rw [if_neg (by omega)]; show cRd T V p N _ (if T s.1 = 45 then rNd 4 (one (rAdv s)).1 0 (one (rAdv s)).2 else if T s.1 = 40 then ((et (rAdv s)).1, rNeed T p N 41 (et (rAdv s)).2) else (0, rRef p N s)).2; rw [if_neg (by omega), if_neg (by omega)]; exact hr6⟩
          · exact ax_ro_i
        · refine aj_run (C := True) (pc' := 62) (la' := [some (.inr (.inr (some (3, 0)))), some (.inl op), some (.inl (g 303 0 (g 3 0 7))), none]) (st' := [.inl 5, .inl op]) (M' := (P, g, r0, n)) ok_X8_readOne true 2 rfl trivial ?_
          refine aj_icmp_lt (tgt := 70) (ax_dec2 (i := .if_icmp .lt 8) (n := 3) ok_X8_readOne rfl) (by decide) (fun c7 => ?_) (fun c7 => ?_)
          · refine aj_run (C := (-2147483648 ≤ (g 3 0 7) + 1 ∧ (g 3 0 7) + 1 ≤ 2147483647) ∧ True) (pc' := 80) (la' := [some (.inr (.inr (some (3, 0)))), some (.inl op), some (.inl (g 303 0 (g 3 0 7))), none]) (st' := []) (M' := (P, ax_u3 g 3 0 7 ((g 3 0 7) + 1), r0, n)) ok_X8_readOne true 6 rfl (by refine ⟨?_, trivial⟩ <;> (omega)) ?_
            have hr7 := cRd_adv (t := T s.1) hr rfl (by omega)
            refine aj_run (C := True) (pc' := 83) (la' := [some (.inr (.inr (some (3, 0)))), some (.inl op), some (.inl (g 303 0 (g 3 0 7))), none]) (st' := [.inl 45, .inl (g 303 0 (g 3 0 7))]) (M' := (P, ax_u3 g 3 0 7 ((g 3 0 7) + 1), r0, n)) ok_X8_readOne true 2 rfl trivial ?_
            refine aj_icmp_ne (tgt := 100) (ax_dec2 (i := .if_icmp .ne 17) (n := 3) ok_X8_readOne rfl) (by decide) (fun c8 => ?_) (fun c8 => ?_)
            · refine aj_run (C := (-2147483648 ≤ op + 1 ∧ op + 1 ≤ 2147483647) ∧ True) (pc' := 104) (la' := [some (.inr (.inr (some (3, 0)))), some (.inl op), some (.inl (g 303 0 (g 3 0 7))), none]) (st' := [.inl (op + 1), .inr (.inr (some (3, 0)))]) (M' := (P, ax_u3 g 3 0 7 ((g 3 0 7) + 1), r0, n)) ok_X8_readOne true 4 rfl (by refine ⟨?_, trivial⟩ <;> (omega)) ?_
              refine aj_callV (av := [.inl (op + 1)]) (st := []) (f := 3) (o := 0) (ci := 8) cal_X8_readEither lk_8_135 ins_X8_readEither rfl sel_X8_readEither rfl (fun c9 h9 _ => by simpa [ax_ok] using h9) (hreadEither (rAdv s) _ _ _ _ hn hr7) ⟨by show _ ≤ D; omega, by show _ ≤ 64 * (D); omega, Nat.le_refl 0, Nat.le_refl 0⟩ (Nat.le_of_ble_eq_true rfl) (ax_dec2 (i := .invokevirtual 135) (n := 3) ok_X8_readOne rfl) (fun r M' hq => ?_)
              obtain ⟨rfl, g108, rfl, fr108, hr8⟩ := hq
              have fs8 := cFr_t fr108 (cFr_t fr7 (fun _ _ _ _ => rfl))
              change ax_J _ _ _ _ _ _ _ _ _ 107 [some (.inr (.inr (some (3, 0)))), some (.inl op), some (.inl (g 303 0 (g 3 0 7))), none] [.inl ((et (rAdv s)).1)] (P, g108, r0, n)
              refine aj_run (C := True) (pc' := 111) (la' := [some (.inr (.inr (some (3, 0)))), some (.inl op), some (.inl (g 303 0 (g 3 0 7))), some (.inl ((et (rAdv s)).1))]) (st' := [.inl 41, .inr (.inr (some (3, 0)))]) (M' := (P, g108, r0, n)) ok_X8_readOne true 3 rfl trivial ?_
              refine aj_callV (av := [.inl 41]) (st := []) (f := 3) (o := 0) (ci := 8) cal_X8_need lk_8_131 ins_X8_need rfl sel_X8_need rfl (fun c9 h9 _ => by simpa [ax_ok] using h9) (cp_need 41 ((et (rAdv s)).2) _ _ _ _ hn hr8 (by decide)) ⟨by show _ ≤ D; omega, by show _ ≤ 64 * (D); omega, Nat.le_refl 0, Nat.le_refl 0⟩ (Nat.le_of_ble_eq_true rfl) (ax_dec2 (i := .invokevirtual 131) (n := 3) ok_X8_readOne rfl) (fun r M' hq => ?_)
              obtain ⟨rfl, g109, rfl, fr109, hr9⟩ := hq
              have fs9 := cFr_t fr109 fs8
              change ax_J _ _ _ _ _ _ _ _ _ 114 [some (.inr (.inr (some (3, 0)))), some (.inl op), some (.inl (g 303 0 (g 3 0 7))), some (.inl ((et (rAdv s)).1))] [] (P, g109, r0, n)
              refine aj_run (C := True) (pc' := 115) (la' := [some (.inr (.inr (some (3, 0)))), some (.inl op), some (.inl (g 303 0 (g 3 0 7))), some (.inl ((et (rAdv s)).1))]) (st' := [.inl ((et (rAdv s)).1)]) (M' := (P, g109, r0, n)) ok_X8_readOne true 1 rfl trivial ?_
              refine aj_ret (r := some (.inl ((et (rAdv s)).1))) (ax_dec2 (i := .ireturn) (n := 1) ok_X8_readOne rfl) ⟨?_, ?_, by decide, by decide⟩ rfl
              · exact ⟨ax_si (by unfold rOne; rw [if_neg (by omega)]; show _ = (if T s.1 = 45 then rNd 4 (one (rAdv s)).1 0 (one (rAdv s)).2 else if T s.1 = 40 then ((et (rAdv s)).1, rNeed T p N 41 (et (rAdv s)).2) else (0, rRef p N s)).1; rw [if_neg (by omega), if_pos (by omega)]), _, rfl, fs9, by unfold rOne; rw [if_neg (by omega)]; show cRd T V p N _ (if T s.1 = 45 then rNd 4 (one (rAdv s)).1 0 (one (rAdv s)).2 else if T s.1 = 40 then ((et (rAdv s)).1, rNeed T p N 41 (et (rAdv s)).2) else (0, rRef p N s)).2; rw [if_neg (by omega), if_pos (by omega)]; exact hr9⟩
              · exact ax_ro_i
            · exact absurd c8 (by omega)
          · exact absurd c7 (by omega)
    · refine aj_run (C := (-2147483648 ≤ (g 3 0 7) + 1 ∧ (g 3 0 7) + 1 ≤ 2147483647) ∧ True) (pc' := 30) (la' := [some (.inr (.inr (some (3, 0)))), some (.inl op), some (.inl (g 303 0 (g 3 0 7))), none]) (st' := []) (M' := (P, ax_u3 g 3 0 7 ((g 3 0 7) + 1), r0, n)) ok_X8_readOne true 6 rfl (by refine ⟨?_, trivial⟩ <;> (omega)) ?_
      have hr10 := cRd_adv (t := T s.1) hr rfl (by omega)
      have hvv : g 305 0 (g 3 0 7 + 1 - 1) = V s.1 := by rw [show g 3 0 7 + 1 - 1 = g 3 0 7 by omega]; exact htk.2.2 (by omega)
      refine aj_run (C := (-2147483648 ≤ ((g 3 0 7) + 1) - 1 ∧ ((g 3 0 7) + 1) - 1 ≤ 2147483647) ∧ (0 ≤ ((g 3 0 7) + 1) - 1 ∧ ((g 3 0 7) + 1) - 1 < n 305 0) ∧ True) (pc' := 44) (la' := [some (.inr (.inr (some (3, 0)))), some (.inl op), some (.inl (g 303 0 (g 3 0 7))), none]) (st' := [.inl 0, .inl (g 305 0 (((g 3 0 7) + 1) - 1)), .inl (g 303 0 (g 3 0 7)), .inr (.inr (some (3, 0)))]) (M' := (P, ax_u3 g 3 0 7 ((g 3 0 7) + 1), r0, n)) ok_X8_readOne true 10 rfl (by refine ⟨?_, ?_, trivial⟩ <;> (omega)) ?_
      refine aj_callV (av := [.inl (g 303 0 (g 3 0 7)), .inl (g 305 0 (((g 3 0 7) + 1) - 1)), .inl 0]) (st := []) (f := 3) (o := 0) (ci := 8) cal_X8_node lk_8_144 ins_X8_node rfl sel_X8_node rfl (fun c9 h9 _ => by simpa [ax_ok] using h9) (cp_node (g 303 0 (g 3 0 7)) (g 305 0 (((g 3 0 7) + 1) - 1)) 0 (rAdv s) _ _ _ _ hn hr10) ⟨by show _ ≤ D; omega, by show _ ≤ 64 * (D); omega, Nat.le_refl 0, Nat.le_refl 0⟩ (Nat.le_of_ble_eq_true rfl) (ax_dec2 (i := .invokevirtual 144) (n := 3) ok_X8_readOne rfl) (fun r M' hq => ?_)
      obtain ⟨rfl, g111, rfl, fr111, hr11⟩ := hq
      have fs11 := cFr_t fr111 (cFr_t fr7 (fun _ _ _ _ => rfl))
      change ax_J _ _ _ _ _ _ _ _ _ 47 [some (.inr (.inr (some (3, 0)))), some (.inl op), some (.inl (g 303 0 (g 3 0 7))), none] [.inl ((rNd (g 303 0 (g 3 0 7)) (g 305 0 (((g 3 0 7) + 1) - 1)) 0 (rAdv s)).1)] (P, g111, r0, n)
      refine aj_ret (r := some (.inl ((rNd (g 303 0 (g 3 0 7)) (g 305 0 (((g 3 0 7) + 1) - 1)) 0 (rAdv s)).1))) (ax_dec2 (i := .ireturn) (n := 1) ok_X8_readOne rfl) ⟨?_, ?_, by decide, by decide⟩ rfl
      · exact ⟨ax_si (by unfold rOne; rw [if_pos (by omega), hvv, htk.1]), _, rfl, fs11, by unfold rOne; rw [if_pos (by omega), ← hvv, ← htk.1]; exact hr11⟩
      · exact ax_ro_i

/-- all of them, d brackets or signs to go -/
theorem cp_readAll {T V p : Int → Int} {N : Int} : ∀ (d : Nat) (op : Int), 0 ≤ op → op + d = 5 → cRdS T V p N yX8_readOne cX8_readOne 4 (3 + 6 * d) op (rAll T V p N d).1 ∧ cRdS T V p N yX8_readNot cX8_readNot 4 (3 + 6 * d + 1 + 1 + 1) op (rAll T V p N d).2 ∧ cRdS T V p N yX8_readEither cX8_readEither 4 (3 + 6 * d + 1 + 1 + 1 + 1 + 1) op (rEith T (rAll T V p N d).2)
  | 0, op, h0, h => by
    have h1 : cRdS T V p N yX8_readOne cX8_readOne 4 (3 + 6 * 0) op (rAll T V p N 0).1 := cp_readOne0 (by omega) (by omega)
    have h2 : cRdS T V p N yX8_readNot cX8_readNot 4 (3 + 6 * 0 + 1 + 1 + 1) op (rAll T V p N 0).2 := cp_readNot0 (by omega) (by omega) (cp_readSum (by omega) (cp_readTerm (by omega) h1))
    exact ⟨h1, h2, cp_readEith (by omega) (cp_readBoth (by omega) h2)⟩
  | d + 1, op, h0, h => by
    obtain ⟨i1, i2, i3⟩ := cp_readAll (T := T) (V := V) (p := p) (N := N) d (op + 1) (by omega) (by omega)
    have h1 : cRdS T V p N yX8_readOne cX8_readOne 4 (3 + 6 * (d + 1)) op (rAll T V p N (d + 1)).1 := cp_readOne1 (by omega) (by omega) h0 (by omega) (by omega) i1 i3
    have h2 : cRdS T V p N yX8_readNot cX8_readNot 4 (3 + 6 * (d + 1) + 1 + 1 + 1) op (rAll T V p N (d + 1)).2 := cp_readNot1 (by omega) (by omega) h0 (by omega) (cp_readSum (by omega) (cp_readTerm (by omega) h1)) i2
    exact ⟨h1, h2, cp_readEith (by omega) (cp_readBoth (by omega) h2)⟩
