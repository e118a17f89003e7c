/-! ===== a part; rows copied; a rule made ===== -/
def TRp : Nat → Int → Int → Prop := fun f o j => f = 311 ∨ TRd f o j
def rRoot (T V p : Int → Int) (N t : Int) (s : rdS) : Int := (rEith T (rAll T V p N 5).2 (rNeed T p N t s)).1
def rPart (T V p : Int → Int) (N t : Int) (s : rdS) : rdS := rNeed T p N 59 (rEith T (rAll T V p N 5).2 (rNeed T p N t s)).2
theorem cRd_311 {T V p : Int → Int} {N x y : Int} {g : Nat → Int → Int → Int} {s : rdS} (h : cRd T V p N g s) : cRd T V p N (ax_u3 g 311 0 x y) s := by
  have e : ∀ f o j, f ≠ 311 → ax_u3 g 311 0 x y f o j = g f o j := fun f o j z => ax_u3_n (by omega)
  refine ⟨⟨h.1.1, by rw [e 3 0 6 (by decide)]; exact h.1.2.1, h.1.2.2.1, fun i z1 z2 => by rw [e 303 0 i (by decide), e 304 0 i (by decide), e 305 0 i (by decide)]; exact h.1.2.2.2 i z1 z2⟩, ⟨by rw [e 3 0 7 (by decide)]; exact h.2.1.1, h.2.1.2⟩, ⟨by rw [e 3 0 12 (by decide)]; exact h.2.2.1.1, h.2.2.1.2⟩, fun k q hq => by rw [e 308 0 k (by decide), e 309 0 k (by decide), e 310 0 k (by decide)]; exact h.2.2.2.1 k q hq, by rw [e 3 0 1 (by decide)]; exact h.2.2.2.2⟩
set_option maxRecDepth 100000 in
set_option maxHeartbeats 4000000 in
theorem cp_readPart (t q : Int) {T V p : Int → Int} {N : Int} (s : rdS) (P : Nat → Int → Prop) (g : Nat → Int → Int → Int) (r0 : Nat → Int → Int → Option (Nat × Int)) (n : Nat → Int → Int) (hn : cTL n) (hr : cRd T V p N g s) (h0 : t ≠ 0) (hq3 : 0 ≤ q ∧ q < 3) : ax_S yX8_readPart cX8_readPart 3 none 39 0 0 [.inr (.inr (some (3, 0))), .inl t, .inl q] (P, g, r0, n) (fun r M' => r = none ∧ ∃ g', M' = (P, g', r0, n) ∧ cFr TRp g' g ∧ cRd T V p N g' (rPart T V p N t s) ∧ g' 311 0 q = rRoot T V p N t s ∧ ∀ j, j ≠ q → g' 311 0 j = g 311 0 j) := by
  obtain ⟨n302, n303, n304, n305, n308, n309, n310, n311⟩ := id hn
  obtain ⟨hTs, hr7, hr12, hrl, hr1⟩ := id hr
  obtain ⟨hN, hT6, hT0, hTi⟩ := id hTs
  have htk := cRd_t hr
  refine ax_S_of (own := 8) (by decide) rfl (fun h => absurd h (by decide)) rfl (Nat.le_of_ble_eq_true rfl) ?_
  change ax_J _ _ _ _ _ _ _ _ _ _ [some (.inr (.inr (some (3, 0)))), some (.inl t), some (.inl q)] _ _
  refine aj_run (C := True) (pc' := 2) (la' := [some (.inr (.inr (some (3, 0)))), some (.inl t), some (.inl q)]) (st' := [.inl t, .inr (.inr (some (3, 0)))]) (M' := (P, g, r0, n)) ok_X8_readPart true 2 rfl trivial ?_
  refine aj_callV (av := [.inl t]) (st := []) (f := 3) (o := 0) (ci := 8) cal_X8_need lk_8_131 ins_X8_need rfl sel_X8_need rfl (fun c9 h9 _ => by simpa [ax_ok] using h9) (cp_need t s _ _ _ _ hn hr h0) ⟨by decide, by decide, by decide, by decide⟩ (Nat.le_of_ble_eq_true rfl) (ax_dec2 (i := .invokevirtual 131) (n := 3) ok_X8_readPart rfl) (fun r M' hq => ?_)
  obtain ⟨rfl, g101, rfl, fr101, hr1⟩ := hq
  have fs1 := cFr_t fr101 (fun _ _ _ _ => rfl)
  change ax_J _ _ _ _ _ _ _ _ _ 5 [some (.inr (.inr (some (3, 0)))), some (.inl t), some (.inl q)] [] (P, g101, r0, n)
  refine aj_run (C := True) (pc' := 12) (la' := [some (.inr (.inr (some (3, 0)))), some (.inl t), some (.inl q)]) (st' := [.inl 0, .inr (.inr (some (3, 0))), .inl q, .inr (.inr (some (311, 0)))]) (M' := (P, g101, r0, n)) ok_X8_readPart true 5 rfl trivial ?_
  refine aj_callV (av := [.inl 0]) (st := [.inl q, .inr (.inr (some (311, 0)))]) (f := 3) (o := 0) (ci := 8) cal_X8_readEither lk_8_135 ins_X8_readEither rfl sel_X8_readEither rfl (fun c9 h9 _ => by simpa [ax_ok] using h9) ((cp_readAll (T := T) (V := V) (p := p) (N := N) 5 0 (by decide) (by decide)).2.2 (rNeed T p N t s) _ _ _ _ hn hr1) ⟨by decide, by decide, by decide, by decide⟩ (Nat.le_of_ble_eq_true rfl) (ax_dec2 (i := .invokevirtual 135) (n := 3) ok_X8_readPart rfl) (fun r M' hq => ?_)
  obtain ⟨rfl, g102, rfl, fr102, hr2⟩ := hq
  have fs2 := cFr_t fr102 fs1
  change ax_J _ _ _ _ _ _ _ _ _ 15 [some (.inr (.inr (some (3, 0)))), some (.inl t), some (.inl q)] [.inl ((rEith T (rAll T V p N 5).2 (rNeed T p N t s)).1), .inl q, .inr (.inr (some (311, 0)))] (P, g102, r0, n)
  refine aj_run (C := (0 ≤ q ∧ q < n 311 0) ∧ True) (pc' := 16) (la' := [some (.inr (.inr (some (3, 0)))), some (.inl t), some (.inl q)]) (st' := []) (M' := (P, ax_u3 g102 311 0 q ((rEith T (rAll T V p N 5).2 (rNeed T p N t s)).1), r0, n)) ok_X8_readPart true 1 rfl (by refine ⟨?_, trivial⟩ <;> (omega)) ?_
  have hr3 := cRd_311 (x := q) (y := rRoot T V p N t s) hr2
  refine aj_run (C := True) (pc' := 19) (la' := [some (.inr (.inr (some (3, 0)))), some (.inl t), some (.inl q)]) (st' := [.inl 59, .inr (.inr (some (3, 0)))]) (M' := (P, ax_u3 g102 311 0 q ((rEith T (rAll T V p N 5).2 (rNeed T p N t s)).1), r0, n)) ok_X8_readPart true 2 rfl trivial ?_
  refine aj_callV (av := [.inl 59]) (st := []) (f := 3) (o := 0) (ci := 8) cal_X8_need lk_8_131 ins_X8_need rfl sel_X8_need rfl (fun c9 h9 _ => by simpa [ax_ok] using h9) (cp_need 59 ((rEith T (rAll T V p N 5).2 (rNeed T p N t s)).2) _ _ _ _ hn hr3 (by decide)) ⟨by decide, by decide, by decide, by decide⟩ (Nat.le_of_ble_eq_true rfl) (ax_dec2 (i := .invokevirtual 131) (n := 3) ok_X8_readPart rfl) (fun r M' hq => ?_)
  obtain ⟨rfl, g104, rfl, fr104, hr4⟩ := hq
  have fs4 := cFr_t fr104 (fun _ _ _ _ => rfl)
  change ax_J _ _ _ _ _ _ _ _ _ 22 [some (.inr (.inr (some (3, 0)))), some (.inl t), some (.inl q)] [] (P, g104, r0, n)
  refine aj_ret (r := none) (ax_dec2 (i := .return_) (n := 1) ok_X8_readPart rfl) ⟨?_, ?_, by decide, by decide⟩ rfl
  · exact ⟨rfl, _, rfl, fun f o j z => (fs4 f o j (fun y => z (Or.inr y))).trans ((ax_u3_n (fun y => z (Or.inl y.1))).trans (fs2 f o j (fun y => z (Or.inr y)))), hr4, by rw [fs4 311 0 q (by unfold TRd; omega)]; exact ax_u3_s, fun j z => by rw [fs4 311 0 j (by unfold TRd; omega), ax_u3_n (by omega)]; exact fs2 311 0 j (by unfold TRd; omega)⟩
  · exact trivial

set_option maxRecDepth 100000 in
set_option maxHeartbeats 4000000 in
theorem cp_copyOf_600 (t m : Int) (P : Nat → Int → Prop) (g : Nat → Int → Int → Int) (r0 : Nat → Int → Int → Option (Nat × Int)) (n : Nat → Int → Int) (hl : n 308 0 = 160) (hm : 0 ≤ m ∧ m ≤ 160) (hfr : ¬ P 600 t) (hnd : ax_nd (P, g, r0, n)) : ax_S yJ7_copyOf_59c91 cJ7_copyOf_59c91 3 (some (FieldType.array FieldType.int)) 1 1 160 [.inr (.inr (some (308, 0))), .inl m] (P, g, r0, n) (fun r M' => r = some (.inr (.inr (some (600, t)))) ∧ ∃ g', M' = (mkP P 600 t, g', mkR r0 600 t, mkN n 600 t m) ∧ (∀ j, 0 ≤ j → j < m → g' 600 t j = g 308 0 j) ∧ ∀ f o j, ¬ (f = 600 ∧ o = t) → g' f o j = g f o j) := by
  refine ax_S_of (own := 15) (by decide) rfl (fun h => absurd h (by decide)) rfl (Nat.le_of_ble_eq_true rfl) ?_
  change ax_J _ _ _ _ _ _ _ _ _ _ [some (.inr (.inr (some (308, 0)))), some (.inl m), none] _ _
  refine aj_run (C := True) (pc' := 3) (la' := [some (.inr (.inr (some (308, 0)))), some (.inl m), none]) (st' := [.inl (n 308 0), .inl m]) (M' := (P, g, r0, n)) ok_J7_copyOf_59c91 true 3 rfl trivial ?_
  refine aj_icmp_ne (tgt := 14) (ax_dec2 (i := .if_icmp .ne 11) (n := 3) ok_J7_copyOf_59c91 rfl) (by decide) (fun c1 => ?_) (fun c1 => ?_)
  · refine aj_run (C := True) (pc' := 15) (la' := [some (.inr (.inr (some (308, 0)))), some (.inl m), none]) (st' := [.inl m]) (M' := (P, g, r0, n)) ok_J7_copyOf_59c91 true 1 rfl trivial ?_
    refine aj_newA (f := 600) (o := t) (x := m) rfl rfl (by decide) (Or.inl ⟨rfl, rfl⟩) (by omega) hfr hnd (ax_T1 (i := 99) (by decide +kernel) rfl) ⟨Nat.le_refl 1, by show 0 + m.toNat ≤ 160; omega⟩ (ax_dec2 (i := .newarray .int) (n := 2) ok_J7_copyOf_59c91 rfl) ?_
    change ax_J _ _ _ _ _ _ _ _ _ 17 [some (.inr (.inr (some (308, 0)))), some (.inl m), none] [.inr (.inr (some (600, t)))] (mkP P 600 t, mkG g 600 t, mkR r0 600 t, mkN n 600 t m)
    have nd1 : ax_nd (mkP P 600 t, mkG g 600 t, mkR r0 600 t, mkN n 600 t m) := nd_mk hnd
    refine aj_run (C := True) (pc' := 25) (la' := [some (.inr (.inr (some (308, 0)))), some (.inl m), some (.inr (.inr (some (600, t))))]) (st' := [.inl m, .inl ((mkN n 600 t m) 308 0), .inl 0, .inr (.inr (some (600, t))), .inl 0, .inr (.inr (some (308, 0)))]) (M' := (mkP P 600 t, mkG g 600 t, mkR r0 600 t, mkN n 600 t m)) ok_J7_copyOf_59c91 true 8 rfl trivial ?_
    refine aj_mmin lk_15_304 ⟨by decide, by decide⟩ ⟨Nat.le_refl 1, by show 0 + m.toNat ≤ 160; omega⟩ (Nat.le_of_ble_eq_true rfl) (ax_dec2 (i := .invokestatic 304) (n := 3) ok_J7_copyOf_59c91 rfl) ?_
    rw [show (if m < (mkN n 600 t m) 308 0 then m else (mkN n 600 t m) 308 0) = m from by show (if m < mkN n 600 t m 308 0 then m else mkN n 600 t m 308 0) = m; rw [mkN_n (by omega)]; split <;> omega]
    refine aj_copy (f := 308) (f2 := 600) (o := 0) (o2 := t) (sp := 0) (dp := 0) (n := m) (st := []) lk_15_150 (ax_T2 (i := 100) (by decide +kernel) rfl) (ax_T2 (i := 99) (by decide +kernel) rfl) (ax_T1 (i := 12) (by decide +kernel) rfl) rfl rfl rfl rfl rfl rfl (by omega) ⟨by omega, by show 0 + m ≤ mkN n 600 t m 308 0; rw [mkN_n (by omega)]; omega⟩ ⟨by omega, by show 0 + m ≤ mkN n 600 t m 600 t; rw [mkN_s]; omega⟩ ⟨by decide, by decide⟩ (Nat.le_of_ble_eq_true rfl) (ax_dec2 (i := .invokestatic 150) (n := 3) ok_J7_copyOf_59c91 rfl) ?_
    change ax_J _ _ _ _ _ _ _ _ _ 31 [some (.inr (.inr (some (308, 0)))), some (.inl m), some (.inr (.inr (some (600, t))))] [] (mkP P 600 t, cpG (mkG g 600 t) 308 0 600 t 0 0 m, mkR r0 600 t, mkN n 600 t m)
    refine aj_run (C := True) (pc' := 32) (la' := [some (.inr (.inr (some (308, 0)))), some (.inl m), some (.inr (.inr (some (600, t))))]) (st' := [.inr (.inr (some (600, t)))]) (M' := (mkP P 600 t, cpG (mkG g 600 t) 308 0 600 t 0 0 m, mkR r0 600 t, mkN n 600 t m)) ok_J7_copyOf_59c91 true 1 rfl trivial ?_
    refine aj_ret (r := some (.inr (.inr (some (600, t))))) (ax_dec2 (i := .areturn) (n := 1) ok_J7_copyOf_59c91 rfl) ⟨?_, ?_, by decide, by first | decide | (show 0 + (n 308 0).toNat ≤ 160; omega) | omega⟩ rfl
    · (exact ⟨rfl, _, rfl, fun j z1 z2 => by rw [cpG_r (by omega) (by omega), mkG_n (by omega), show 0 + (j - 0) = j by omega], fun f9 o9 j9 z => by rw [cpG_o (by omega), mkG_n (by omega)]⟩)
    · exact trivial
  · refine aj_run (C := True) (pc' := 7) (la' := [some (.inr (.inr (some (308, 0)))), some (.inl m), none]) (st' := [.inr (.inr (some (308, 0)))]) (M' := (P, g, r0, n)) ok_J7_copyOf_59c91 true 1 rfl trivial ?_
    refine aj_clone (f := 308) (f2 := 600) (o := 0) (o2 := t) (st := []) lk_15_316 (ax_T2 (i := 89) (by decide +kernel) rfl) (ax_T2 (i := 90) (by decide +kernel) rfl) (ax_T2 (i := 91) (by decide +kernel) rfl) (ax_T2 (i := 92) (by decide +kernel) rfl) rfl rfl rfl rfl (by decide) rfl rfl hfr hnd ⟨by decide, by decide⟩ ⟨Nat.le_refl 1, by show 0 + (n 308 0).toNat ≤ 160; omega⟩ (Nat.le_of_ble_eq_true rfl) (ax_dec2 (i := .invokevirtual 316) (n := 3) ok_J7_copyOf_59c91 rfl) ?_
    change ax_J _ _ _ _ _ _ _ _ _ 10 [some (.inr (.inr (some (308, 0)))), some (.inl m), none] [.inr (.inr (some (600, t)))] (mkP P 600 t, cpG (mkG g 600 t) 308 0 600 t 0 0 (n 308 0), mkR r0 600 t, mkN n 600 t (n 308 0))
    refine aj_castI (ax_T2 (i := 94) (by decide +kernel) rfl) rfl rfl rfl (ax_dec2 (i := .checkcast 317) (n := 3) ok_J7_copyOf_59c91 rfl) ?_
    refine aj_ret (r := some (.inr (.inr (some (600, t))))) (ax_dec2 (i := .areturn) (n := 1) ok_J7_copyOf_59c91 rfl) ⟨?_, ?_, by decide, by first | decide | (show 0 + (n 308 0).toNat ≤ 160; omega) | omega⟩ rfl
    · (have hmn : m = n 308 0 := (by omega); subst hmn; exact ⟨rfl, _, rfl, fun j z1 z2 => by rw [cpG_r (by omega) (by omega), mkG_n (by omega), show 0 + (j - 0) = j by omega], fun f9 o9 j9 z => by rw [cpG_o (by omega), mkG_n (by omega)]⟩)
    · exact trivial

set_option maxRecDepth 100000 in
set_option maxHeartbeats 4000000 in
theorem cp_copyOf_601 (t m : Int) (P : Nat → Int → Prop) (g : Nat → Int → Int → Int) (r0 : Nat → Int → Int → Option (Nat × Int)) (n : Nat → Int → Int) (hl : n 309 0 = 160) (hm : 0 ≤ m ∧ m ≤ 160) (hfr : ¬ P 601 t) (hnd : ax_nd (P, g, r0, n)) : ax_S yJ7_copyOf_59c91 cJ7_copyOf_59c91 3 (some (FieldType.array FieldType.int)) 1 1 160 [.inr (.inr (some (309, 0))), .inl m] (P, g, r0, n) (fun r M' => r = some (.inr (.inr (some (601, t)))) ∧ ∃ g', M' = (mkP P 601 t, g', mkR r0 601 t, mkN n 601 t m) ∧ (∀ j, 0 ≤ j → j < m → g' 601 t j = g 309 0 j) ∧ ∀ f o j, ¬ (f = 601 ∧ o = t) → g' f o j = g f o j) := by
  refine ax_S_of (own := 15) (by decide) rfl (fun h => absurd h (by decide)) rfl (Nat.le_of_ble_eq_true rfl) ?_
  change ax_J _ _ _ _ _ _ _ _ _ _ [some (.inr (.inr (some (309, 0)))), some (.inl m), none] _ _
  refine aj_run (C := True) (pc' := 3) (la' := [some (.inr (.inr (some (309, 0)))), some (.inl m), none]) (st' := [.inl (n 309 0), .inl m]) (M' := (P, g, r0, n)) ok_J7_copyOf_59c91 true 3 rfl trivial ?_
  refine aj_icmp_ne (tgt := 14) (ax_dec2 (i := .if_icmp .ne 11) (n := 3) ok_J7_copyOf_59c91 rfl) (by decide) (fun c1 => ?_) (fun c1 => ?_)
  · refine aj_run (C := True) (pc' := 15) (la' := [some (.inr (.inr (some (309, 0)))), some (.inl m), none]) (st' := [.inl m]) (M' := (P, g, r0, n)) ok_J7_copyOf_59c91 true 1 rfl trivial ?_
    refine aj_newA (f := 601) (o := t) (x := m) rfl rfl (by decide) (Or.inl ⟨rfl, rfl⟩) (by omega) hfr hnd (ax_T1 (i := 99) (by decide +kernel) rfl) ⟨Nat.le_refl 1, by show 0 + m.toNat ≤ 160; omega⟩ (ax_dec2 (i := .newarray .int) (n := 2) ok_J7_copyOf_59c91 rfl) ?_
    change ax_J _ _ _ _ _ _ _ _ _ 17 [some (.inr (.inr (some (309, 0)))), some (.inl m), none] [.inr (.inr (some (601, t)))] (mkP P 601 t, mkG g 601 t, mkR r0 601 t, mkN n 601 t m)
    have nd1 : ax_nd (mkP P 601 t, mkG g 601 t, mkR r0 601 t, mkN n 601 t m) := nd_mk hnd
    refine aj_run (C := True) (pc' := 25) (la' := [some (.inr (.inr (some (309, 0)))), some (.inl m), some (.inr (.inr (some (601, t))))]) (st' := [.inl m, .inl ((mkN n 601 t m) 309 0), .inl 0, .inr (.inr (some (601, t))), .inl 0, .inr (.inr (some (309, 0)))]) (M' := (mkP P 601 t, mkG g 601 t, mkR r0 601 t, mkN n 601 t m)) ok_J7_copyOf_59c91 true 8 rfl trivial ?_
    refine aj_mmin lk_15_304 ⟨by decide, by decide⟩ ⟨Nat.le_refl 1, by show 0 + m.toNat ≤ 160; omega⟩ (Nat.le_of_ble_eq_true rfl) (ax_dec2 (i := .invokestatic 304) (n := 3) ok_J7_copyOf_59c91 rfl) ?_
    rw [show (if m < (mkN n 601 t m) 309 0 then m else (mkN n 601 t m) 309 0) = m from by show (if m < mkN n 601 t m 309 0 then m else mkN n 601 t m 309 0) = m; rw [mkN_n (by omega)]; split <;> omega]
    refine aj_copy (f := 309) (f2 := 601) (o := 0) (o2 := t) (sp := 0) (dp := 0) (n := m) (st := []) lk_15_150 (ax_T2 (i := 100) (by decide +kernel) rfl) (ax_T2 (i := 99) (by decide +kernel) rfl) (ax_T1 (i := 12) (by decide +kernel) rfl) rfl rfl rfl rfl rfl rfl (by omega) ⟨by omega, by show 0 + m ≤ mkN n 601 t m 309 0; rw [mkN_n (by omega)]; omega⟩ ⟨by omega, by show 0 + m ≤ mkN n 601 t m 601 t; rw [mkN_s]; omega⟩ ⟨by decide, by decide⟩ (Nat.le_of_ble_eq_true rfl) (ax_dec2 (i := .invokestatic 150) (n := 3) ok_J7_copyOf_59c91 rfl) ?_
    change ax_J _ _ _ _ _ _ _ _ _ 31 [some (.inr (.inr (some (309, 0)))), some (.inl m), some (.inr (.inr (some (601, t))))] [] (mkP P 601 t, cpG (mkG g 601 t) 309 0 601 t 0 0 m, mkR r0 601 t, mkN n 601 t m)
    refine aj_run (C := True) (pc' := 32) (la' := [some (.inr (.inr (some (309, 0)))), some (.inl m), some (.inr (.inr (some (601, t))))]) (st' := [.inr (.inr (some (601, t)))]) (M' := (mkP P 601 t, cpG (mkG g 601 t) 309 0 601 t 0 0 m, mkR r0 601 t, mkN n 601 t m)) ok_J7_copyOf_59c91 true 1 rfl trivial ?_
    refine aj_ret (r := some (.inr (.inr (some (601, t))))) (ax_dec2 (i := .areturn) (n := 1) ok_J7_copyOf_59c91 rfl) ⟨?_, ?_, by decide, by first | decide | (show 0 + (n 309 0).toNat ≤ 160; omega) | omega⟩ rfl
    · (exact ⟨rfl, _, rfl, fun j z1 z2 => by rw [cpG_r (by omega) (by omega), mkG_n (by omega), show 0 + (j - 0) = j by omega], fun f9 o9 j9 z => by rw [cpG_o (by omega), mkG_n (by omega)]⟩)
    · exact trivial
  · refine aj_run (C := True) (pc' := 7) (la' := [some (.inr (.inr (some (309, 0)))), some (.inl m), none]) (st' := [.inr (.inr (some (309, 0)))]) (M' := (P, g, r0, n)) ok_J7_copyOf_59c91 true 1 rfl trivial ?_
    refine aj_clone (f := 309) (f2 := 601) (o := 0) (o2 := t) (st := []) lk_15_316 (ax_T2 (i := 89) (by decide +kernel) rfl) (ax_T2 (i := 90) (by decide +kernel) rfl) (ax_T2 (i := 91) (by decide +kernel) rfl) (ax_T2 (i := 92) (by decide +kernel) rfl) rfl rfl rfl rfl (by decide) rfl rfl hfr hnd ⟨by decide, by decide⟩ ⟨Nat.le_refl 1, by show 0 + (n 309 0).toNat ≤ 160; omega⟩ (Nat.le_of_ble_eq_true rfl) (ax_dec2 (i := .invokevirtual 316) (n := 3) ok_J7_copyOf_59c91 rfl) ?_
    change ax_J _ _ _ _ _ _ _ _ _ 10 [some (.inr (.inr (some (309, 0)))), some (.inl m), none] [.inr (.inr (some (601, t)))] (mkP P 601 t, cpG (mkG g 601 t) 309 0 601 t 0 0 (n 309 0), mkR r0 601 t, mkN n 601 t (n 309 0))
    refine aj_castI (ax_T2 (i := 94) (by decide +kernel) rfl) rfl rfl rfl (ax_dec2 (i := .checkcast 317) (n := 3) ok_J7_copyOf_59c91 rfl) ?_
    refine aj_ret (r := some (.inr (.inr (some (601, t))))) (ax_dec2 (i := .areturn) (n := 1) ok_J7_copyOf_59c91 rfl) ⟨?_, ?_, by decide, by first | decide | (show 0 + (n 309 0).toNat ≤ 160; omega) | omega⟩ rfl
    · (have hmn : m = n 309 0 := (by omega); subst hmn; exact ⟨rfl, _, rfl, fun j z1 z2 => by rw [cpG_r (by omega) (by omega), mkG_n (by omega), show 0 + (j - 0) = j by omega], fun f9 o9 j9 z => by rw [cpG_o (by omega), mkG_n (by omega)]⟩)
    · exact trivial

set_option maxRecDepth 100000 in
set_option maxHeartbeats 4000000 in
theorem cp_copyOf_602 (t m : Int) (P : Nat → Int → Prop) (g : Nat → Int → Int → Int) (r0 : Nat → Int → Int → Option (Nat × Int)) (n : Nat → Int → Int) (hl : n 310 0 = 160) (hm : 0 ≤ m ∧ m ≤ 160) (hfr : ¬ P 602 t) (hnd : ax_nd (P, g, r0, n)) : ax_S yJ7_copyOf_59c91 cJ7_copyOf_59c91 3 (some (FieldType.array FieldType.int)) 1 1 160 [.inr (.inr (some (310, 0))), .inl m] (P, g, r0, n) (fun r M' => r = some (.inr (.inr (some (602, t)))) ∧ ∃ g', M' = (mkP P 602 t, g', mkR r0 602 t, mkN n 602 t m) ∧ (∀ j, 0 ≤ j → j < m → g' 602 t j = g 310 0 j) ∧ ∀ f o j, ¬ (f = 602 ∧ o = t) → g' f o j = g f o j) := by
  refine ax_S_of (own := 15) (by decide) rfl (fun h => absurd h (by decide)) rfl (Nat.le_of_ble_eq_true rfl) ?_
  change ax_J _ _ _ _ _ _ _ _ _ _ [some (.inr (.inr (some (310, 0)))), some (.inl m), none] _ _
  refine aj_run (C := True) (pc' := 3) (la' := [some (.inr (.inr (some (310, 0)))), some (.inl m), none]) (st' := [.inl (n 310 0), .inl m]) (M' := (P, g, r0, n)) ok_J7_copyOf_59c91 true 3 rfl trivial ?_
  refine aj_icmp_ne (tgt := 14) (ax_dec2 (i := .if_icmp .ne 11) (n := 3) ok_J7_copyOf_59c91 rfl) (by decide) (fun c1 => ?_) (fun c1 => ?_)
  · refine aj_run (C := True) (pc' := 15) (la' := [some (.inr (.inr (some (310, 0)))), some (.inl m), none]) (st' := [.inl m]) (M' := (P, g, r0, n)) ok_J7_copyOf_59c91 true 1 rfl trivial ?_
    refine aj_newA (f := 602) (o := t) (x := m) rfl rfl (by decide) (Or.inl ⟨rfl, rfl⟩) (by omega) hfr hnd (ax_T1 (i := 99) (by decide +kernel) rfl) ⟨Nat.le_refl 1, by show 0 + m.toNat ≤ 160; omega⟩ (ax_dec2 (i := .newarray .int) (n := 2) ok_J7_copyOf_59c91 rfl) ?_
    change ax_J _ _ _ _ _ _ _ _ _ 17 [some (.inr (.inr (some (310, 0)))), some (.inl m), none] [.inr (.inr (some (602, t)))] (mkP P 602 t, mkG g 602 t, mkR r0 602 t, mkN n 602 t m)
    have nd1 : ax_nd (mkP P 602 t, mkG g 602 t, mkR r0 602 t, mkN n 602 t m) := nd_mk hnd
    refine aj_run (C := True) (pc' := 25) (la' := [some (.inr (.inr (some (310, 0)))), some (.inl m), some (.inr (.inr (some (602, t))))]) (st' := [.inl m, .inl ((mkN n 602 t m) 310 0), .inl 0, .inr (.inr (some (602, t))), .inl 0, .inr (.inr (some (310, 0)))]) (M' := (mkP P 602 t, mkG g 602 t, mkR r0 602 t, mkN n 602 t m)) ok_J7_copyOf_59c91 true 8 rfl trivial ?_
    refine aj_mmin lk_15_304 ⟨by decide, by decide⟩ ⟨Nat.le_refl 1, by show 0 + m.toNat ≤ 160; omega⟩ (Nat.le_of_ble_eq_true rfl) (ax_dec2 (i := .invokestatic 304) (n := 3) ok_J7_copyOf_59c91 rfl) ?_
    rw [show (if m < (mkN n 602 t m) 310 0 then m else (mkN n 602 t m) 310 0) = m from by show (if m < mkN n 602 t m 310 0 then m else mkN n 602 t m 310 0) = m; rw [mkN_n (by omega)]; split <;> omega]
    refine aj_copy (f := 310) (f2 := 602) (o := 0) (o2 := t) (sp := 0) (dp := 0) (n := m) (st := []) lk_15_150 (ax_T2 (i := 100) (by decide +kernel) rfl) (ax_T2 (i := 99) (by decide +kernel) rfl) (ax_T1 (i := 12) (by decide +kernel) rfl) rfl rfl rfl rfl rfl rfl (by omega) ⟨by omega, by show 0 + m ≤ mkN n 602 t m 310 0; rw [mkN_n (by omega)]; omega⟩ ⟨by omega, by show 0 + m ≤ mkN n 602 t m 602 t; rw [mkN_s]; omega⟩ ⟨by decide, by decide⟩ (Nat.le_of_ble_eq_true rfl) (ax_dec2 (i := .invokestatic 150) (n := 3) ok_J7_copyOf_59c91 rfl) ?_
    change ax_J _ _ _ _ _ _ _ _ _ 31 [some (.inr (.inr (some (310, 0)))), some (.inl m), some (.inr (.inr (some (602, t))))] [] (mkP P 602 t, cpG (mkG g 602 t) 310 0 602 t 0 0 m, mkR r0 602 t, mkN n 602 t m)
    refine aj_run (C := True) (pc' := 32) (la' := [some (.inr (.inr (some (310, 0)))), some (.inl m), some (.inr (.inr (some (602, t))))]) (st' := [.inr (.inr (some (602, t)))]) (M' := (mkP P 602 t, cpG (mkG g 602 t) 310 0 602 t 0 0 m, mkR r0 602 t, mkN n 602 t m)) ok_J7_copyOf_59c91 true 1 rfl trivial ?_
    refine aj_ret (r := some (.inr (.inr (some (602, t))))) (ax_dec2 (i := .areturn) (n := 1) ok_J7_copyOf_59c91 rfl) ⟨?_, ?_, by decide, by first | decide | (show 0 + (n 310 0).toNat ≤ 160; omega) | omega⟩ rfl
    · (exact ⟨rfl, _, rfl, fun j z1 z2 => by rw [cpG_r (by omega) (by omega), mkG_n (by omega), show 0 + (j - 0) = j by omega], fun f9 o9 j9 z => by rw [cpG_o (by omega), mkG_n (by omega)]⟩)
    · exact trivial
  · refine aj_run (C := True) (pc' := 7) (la' := [some (.inr (.inr (some (310, 0)))), some (.inl m), none]) (st' := [.inr (.inr (some (310, 0)))]) (M' := (P, g, r0, n)) ok_J7_copyOf_59c91 true 1 rfl trivial ?_
    refine aj_clone (f := 310) (f2 := 602) (o := 0) (o2 := t) (st := []) lk_15_316 (ax_T2 (i := 89) (by decide +kernel) rfl) (ax_T2 (i := 90) (by decide +kernel) rfl) (ax_T2 (i := 91) (by decide +kernel) rfl) (ax_T2 (i := 92) (by decide +kernel) rfl) rfl rfl rfl rfl (by decide) rfl rfl hfr hnd ⟨by decide, by decide⟩ ⟨Nat.le_refl 1, by show 0 + (n 310 0).toNat ≤ 160; omega⟩ (Nat.le_of_ble_eq_true rfl) (ax_dec2 (i := .invokevirtual 316) (n := 3) ok_J7_copyOf_59c91 rfl) ?_
    change ax_J _ _ _ _ _ _ _ _ _ 10 [some (.inr (.inr (some (310, 0)))), some (.inl m), none] [.inr (.inr (some (602, t)))] (mkP P 602 t, cpG (mkG g 602 t) 310 0 602 t 0 0 (n 310 0), mkR r0 602 t, mkN n 602 t (n 310 0))
    refine aj_castI (ax_T2 (i := 94) (by decide +kernel) rfl) rfl rfl rfl (ax_dec2 (i := .checkcast 317) (n := 3) ok_J7_copyOf_59c91 rfl) ?_
    refine aj_ret (r := some (.inr (.inr (some (602, t))))) (ax_dec2 (i := .areturn) (n := 1) ok_J7_copyOf_59c91 rfl) ⟨?_, ?_, by decide, by first | decide | (show 0 + (n 310 0).toNat ≤ 160; omega) | omega⟩ rfl
    · (have hmn : m = n 310 0 := (by omega); subst hmn; exact ⟨rfl, _, rfl, fun j z1 z2 => by rw [cpG_r (by omega) (by omega), mkG_n (by omega), show 0 + (j - 0) = j by omega], fun f9 o9 j9 z => by rw [cpG_o (by omega), mkG_n (by omega)]⟩)
    · exact trivial

set_option maxRecDepth 100000 in
set_option maxHeartbeats 4000000 in
theorem cp_copyOf_603 (t m : Int) (P : Nat → Int → Prop) (g : Nat → Int → Int → Int) (r0 : Nat → Int → Int → Option (Nat × Int)) (n : Nat → Int → Int) (hl : n 311 0 = 3) (hm : 0 ≤ m ∧ m ≤ 3) (hfr : ¬ P 603 t) (hnd : ax_nd (P, g, r0, n)) : ax_S yJ7_copyOf_59c91 cJ7_copyOf_59c91 3 (some (FieldType.array FieldType.int)) 1 1 3 [.inr (.inr (some (311, 0))), .inl m] (P, g, r0, n) (fun r M' => r = some (.inr (.inr (some (603, t)))) ∧ ∃ g', M' = (mkP P 603 t, g', mkR r0 603 t, mkN n 603 t m) ∧ (∀ j, 0 ≤ j → j < m → g' 603 t j = g 311 0 j) ∧ ∀ f o j, ¬ (f = 603 ∧ o = t) → g' f o j = g f o j) := by
  refine ax_S_of (own := 15) (by decide) rfl (fun h => absurd h (by decide)) rfl (Nat.le_of_ble_eq_true rfl) ?_
  change ax_J _ _ _ _ _ _ _ _ _ _ [some (.inr (.inr (some (311, 0)))), some (.inl m), none] _ _
  refine aj_run (C := True) (pc' := 3) (la' := [some (.inr (.inr (some (311, 0)))), some (.inl m), none]) (st' := [.inl (n 311 0), .inl m]) (M' := (P, g, r0, n)) ok_J7_copyOf_59c91 true 3 rfl trivial ?_
  refine aj_icmp_ne (tgt := 14) (ax_dec2 (i := .if_icmp .ne 11) (n := 3) ok_J7_copyOf_59c91 rfl) (by decide) (fun c1 => ?_) (fun c1 => ?_)
  · refine aj_run (C := True) (pc' := 15) (la' := [some (.inr (.inr (some (311, 0)))), some (.inl m), none]) (st' := [.inl m]) (M' := (P, g, r0, n)) ok_J7_copyOf_59c91 true 1 rfl trivial ?_
    refine aj_newA (f := 603) (o := t) (x := m) rfl rfl (by decide) (Or.inl ⟨rfl, rfl⟩) (by omega) hfr hnd (ax_T1 (i := 99) (by decide +kernel) rfl) ⟨Nat.le_refl 1, by show 0 + m.toNat ≤ 3; omega⟩ (ax_dec2 (i := .newarray .int) (n := 2) ok_J7_copyOf_59c91 rfl) ?_
    change ax_J _ _ _ _ _ _ _ _ _ 17 [some (.inr (.inr (some (311, 0)))), some (.inl m), none] [.inr (.inr (some (603, t)))] (mkP P 603 t, mkG g 603 t, mkR r0 603 t, mkN n 603 t m)
    have nd1 : ax_nd (mkP P 603 t, mkG g 603 t, mkR r0 603 t, mkN n 603 t m) := nd_mk hnd
    refine aj_run (C := True) (pc' := 25) (la' := [some (.inr (.inr (some (311, 0)))), some (.inl m), some (.inr (.inr (some (603, t))))]) (st' := [.inl m, .inl ((mkN n 603 t m) 311 0), .inl 0, .inr (.inr (some (603, t))), .inl 0, .inr (.inr (some (311, 0)))]) (M' := (mkP P 603 t, mkG g 603 t, mkR r0 603 t, mkN n 603 t m)) ok_J7_copyOf_59c91 true 8 rfl trivial ?_
    refine aj_mmin lk_15_304 ⟨by decide, by decide⟩ ⟨Nat.le_refl 1, by show 0 + m.toNat ≤ 3; omega⟩ (Nat.le_of_ble_eq_true rfl) (ax_dec2 (i := .invokestatic 304) (n := 3) ok_J7_copyOf_59c91 rfl) ?_
    rw [show (if m < (mkN n 603 t m) 311 0 then m else (mkN n 603 t m) 311 0) = m from by show (if m < mkN n 603 t m 311 0 then m else mkN n 603 t m 311 0) = m; rw [mkN_n (by omega)]; split <;> omega]
    refine aj_copy (f := 311) (f2 := 603) (o := 0) (o2 := t) (sp := 0) (dp := 0) (n := m) (st := []) lk_15_150 (ax_T2 (i := 100) (by decide +kernel) rfl) (ax_T2 (i := 99) (by decide +kernel) rfl) (ax_T1 (i := 12) (by decide +kernel) rfl) rfl rfl rfl rfl rfl rfl (by omega) ⟨by omega, by show 0 + m ≤ mkN n 603 t m 311 0; rw [mkN_n (by omega)]; omega⟩ ⟨by omega, by show 0 + m ≤ mkN n 603 t m 603 t; rw [mkN_s]; omega⟩ ⟨by decide, by decide⟩ (Nat.le_of_ble_eq_true rfl) (ax_dec2 (i := .invokestatic 150) (n := 3) ok_J7_copyOf_59c91 rfl) ?_
    change ax_J _ _ _ _ _ _ _ _ _ 31 [some (.inr (.inr (some (311, 0)))), some (.inl m), some (.inr (.inr (some (603, t))))] [] (mkP P 603 t, cpG (mkG g 603 t) 311 0 603 t 0 0 m, mkR r0 603 t, mkN n 603 t m)
    refine aj_run (C := True) (pc' := 32) (la' := [some (.inr (.inr (some (311, 0)))), some (.inl m), some (.inr (.inr (some (603, t))))]) (st' := [.inr (.inr (some (603, t)))]) (M' := (mkP P 603 t, cpG (mkG g 603 t) 311 0 603 t 0 0 m, mkR r0 603 t, mkN n 603 t m)) ok_J7_copyOf_59c91 true 1 rfl trivial ?_
    refine aj_ret (r := some (.inr (.inr (some (603, t))))) (ax_dec2 (i := .areturn) (n := 1) ok_J7_copyOf_59c91 rfl) ⟨?_, ?_, by decide, by first | decide | (show 0 + (n 311 0).toNat ≤ 3; omega) | omega⟩ rfl
    · (exact ⟨rfl, _, rfl, fun j z1 z2 => by rw [cpG_r (by omega) (by omega), mkG_n (by omega), show 0 + (j - 0) = j by omega], fun f9 o9 j9 z => by rw [cpG_o (by omega), mkG_n (by omega)]⟩)
    · exact trivial
  · refine aj_run (C := True) (pc' := 7) (la' := [some (.inr (.inr (some (311, 0)))), some (.inl m), none]) (st' := [.inr (.inr (some (311, 0)))]) (M' := (P, g, r0, n)) ok_J7_copyOf_59c91 true 1 rfl trivial ?_
    refine aj_clone (f := 311) (f2 := 603) (o := 0) (o2 := t) (st := []) lk_15_316 (ax_T2 (i := 89) (by decide +kernel) rfl) (ax_T2 (i := 90) (by decide +kernel) rfl) (ax_T2 (i := 91) (by decide +kernel) rfl) (ax_T2 (i := 92) (by decide +kernel) rfl) rfl rfl rfl rfl (by decide) rfl rfl hfr hnd ⟨by decide, by decide⟩ ⟨Nat.le_refl 1, by show 0 + (n 311 0).toNat ≤ 3; omega⟩ (Nat.le_of_ble_eq_true rfl) (ax_dec2 (i := .invokevirtual 316) (n := 3) ok_J7_copyOf_59c91 rfl) ?_
    change ax_J _ _ _ _ _ _ _ _ _ 10 [some (.inr (.inr (some (311, 0)))), some (.inl m), none] [.inr (.inr (some (603, t)))] (mkP P 603 t, cpG (mkG g 603 t) 311 0 603 t 0 0 (n 311 0), mkR r0 603 t, mkN n 603 t (n 311 0))
    refine aj_castI (ax_T2 (i := 94) (by decide +kernel) rfl) rfl rfl rfl (ax_dec2 (i := .checkcast 317) (n := 3) ok_J7_copyOf_59c91 rfl) ?_
    refine aj_ret (r := some (.inr (.inr (some (603, t))))) (ax_dec2 (i := .areturn) (n := 1) ok_J7_copyOf_59c91 rfl) ⟨?_, ?_, by decide, by first | decide | (show 0 + (n 311 0).toNat ≤ 3; omega) | omega⟩ rfl
    · (have hmn : m = n 311 0 := (by omega); subst hmn; exact ⟨rfl, _, rfl, fun j z1 z2 => by rw [cpG_r (by omega) (by omega), mkG_n (by omega), show 0 + (j - 0) = j by omega], fun f9 o9 j9 z => by rw [cpG_o (by omega), mkG_n (by omega)]⟩)
    · exact trivial

