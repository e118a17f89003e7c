/-! ===== ways of the class ===== -/
theorem gLt_v {h : Nat → Int → Int → Int} {w : Int} : (gLa h w = -1 ∧ gLt h w = -1) ∨ (gLa h w ≠ -1 ∧ gLt h w = gA h w 135 0 (gLa h w) ∧ 0 ≤ gLt h w) := by
  by_cases c : gLa h w = -1
  · exact Or.inl ⟨c, by unfold gLt; rw [if_pos c]⟩
  · have e : gLt h w = gA h w 135 0 (gLa h w) := by unfold gLt; rw [if_neg c]
    refine Or.inr ⟨c, e, ?_⟩
    rw [e]
    unfold gLa wLast at c ⊢
    split
    · rename_i q
      rw [if_pos q] at c
      by_cases z : 0 ≤ h 50 0 2
      · have := wMax_in (off := gA h w 135 0) (n := h 50 0 2) z
        exact q _ (by omega) (by omega)
      · exfalso
        apply c
        unfold wMax wFI
        rw [show (h 50 0 2).toNat = 0 by omega]
        rfl
    · rename_i q
      rw [if_neg q] at c
      exact absurd rfl c
theorem wCf_l {p : Int → Int} {k : Int} (hk : 0 ≤ k) : (wCf p k).1 = 0 ↔ (wCf p k).2 = -1 := by
  suffices H : ∀ m : Nat, ((wCf p m).1 = 0 ↔ (wCf p m).2 = -1) ∧ 0 ≤ (wCf p m).1 by
    have := (H k.toNat).1
    rw [show ((k.toNat : Nat) : Int) = k by omega] at this
    exact this
  intro m
  induction m with
  | zero => exact ⟨⟨fun _ => rfl, fun _ => rfl⟩, Int.le_refl _⟩
  | succ m ih =>
    obtain ⟨i1, i2⟩ := ih
    rw [show ((m + 1 : Nat) : Int) = (m : Int) + 1 by omega, wCf_s (by omega)]
    split
    · dsimp only
      refine ⟨⟨fun z => by omega, fun z => ?_⟩, by omega⟩
      split at z
      · omega
      · rename_i q; exact absurd (i1.mpr z) q
    · exact ⟨i1, i2⟩
theorem ush7 {x : Int} : 0 ≤ ax_ush x 7 := by
  unfold ax_ush
  rw [show ((Int32.ofInt 7).toUInt32 &&& Int32.toUInt32 31) = 7 by decide]
  generalize (Int32.ofInt x).toUInt32 = y
  have h : (y >>> 7).toNat < 33554432 := by
    rw [UInt32.toNat_shiftRight, Nat.shiftRight_eq_div_pow]
    have := y.toNat_lt
    rw [show (7 : UInt32).toNat % 32 = 7 by decide]
    omega
  show 0 ≤ (y >>> 7).toBitVec.toInt
  rw [BitVec.toInt_eq_toNat_bmod]
  show 0 ≤ Int.bmod (((y >>> 7).toNat : Nat) : Int) 4294967296
  rw [ax_bm (by omega)]
  omega
theorem ush01 (z : Int) : Int.tmod (ax_ush z 7) 2 = 0 ∨ Int.tmod (ax_ush z 7) 2 = 1 := by
  have := @ush7 z
  rw [Int.tmod_eq_emod_of_nonneg this]
  omega
theorem wSet_s {l : Int → Int} {k : Int} (hk : 0 ≤ k) : wSet l (k + 1) = ax_or (wSet l k) (ax_shl (l k) k) := wFI_s hk
theorem wDr_set {v : Int} : ∀ k : Nat, (wDr v k).2 = wSet (fun a => Int.tmod (ax_ush (Int.bmod (Int.bmod ((wDr v a).1 * 1103515245) 4294967296 + 12345) 4294967296) 7) 2) k
  | 0 => rfl
  | k + 1 => by
    rw [show ((k + 1 : Nat) : Int) = (k : Int) + 1 by omega, wDr_s (by omega)]
    dsimp only
    rw [wDr_set k, wSet_s (by omega)]
theorem wDr_in {v k : Int} (h0 : 0 ≤ k) (h7 : k ≤ 7) : 0 ≤ (wDr v k).2 ∧ (wDr v k).2 < 128 := by
  have e := wDr_set (v := v) k.toNat
  have := wSet_m (l := fun (a : Int) => Int.tmod (ax_ush (Int.bmod (Int.bmod ((wDr v a).1 * 1103515245) 4294967296 + 12345) 4294967296) 7) 2) k.toNat (by omega) (fun (a : Int) _ _ => ush01 _)
  rw [← e, show ((k.toNat : Nat) : Int) = k by omega] at this
  exact this
theorem cSm_41 {G hB : Nat → Int → Int → Int} {x : Int} (hs : cSm G hB 0) : cSm (ax_u3 G 2 0 5 x) (ax_u3 hB 50 0 41 x) 0 := by
  obtain ⟨⟨s1, ⟨s2, s3, s4, s5⟩, s6⟩, s7, s8, s9⟩ := hs
  refine ⟨⟨s1, ⟨?_, s3, s4, s5⟩, s6⟩, s7, s8, s9⟩
  show ax_u3 G 2 0 5 x 2 0 5 = ax_u3 hB 50 0 41 x 50 0 41
  rw [ax_u3_s, ax_u3_s]
set_option maxRecDepth 100000 in
set_option maxHeartbeats 4000000 in
theorem cp_soonest (w : Int) (P : Nat → Int → Prop) (g : Nat → Int → Int → Int) (r0 : Nat → Int → Int → Option (Nat × Int)) (n : Nat → Int → Int) (h : Nat → Int → Int → Int) (hs : cSta P r0 n g h) (hd : cDy g h) : ax_S yX10_soonest cX10_soonest 6 (some FieldType.int) 14 0 0 [.inr (.inr (some (1, 0))), .inl w] (P, g, r0, n) (fun r M' => r = some (.inl (fSoon h w)) ∧ ∃ g', M' = (P, g', r0, n) ∧ cDy g' h ∧ cFr TW g' g) := by
  have hAs := hs.1.1
  have hPs := hs.1.2.1
  have hOs := hs.1.2.2
  have hP1 := hPs.1
  have hA1 := hAs.1
  have hsz := hOs.2.2.1
  have hm := hd.1
  have hca := hd.2
  have hxz := hPs.1.1
  refine ax_S_of (own := 10) (by decide) rfl (fun h => absurd h (by decide)) rfl (Nat.le_of_ble_eq_true rfl) ?_
  change ax_J _ _ _ _ _ _ _ _ _ _ [some (.inr (.inr (some (1, 0)))), some (.inl w), none, none, none, none] _ _
  refine aj_run (C := True) (pc' := 1) (la' := [some (.inr (.inr (some (1, 0)))), some (.inl w), none, none, none, none]) (st' := [.inl w]) (M' := (P, g, r0, n)) ok_X10_soonest true 1 rfl trivial ?_
  refine aj_callS (av := [.inl w]) (st := []) cal_X10_isEither lk_10_163 stc_X10_isEither (cp_isEither w _ _ _ _) ⟨by decide, by decide, by decide, by decide⟩ (Nat.le_of_ble_eq_true rfl) (ax_dec2 (i := .invokestatic 163) (n := 3) ok_X10_soonest rfl) (fun r M' hq => ?_)
  obtain ⟨rfl, rfl⟩ := hq
  change ax_J _ _ _ _ _ _ _ _ _ 4 [some (.inr (.inr (some (1, 0)))), some (.inl w), none, none, none, none] [.inl (bI (0 ≤ w ∧ w ≤ 1))] (P, g, r0, n)
  refine aj_if_ne (tgt := 10) (ax_dec2 (i := .ifCond .ne 6) (n := 3) ok_X10_soonest rfl) (by decide) (fun c1 => ?_) (fun c1 => ?_)
  · replace c1 := bI_n0 c1
    refine aj_run (C := True) (pc' := 17) (la' := [some (.inr (.inr (some (1, 0)))), some (.inl w), some (.inl (-1)), some (.inl (-1)), some (.inl 0), none]) (st' := []) (M' := (P, g, r0, n)) ok_X10_soonest true 6 rfl trivial ?_
    refine aj_cast (congrArg (fun (z9 : Int) => ([some (.inr (.inr (some (1, 0)))), some (.inl w), some (.inl z9), some (.inl (-1)), some (.inl 0), none] : List (Option ax_V))) (show (-1) = (gSoon h 0).1 from by rfl)) rfl rfl ?_
    refine aj_cast (congrArg (fun (z9 : Int) => ([some (.inr (.inr (some (1, 0)))), some (.inl w), some (.inl ((gSoon h 0).1)), some (.inl z9), some (.inl 0), none] : List (Option ax_V))) (show (-1) = (gSoon h 0).2 from by rfl)) rfl rfl ?_
    refine aj_forget (la' := [some (.inr (.inr (some (1, 0)))), some (.inl w), some (.inl ((gSoon h 0).1)), some (.inl ((gSoon h 0).2)), some (.inl 0), none]) (by simp [ax_fg]) ?_
    refine aj_loop (σ := (Int) × (Nat → Int → Int → Int)) (fun xL => 0 ≤ xL.1 ∧ xL.1 ≤ wWy h ∧ cDy xL.2 h ∧ cFr TW xL.2 g) (fun xL => (wWy h - xL.1).toNat) (fun xL => [some (.inr (.inr (some (1, 0)))), some (.inl w), some (.inl ((gSoon h xL.1).1)), some (.inl ((gSoon h xL.1).2)), some (.inl xL.1), none]) (fun xL => []) (fun xL => (P, xL.2, r0, n)) ?_ (0, g) ?_
    rotate_left
    · (try dsimp only); exact ⟨by omega, by have := wWy_in hOs; omega, hd, fun _ _ _ _ => rfl⟩
    rintro ⟨k, g1⟩ hI ih17
    try dsimp only at hI ih17
    obtain ⟨i1, i2, i3, i4⟩ := hI
    change ax_J _ _ _ _ _ _ _ _ _ 17 [some (.inr (.inr (some (1, 0)))), some (.inl w), some (.inl ((gSoon h k).1)), some (.inl ((gSoon h k).2)), some (.inl k), none] [] (P, g1, r0, n)
    have hs1 : g1 2 0 1 = g 2 0 1 := i4 2 0 1 (by unfold TW TG; omega)
    have hwy : ax_shl 1 (g1 2 0 1) = wWy h := by rw [hs1, hxz]; rfl
    have hw9 := wWy_in hOs
    have hsk := cSta_w i4 hs
    refine aj_run (C := True) (pc' := 20) (la' := [some (.inr (.inr (some (1, 0)))), some (.inl w), some (.inl ((gSoon h k).1)), some (.inl ((gSoon h k).2)), some (.inl k), none]) (st' := [.inr (.inr (some (1, 0))), .inl k]) (M' := (P, g1, r0, n)) ok_X10_soonest true 2 rfl trivial ?_
    refine aj_getR (f := 1) (k := 0) (g := 2) (o := 0) (u := 0) (ax_lk_ok (q := (1, 0)) rfl) rfl rfl hs.2.2.2.1 hs.2.2.2.2 (ax_dec2 (i := .getfield 10) (n := 3) ok_X10_soonest rfl) ?_
    refine aj_callV (av := []) (st := [.inl k]) (f := 2) (o := 0) (ci := 2) cal_X2_ways lk_10_207 ins_X2_ways rfl sel_X2_ways rfl (fun c9 h9 _ => by simpa [ax_ok] using h9) (cp_ways _ _ _ _) ⟨by decide, by decide, by decide, by decide⟩ (Nat.le_of_ble_eq_true rfl) (ax_dec2 (i := .invokevirtual 207) (n := 3) ok_X10_soonest rfl) (fun r M' hq => ?_)
    obtain ⟨rfl, rfl⟩ := hq
    change ax_J _ _ _ _ _ _ _ _ _ 26 [some (.inr (.inr (some (1, 0)))), some (.inl w), some (.inl ((gSoon h k).1)), some (.inl ((gSoon h k).2)), some (.inl k), none] [.inl (ax_shl 1 (g1 2 0 1)), .inl k] (P, g1, r0, n)
    refine aj_icmp_ge (tgt := 69) (ax_dec2 (i := .if_icmp .ge 43) (n := 3) ok_X10_soonest rfl) (by decide) (fun c2 => ?_) (fun c2 => ?_)
    · refine aj_run (C := True) (pc' := 70) (la' := [some (.inr (.inr (some (1, 0)))), some (.inl w), some (.inl ((gSoon h k).1)), some (.inl ((gSoon h k).2)), some (.inl k), none]) (st' := [.inl w]) (M' := (P, g1, r0, n)) ok_X10_soonest true 1 rfl trivial ?_
      refine aj_if_ne (tgt := 77) (ax_dec2 (i := .ifCond .ne 7) (n := 3) ok_X10_soonest rfl) (by decide) (fun c3 => ?_) (fun c3 => ?_)
      · refine aj_run (C := True) (pc' := 78) (la' := [some (.inr (.inr (some (1, 0)))), some (.inl w), some (.inl ((gSoon h k).1)), some (.inl ((gSoon h k).2)), some (.inl k), none]) (st' := [.inl ((gSoon h k).2)]) (M' := (P, g1, r0, n)) ok_X10_soonest true 1 rfl trivial ?_
        refine aj_ret (r := some (.inl ((gSoon h k).2))) (ax_dec2 (i := .ireturn) (n := 1) ok_X10_soonest rfl) ⟨?_, ?_, by decide, by decide⟩ rfl
        · exact ⟨ax_si (by unfold fSoon; rw [if_pos (by omega)]; (first | rw [if_pos (by omega)] | rw [if_neg (by omega)]); rw [show wWy h = k by omega]), g1, rfl, i3, i4⟩
        · exact ax_ro_i
      · refine aj_run (C := True) (pc' := 78) (la' := [some (.inr (.inr (some (1, 0)))), some (.inl w), some (.inl ((gSoon h k).1)), some (.inl ((gSoon h k).2)), some (.inl k), none]) (st' := [.inl ((gSoon h k).1)]) (M' := (P, g1, r0, n)) ok_X10_soonest true 2 rfl trivial ?_
        refine aj_ret (r := some (.inl ((gSoon h k).1))) (ax_dec2 (i := .ireturn) (n := 1) ok_X10_soonest rfl) ⟨?_, ?_, by decide, by decide⟩ rfl
        · exact ⟨ax_si (by unfold fSoon; rw [if_pos (by omega)]; (first | rw [if_pos (by omega)] | rw [if_neg (by omega)]); rw [show wWy h = k by omega]), g1, rfl, i3, i4⟩
        · exact ax_ro_i
    · refine aj_run (C := True) (pc' := 30) (la' := [some (.inr (.inr (some (1, 0)))), some (.inl w), some (.inl ((gSoon h k).1)), some (.inl ((gSoon h k).2)), some (.inl k), none]) (st' := [.inr (.inr (some (1, 0)))]) (M' := (P, g1, r0, n)) ok_X10_soonest true 1 rfl trivial ?_
      refine aj_getR (f := 1) (k := 0) (g := 2) (o := 0) (u := 0) (ax_lk_ok (q := (1, 0)) rfl) rfl rfl hs.2.2.2.1 hs.2.2.2.2 (ax_dec2 (i := .getfield 10) (n := 3) ok_X10_soonest rfl) ?_
      refine aj_run (C := True) (pc' := 35) (la' := [some (.inr (.inr (some (1, 0)))), some (.inl w), some (.inl ((gSoon h k).1)), some (.inl ((gSoon h k).2)), some (.inl k), none]) (st' := [.inl k, .inr (.inr (some (2, 0)))]) (M' := (P, g1, r0, n)) ok_X10_soonest true 1 rfl trivial ?_
      refine aj_callV (av := [.inl k]) (st := []) (f := 2) (o := 0) (ci := 2) cal_X2_latestOf lk_10_182 ins_X2_latestOf rfl sel_X2_latestOf rfl (fun c9 h9 _ => by simpa [ax_ok] using h9) (cp_latestOf k _ _ _ _ h hsk i3 (by omega)) ⟨by decide, by decide, by decide, by decide⟩ (Nat.le_of_ble_eq_true rfl) (ax_dec2 (i := .invokevirtual 182) (n := 3) ok_X10_soonest rfl) (fun r M' hq => ?_)
      obtain ⟨rfl, g4, rfl, hd4, fr4⟩ := hq
      have fr9 := cFr_t fr4 i4
      have hlt := gLt_v (h := h) (w := k)
      change ax_J _ _ _ _ _ _ _ _ _ 38 [some (.inr (.inr (some (1, 0)))), some (.inl w), some (.inl ((gSoon h k).1)), some (.inl ((gSoon h k).2)), some (.inl k), none] [.inl (gLt h k)] (P, g4, r0, n)
      refine aj_run (C := True) (pc' := 43) (la' := [some (.inr (.inr (some (1, 0)))), some (.inl w), some (.inl ((gSoon h k).1)), some (.inl ((gSoon h k).2)), some (.inl k), some (.inl (gLt h k))]) (st' := [.inl (-1), .inl (gLt h k)]) (M' := (P, g4, r0, n)) ok_X10_soonest true 3 rfl trivial ?_
      refine aj_icmp_eq (tgt := 63) (ax_dec2 (i := .if_icmp .eq 20) (n := 3) ok_X10_soonest rfl) (by decide) (fun c4 => ?_) (fun c4 => ?_)
      · refine aj_run (C := (-2147483648 ≤ k + 1 ∧ k + 1 ≤ 2147483647) ∧ True) (pc' := 17) (la' := [some (.inr (.inr (some (1, 0)))), some (.inl w), some (.inl ((gSoon h k).1)), some (.inl ((gSoon h k).2)), some (.inl (k + 1)), some (.inl (gLt h k))]) (st' := []) (M' := (P, g4, r0, n)) ok_X10_soonest true 2 rfl (by refine ⟨?_, trivial⟩ <;> (omega)) ?_
        refine aj_cast (congrArg (fun (z9 : Int) => ([some (.inr (.inr (some (1, 0)))), some (.inl w), some (.inl z9), some (.inl ((gSoon h k).2)), some (.inl (k + 1)), some (.inl (gLt h k))] : List (Option ax_V))) (show ((gSoon h k).1) = (gSoon h (k + 1)).1 from by (rw [gSoon_s i1]; (first | rw [if_pos ⟨by omega, by omega⟩] | rw [if_neg (fun z => by omega)]) <;> (dsimp only; omega)))) rfl rfl ?_
        refine aj_cast (congrArg (fun (z9 : Int) => ([some (.inr (.inr (some (1, 0)))), some (.inl w), some (.inl ((gSoon h (k + 1)).1)), some (.inl z9), some (.inl (k + 1)), some (.inl (gLt h k))] : List (Option ax_V))) (show ((gSoon h k).2) = (gSoon h (k + 1)).2 from by (rw [gSoon_s i1]; (first | rw [if_pos ⟨by omega, by omega⟩] | rw [if_neg (fun z => by omega)]) <;> (dsimp only; omega)))) rfl rfl ?_
        refine aj_forget (la' := [some (.inr (.inr (some (1, 0)))), some (.inl w), some (.inl ((gSoon h (k + 1)).1)), some (.inl ((gSoon h (k + 1)).2)), some (.inl (k + 1)), none]) (by simp [ax_fg]) ?_
        refine ih17 (k + 1, g4) ?_ ?_
        · (try dsimp only); exact ⟨by omega, by omega, hd4, fr9⟩
        · omega
      · refine aj_run (C := True) (pc' := 48) (la' := [some (.inr (.inr (some (1, 0)))), some (.inl w), some (.inl ((gSoon h k).1)), some (.inl ((gSoon h k).2)), some (.inl k), some (.inl (gLt h k))]) (st' := [.inl (-1), .inl ((gSoon h k).1)]) (M' := (P, g4, r0, n)) ok_X10_soonest true 2 rfl trivial ?_
        refine aj_icmp_eq (tgt := 57) (ax_dec2 (i := .if_icmp .eq 9) (n := 3) ok_X10_soonest rfl) (by decide) (fun c5 => ?_) (fun c5 => ?_)
        · refine aj_run (C := (-2147483648 ≤ k + 1 ∧ k + 1 ≤ 2147483647) ∧ True) (pc' := 17) (la' := [some (.inr (.inr (some (1, 0)))), some (.inl w), some (.inl k), some (.inl (gLt h k)), some (.inl (k + 1)), some (.inl (gLt h k))]) (st' := []) (M' := (P, g4, r0, n)) ok_X10_soonest true 6 rfl (by refine ⟨?_, trivial⟩ <;> (omega)) ?_
          refine aj_cast (congrArg (fun (z9 : Int) => ([some (.inr (.inr (some (1, 0)))), some (.inl w), some (.inl z9), some (.inl (gLt h k)), some (.inl (k + 1)), some (.inl (gLt h k))] : List (Option ax_V))) (show k = (gSoon h (k + 1)).1 from by (rw [gSoon_s i1]; (first | rw [if_pos ⟨by omega, by omega⟩] | rw [if_neg (fun z => by omega)]) <;> (dsimp only; omega)))) rfl rfl ?_
          refine aj_cast (congrArg (fun (z9 : Int) => ([some (.inr (.inr (some (1, 0)))), some (.inl w), some (.inl ((gSoon h (k + 1)).1)), some (.inl z9), some (.inl (k + 1)), some (.inl (gLt h k))] : List (Option ax_V))) (show (gLt h k) = (gSoon h (k + 1)).2 from by (rw [gSoon_s i1]; (first | rw [if_pos ⟨by omega, by omega⟩] | rw [if_neg (fun z => by omega)]) <;> (dsimp only; omega)))) rfl rfl ?_
          refine aj_forget (la' := [some (.inr (.inr (some (1, 0)))), some (.inl w), some (.inl ((gSoon h (k + 1)).1)), some (.inl ((gSoon h (k + 1)).2)), some (.inl (k + 1)), none]) (by simp [ax_fg]) ?_
          refine ih17 (k + 1, g4) ?_ ?_
          · (try dsimp only); exact ⟨by omega, by omega, hd4, fr9⟩
          · omega
        · refine aj_run (C := True) (pc' := 54) (la' := [some (.inr (.inr (some (1, 0)))), some (.inl w), some (.inl ((gSoon h k).1)), some (.inl ((gSoon h k).2)), some (.inl k), some (.inl (gLt h k))]) (st' := [.inl ((gSoon h k).2), .inl (gLt h k)]) (M' := (P, g4, r0, n)) ok_X10_soonest true 2 rfl trivial ?_
          refine aj_icmp_ge (tgt := 63) (ax_dec2 (i := .if_icmp .ge 9) (n := 3) ok_X10_soonest rfl) (by decide) (fun c6 => ?_) (fun c6 => ?_)
          · refine aj_run (C := (-2147483648 ≤ k + 1 ∧ k + 1 ≤ 2147483647) ∧ True) (pc' := 17) (la' := [some (.inr (.inr (some (1, 0)))), some (.inl w), some (.inl ((gSoon h k).1)), some (.inl ((gSoon h k).2)), some (.inl (k + 1)), some (.inl (gLt h k))]) (st' := []) (M' := (P, g4, r0, n)) ok_X10_soonest true 2 rfl (by refine ⟨?_, trivial⟩ <;> (omega)) ?_
            refine aj_cast (congrArg (fun (z9 : Int) => ([some (.inr (.inr (some (1, 0)))), some (.inl w), some (.inl z9), some (.inl ((gSoon h k).2)), some (.inl (k + 1)), some (.inl (gLt h k))] : List (Option ax_V))) (show ((gSoon h k).1) = (gSoon h (k + 1)).1 from by (rw [gSoon_s i1]; (first | rw [if_pos ⟨by omega, by omega⟩] | rw [if_neg (fun z => by omega)]) <;> (dsimp only; omega)))) rfl rfl ?_
            refine aj_cast (congrArg (fun (z9 : Int) => ([some (.inr (.inr (some (1, 0)))), some (.inl w), some (.inl ((gSoon h (k + 1)).1)), some (.inl z9), some (.inl (k + 1)), some (.inl (gLt h k))] : List (Option ax_V))) (show ((gSoon h k).2) = (gSoon h (k + 1)).2 from by (rw [gSoon_s i1]; (first | rw [if_pos ⟨by omega, by omega⟩] | rw [if_neg (fun z => by omega)]) <;> (dsimp only; omega)))) rfl rfl ?_
            refine aj_forget (la' := [some (.inr (.inr (some (1, 0)))), some (.inl w), some (.inl ((gSoon h (k + 1)).1)), some (.inl ((gSoon h (k + 1)).2)), some (.inl (k + 1)), none]) (by simp [ax_fg]) ?_
            refine ih17 (k + 1, g4) ?_ ?_
            · (try dsimp only); exact ⟨by omega, by omega, hd4, fr9⟩
            · omega
          · refine aj_run (C := (-2147483648 ≤ k + 1 ∧ k + 1 ≤ 2147483647) ∧ True) (pc' := 17) (la' := [some (.inr (.inr (some (1, 0)))), some (.inl w), some (.inl k), some (.inl (gLt h k)), some (.inl (k + 1)), some (.inl (gLt h k))]) (st' := []) (M' := (P, g4, r0, n)) ok_X10_soonest true 6 rfl (by refine ⟨?_, trivial⟩ <;> (omega)) ?_
            refine aj_cast (congrArg (fun (z9 : Int) => ([some (.inr (.inr (some (1, 0)))), some (.inl w), some (.inl z9), some (.inl (gLt h k)), some (.inl (k + 1)), some (.inl (gLt h k))] : List (Option ax_V))) (show k = (gSoon h (k + 1)).1 from by (rw [gSoon_s i1]; (first | rw [if_pos ⟨by omega, by omega⟩] | rw [if_neg (fun z => by omega)]) <;> (dsimp only; omega)))) rfl rfl ?_
            refine aj_cast (congrArg (fun (z9 : Int) => ([some (.inr (.inr (some (1, 0)))), some (.inl w), some (.inl ((gSoon h (k + 1)).1)), some (.inl z9), some (.inl (k + 1)), some (.inl (gLt h k))] : List (Option ax_V))) (show (gLt h k) = (gSoon h (k + 1)).2 from by (rw [gSoon_s i1]; (first | rw [if_pos ⟨by omega, by omega⟩] | rw [if_neg (fun z => by omega)]) <;> (dsimp only; omega)))) rfl rfl ?_
            refine aj_forget (la' := [some (.inr (.inr (some (1, 0)))), some (.inl w), some (.inl ((gSoon h (k + 1)).1)), some (.inl ((gSoon h (k + 1)).2)), some (.inl (k + 1)), none]) (by simp [ax_fg]) ?_
            refine ih17 (k + 1, g4) ?_ ?_
            · (try dsimp only); exact ⟨by omega, by omega, hd4, fr9⟩
            · omega
  · replace c1 := bI_e0 c1
    refine aj_run (C := True) (pc' := 9) (la' := [some (.inr (.inr (some (1, 0)))), some (.inl w), none, none, none, none]) (st' := [.inl (-2)]) (M' := (P, g, r0, n)) ok_X10_soonest true 1 rfl trivial ?_
    refine aj_ret (r := some (.inl (-2))) (ax_dec2 (i := .ireturn) (n := 1) ok_X10_soonest rfl) ⟨?_, ?_, by decide, by decide⟩ rfl
    · first | (exfalso; omega) | exact ⟨ax_si (by unfold fSoon; (repeat first | rw [if_pos (by omega)] | rw [if_neg (by omega)] | rw [bI_t (by omega)] | rw [bI_f (by omega)]); try first | rfl | omega), g, rfl, hd, fun _ _ _ _ => rfl⟩
    · exact ax_ro_i

set_option maxRecDepth 100000 in
set_option maxHeartbeats 4000000 in
theorem cp_beLast (x w : Int) (P : Nat → Int → Prop) (g : Nat → Int → Int → Int) (r0 : Nat → Int → Int → Option (Nat × Int)) (n : Nat → Int → Int) (h : Nat → Int → Int → Int) (hs : cSta P r0 n g h) (hd : cDy g h) : ax_S yX10_beLast cX10_beLast 6 (some FieldType.int) 14 0 0 [.inr (.inr (some (1, 0))), .inl x, .inl w] (P, g, r0, n) (fun r M' => r = some (.inl (fBeL h x w)) ∧ ∃ g', M' = (P, g', r0, n) ∧ cDy g' h ∧ cFr TW g' g) := by
  have hAs := hs.1.1
  have hPs := hs.1.2.1
  have hOs := hs.1.2.2
  have hP1 := hPs.1
  have hA1 := hAs.1
  have hsz := hOs.2.2.1
  have hm := hd.1
  have hca := hd.2
  have hxz := hPs.1.1
  refine ax_S_of (own := 10) (by decide) rfl (fun h => absurd h (by decide)) rfl (Nat.le_of_ble_eq_true rfl) ?_
  change ax_J _ _ _ _ _ _ _ _ _ _ [some (.inr (.inr (some (1, 0)))), some (.inl x), some (.inl w), none, none, none] _ _
  refine aj_run (C := True) (pc' := 2) (la' := [some (.inr (.inr (some (1, 0)))), some (.inl x), some (.inl w), none, none, none]) (st' := [.inl x, .inr (.inr (some (1, 0)))]) (M' := (P, g, r0, n)) ok_X10_beLast true 2 rfl trivial ?_
  refine aj_callV (av := [.inl x]) (st := []) (f := 1) (o := 0) (ci := 10) cal_X10_isAnt lk_10_122 ins_X10_isAnt rfl sel_X10_isAnt rfl (fun c9 h9 _ => by simpa [ax_ok] using h9) (cp_isAnt x _ _ _ _ hs.2.2.2) ⟨by decide, by decide, by decide, by decide⟩ (Nat.le_of_ble_eq_true rfl) (ax_dec2 (i := .invokevirtual 122) (n := 3) ok_X10_beLast rfl) (fun r M' hq => ?_)
  obtain ⟨rfl, rfl⟩ := hq
  change ax_J _ _ _ _ _ _ _ _ _ 5 [some (.inr (.inr (some (1, 0)))), some (.inl x), some (.inl w), none, none, none] [.inl (bI (0 ≤ x ∧ x < g 2 0 1))] (P, g, r0, n)
  refine aj_if_eq (tgt := 15) (ax_dec2 (i := .ifCond .eq 10) (n := 3) ok_X10_beLast rfl) (by decide) (fun c1 => ?_) (fun c1 => ?_)
  · replace c1 := bI_e0 c1
    refine aj_run (C := True) (pc' := 17) (la' := [some (.inr (.inr (some (1, 0)))), some (.inl x), some (.inl w), none, none, none]) (st' := [.inl (-2)]) (M' := (P, g, r0, n)) ok_X10_beLast true 1 rfl trivial ?_
    refine aj_ret (r := some (.inl (-2))) (ax_dec2 (i := .ireturn) (n := 1) ok_X10_beLast rfl) ⟨?_, ?_, by decide, by decide⟩ rfl
    · first | (exfalso; omega) | exact ⟨ax_si (by unfold fBeL; (repeat first | rw [if_pos (by omega)] | rw [if_neg (by omega)] | rw [bI_t (by omega)] | rw [bI_f (by omega)]); try first | rfl | omega), g, rfl, hd, fun _ _ _ _ => rfl⟩
    · exact ax_ro_i
  · replace c1 := bI_n0 c1
    refine aj_run (C := True) (pc' := 9) (la' := [some (.inr (.inr (some (1, 0)))), some (.inl x), some (.inl w), none, none, none]) (st' := [.inl w]) (M' := (P, g, r0, n)) ok_X10_beLast true 1 rfl trivial ?_
    refine aj_callS (av := [.inl w]) (st := []) cal_X10_isEither lk_10_163 stc_X10_isEither (cp_isEither w _ _ _ _) ⟨by decide, by decide, by decide, by decide⟩ (Nat.le_of_ble_eq_true rfl) (ax_dec2 (i := .invokestatic 163) (n := 3) ok_X10_beLast rfl) (fun r M' hq => ?_)
    obtain ⟨rfl, rfl⟩ := hq
    change ax_J _ _ _ _ _ _ _ _ _ 12 [some (.inr (.inr (some (1, 0)))), some (.inl x), some (.inl w), none, none, none] [.inl (bI (0 ≤ w ∧ w ≤ 1))] (P, g, r0, n)
    refine aj_if_ne (tgt := 18) (ax_dec2 (i := .ifCond .ne 6) (n := 3) ok_X10_beLast rfl) (by decide) (fun c2 => ?_) (fun c2 => ?_)
    · replace c2 := bI_n0 c2
      refine aj_run (C := True) (pc' := 26) (la' := [some (.inr (.inr (some (1, 0)))), some (.inl x), some (.inl w), some (.inl 0), some (.inl (-1)), some (.inl 0)]) (st' := []) (M' := (P, g, r0, n)) ok_X10_beLast true 6 rfl trivial ?_
      refine aj_cast (congrArg (fun (z9 : Int) => ([some (.inr (.inr (some (1, 0)))), some (.inl x), some (.inl w), some (.inl z9), some (.inl (-1)), some (.inl 0)] : List (Option ax_V))) (show 0 = (wCf (pBeL h x) 0).1 from by rfl)) rfl rfl ?_
      refine aj_cast (congrArg (fun (z9 : Int) => ([some (.inr (.inr (some (1, 0)))), some (.inl x), some (.inl w), some (.inl ((wCf (pBeL h x) 0).1)), some (.inl z9), some (.inl 0)] : List (Option ax_V))) (show (-1) = (wCf (pBeL h x) 0).2 from by rfl)) rfl rfl ?_
      refine aj_loop (σ := (Int) × (Nat → Int → Int → Int)) (fun xL => 0 ≤ xL.1 ∧ xL.1 ≤ wWy h ∧ cDy xL.2 h ∧ cFr TW xL.2 g) (fun xL => (wWy h - xL.1).toNat) (fun xL => [some (.inr (.inr (some (1, 0)))), some (.inl x), some (.inl w), some (.inl ((wCf (pBeL h x) xL.1).1)), some (.inl ((wCf (pBeL h x) xL.1).2)), some (.inl xL.1)]) (fun xL => []) (fun xL => (P, xL.2, r0, n)) ?_ (0, g) ?_
      rotate_left
      · (try dsimp only); exact ⟨by omega, by have := wWy_in hOs; omega, hd, fun _ _ _ _ => rfl⟩
      rintro ⟨k, g1⟩ hI ih26
      try dsimp only at hI ih26
      obtain ⟨i1, i2, i3, i4⟩ := hI
      change ax_J _ _ _ _ _ _ _ _ _ 26 [some (.inr (.inr (some (1, 0)))), some (.inl x), some (.inl w), some (.inl ((wCf (pBeL h x) k).1)), some (.inl ((wCf (pBeL h x) k).2)), some (.inl k)] [] (P, g1, r0, n)
      have hs1 : g1 2 0 1 = g 2 0 1 := i4 2 0 1 (by unfold TW TG; omega)
      have hwy : ax_shl 1 (g1 2 0 1) = wWy h := by rw [hs1, hxz]; rfl
      have hw9 := wWy_in hOs
      have hsk := cSta_w i4 hs
      have hcl := wCf_l (p := pBeL h x) i1
      have hci := wCf_in (p := pBeL h x) i1
      refine aj_run (C := True) (pc' := 29) (la' := [some (.inr (.inr (some (1, 0)))), some (.inl x), some (.inl w), some (.inl ((wCf (pBeL h x) k).1)), some (.inl ((wCf (pBeL h x) k).2)), some (.inl k)]) (st' := [.inr (.inr (some (1, 0))), .inl k]) (M' := (P, g1, r0, n)) ok_X10_beLast true 2 rfl trivial ?_
      refine aj_getR (f := 1) (k := 0) (g := 2) (o := 0) (u := 0) (ax_lk_ok (q := (1, 0)) rfl) rfl rfl hs.2.2.2.1 hs.2.2.2.2 (ax_dec2 (i := .getfield 10) (n := 3) ok_X10_beLast rfl) ?_
      refine aj_callV (av := []) (st := [.inl k]) (f := 2) (o := 0) (ci := 2) cal_X2_ways lk_10_207 ins_X2_ways rfl sel_X2_ways rfl (fun c9 h9 _ => by simpa [ax_ok] using h9) (cp_ways _ _ _ _) ⟨by decide, by decide, by decide, by decide⟩ (Nat.le_of_ble_eq_true rfl) (ax_dec2 (i := .invokevirtual 207) (n := 3) ok_X10_beLast rfl) (fun r M' hq => ?_)
      obtain ⟨rfl, rfl⟩ := hq
      change ax_J _ _ _ _ _ _ _ _ _ 35 [some (.inr (.inr (some (1, 0)))), some (.inl x), some (.inl w), some (.inl ((wCf (pBeL h x) k).1)), some (.inl ((wCf (pBeL h x) k).2)), some (.inl k)] [.inl (ax_shl 1 (g1 2 0 1)), .inl k] (P, g1, r0, n)
      refine aj_icmp_ge (tgt := 75) (ax_dec2 (i := .if_icmp .ge 40) (n := 3) ok_X10_beLast rfl) (by decide) (fun c3 => ?_) (fun c3 => ?_)
      · refine aj_run (C := True) (pc' := 76) (la' := [some (.inr (.inr (some (1, 0)))), some (.inl x), some (.inl w), some (.inl ((wCf (pBeL h x) k).1)), some (.inl ((wCf (pBeL h x) k).2)), some (.inl k)]) (st' := [.inl w]) (M' := (P, g1, r0, n)) ok_X10_beLast true 1 rfl trivial ?_
        refine aj_if_ne (tgt := 83) (ax_dec2 (i := .ifCond .ne 7) (n := 3) ok_X10_beLast rfl) (by decide) (fun c4 => ?_) (fun c4 => ?_)
        · refine aj_run (C := True) (pc' := 85) (la' := [some (.inr (.inr (some (1, 0)))), some (.inl x), some (.inl w), some (.inl ((wCf (pBeL h x) k).1)), some (.inl ((wCf (pBeL h x) k).2)), some (.inl k)]) (st' := [.inl ((wCf (pBeL h x) k).2)]) (M' := (P, g1, r0, n)) ok_X10_beLast true 1 rfl trivial ?_
          refine aj_ret (r := some (.inl ((wCf (pBeL h x) k).2))) (ax_dec2 (i := .ireturn) (n := 1) ok_X10_beLast rfl) ⟨?_, ?_, by decide, by decide⟩ rfl
          · exact ⟨ax_si (by unfold fBeL; rw [if_pos (by omega)]; (first | rw [if_pos (by omega)] | rw [if_neg (by omega)]); rw [show wWy h = k by omega]), g1, rfl, i3, i4⟩
          · exact ax_ro_i
        · refine aj_run (C := True) (pc' := 85) (la' := [some (.inr (.inr (some (1, 0)))), some (.inl x), some (.inl w), some (.inl ((wCf (pBeL h x) k).1)), some (.inl ((wCf (pBeL h x) k).2)), some (.inl k)]) (st' := [.inl ((wCf (pBeL h x) k).1)]) (M' := (P, g1, r0, n)) ok_X10_beLast true 2 rfl trivial ?_
          refine aj_ret (r := some (.inl ((wCf (pBeL h x) k).1))) (ax_dec2 (i := .ireturn) (n := 1) ok_X10_beLast rfl) ⟨?_, ?_, by decide, by decide⟩ rfl
          · exact ⟨ax_si (by unfold fBeL; rw [if_pos (by omega)]; (first | rw [if_pos (by omega)] | rw [if_neg (by omega)]); rw [show wWy h = k by omega]), g1, rfl, i3, i4⟩
          · exact ax_ro_i
      · refine aj_run (C := True) (pc' := 39) (la' := [some (.inr (.inr (some (1, 0)))), some (.inl x), some (.inl w), some (.inl ((wCf (pBeL h x) k).1)), some (.inl ((wCf (pBeL h x) k).2)), some (.inl k)]) (st' := [.inr (.inr (some (1, 0)))]) (M' := (P, g1, r0, n)) ok_X10_beLast true 1 rfl trivial ?_
        refine aj_getR (f := 1) (k := 0) (g := 2) (o := 0) (u := 0) (ax_lk_ok (q := (1, 0)) rfl) rfl rfl hs.2.2.2.1 hs.2.2.2.2 (ax_dec2 (i := .getfield 10) (n := 3) ok_X10_beLast rfl) ?_
        refine aj_run (C := True) (pc' := 44) (la' := [some (.inr (.inr (some (1, 0)))), some (.inl x), some (.inl w), some (.inl ((wCf (pBeL h x) k).1)), some (.inl ((wCf (pBeL h x) k).2)), some (.inl k)]) (st' := [.inl k, .inr (.inr (some (2, 0)))]) (M' := (P, g1, r0, n)) ok_X10_beLast true 1 rfl trivial ?_
        refine aj_callV (av := [.inl k]) (st := []) (f := 2) (o := 0) (ci := 2) cal_X2_lastOf lk_10_179 ins_X2_lastOf rfl sel_X2_lastOf rfl (fun c9 h9 _ => by simpa [ax_ok] using h9) (cp_lastOf k _ _ _ _ h hsk i3 (by omega)) ⟨by decide, by decide, by decide, by decide⟩ (Nat.le_of_ble_eq_true rfl) (ax_dec2 (i := .invokevirtual 179) (n := 3) ok_X10_beLast rfl) (fun r M' hq => ?_)
        obtain ⟨rfl, g4, rfl, hd4, fr4⟩ := hq
        have fr9 := cFr_t fr4 i4
        have hpb : pBeL h x k ≠ 0 ↔ gLa h k = x := ⟨fun z => bI_n0 z, fun z => by unfold pBeL; rw [bI_t z]; decide⟩
        change ax_J _ _ _ _ _ _ _ _ _ 47 [some (.inr (.inr (some (1, 0)))), some (.inl x), some (.inl w), some (.inl ((wCf (pBeL h x) k).1)), some (.inl ((wCf (pBeL h x) k).2)), some (.inl k)] [.inl (gLa h k)] (P, g4, r0, n)
        refine aj_run (C := True) (pc' := 48) (la' := [some (.inr (.inr (some (1, 0)))), some (.inl x), some (.inl w), some (.inl ((wCf (pBeL h x) k).1)), some (.inl ((wCf (pBeL h x) k).2)), some (.inl k)]) (st' := [.inl x, .inl (gLa h k)]) (M' := (P, g4, r0, n)) ok_X10_beLast true 1 rfl trivial ?_
        refine aj_icmp_ne (tgt := 69) (ax_dec2 (i := .if_icmp .ne 21) (n := 3) ok_X10_beLast rfl) (by decide) (fun c5 => ?_) (fun c5 => ?_)
        · refine aj_run (C := (-2147483648 ≤ k + 1 ∧ k + 1 ≤ 2147483647) ∧ True) (pc' := 26) (la' := [some (.inr (.inr (some (1, 0)))), some (.inl x), some (.inl w), some (.inl ((wCf (pBeL h x) k).1)), some (.inl ((wCf (pBeL h x) k).2)), some (.inl (k + 1))]) (st' := []) (M' := (P, g4, r0, n)) ok_X10_beLast true 2 rfl (by refine ⟨?_, trivial⟩ <;> (omega)) ?_
          refine aj_cast (congrArg (fun (z9 : Int) => ([some (.inr (.inr (some (1, 0)))), some (.inl x), some (.inl w), some (.inl z9), some (.inl ((wCf (pBeL h x) k).2)), some (.inl (k + 1))] : List (Option ax_V))) (show ((wCf (pBeL h x) k).1) = (wCf (pBeL h x) (k + 1)).1 from by (rw [wCf_s i1]; (first | rw [if_pos (hpb.mpr (by omega))] | rw [if_neg (fun z => by have := hpb.mp z; omega)]) <;> (dsimp only; first | rfl | rw [if_pos (by omega)] | rw [if_neg (by omega)])))) rfl rfl ?_
          refine aj_cast (congrArg (fun (z9 : Int) => ([some (.inr (.inr (some (1, 0)))), some (.inl x), some (.inl w), some (.inl ((wCf (pBeL h x) (k + 1)).1)), some (.inl z9), some (.inl (k + 1))] : List (Option ax_V))) (show ((wCf (pBeL h x) k).2) = (wCf (pBeL h x) (k + 1)).2 from by (rw [wCf_s i1]; (first | rw [if_pos (hpb.mpr (by omega))] | rw [if_neg (fun z => by have := hpb.mp z; omega)]) <;> (dsimp only; first | rfl | rw [if_pos (by omega)] | rw [if_neg (by omega)])))) rfl rfl ?_
          refine ih26 (k + 1, g4) ?_ ?_
          · (try dsimp only); exact ⟨by omega, by omega, hd4, fr9⟩
          · omega
        · refine aj_run (C := (-2147483648 ≤ ((wCf (pBeL h x) k).1) + 1 ∧ ((wCf (pBeL h x) k).1) + 1 ≤ 2147483647) ∧ True) (pc' := 57) (la' := [some (.inr (.inr (some (1, 0)))), some (.inl x), some (.inl w), some (.inl (((wCf (pBeL h x) k).1) + 1)), some (.inl ((wCf (pBeL h x) k).2)), some (.inl k)]) (st' := [.inl (-1), .inl ((wCf (pBeL h x) k).2)]) (M' := (P, g4, r0, n)) ok_X10_beLast true 3 rfl (by refine ⟨?_, trivial⟩ <;> (omega)) ?_
          refine aj_icmp_ne (tgt := 65) (ax_dec2 (i := .if_icmp .ne 8) (n := 3) ok_X10_beLast rfl) (by decide) (fun c6 => ?_) (fun c6 => ?_)
          · refine aj_run (C := (-2147483648 ≤ k + 1 ∧ k + 1 ≤ 2147483647) ∧ True) (pc' := 26) (la' := [some (.inr (.inr (some (1, 0)))), some (.inl x), some (.inl w), some (.inl (((wCf (pBeL h x) k).1) + 1)), some (.inl ((wCf (pBeL h x) k).2)), some (.inl (k + 1))]) (st' := []) (M' := (P, g4, r0, n)) ok_X10_beLast true 4 rfl (by refine ⟨?_, trivial⟩ <;> (omega)) ?_
            refine aj_cast (congrArg (fun (z9 : Int) => ([some (.inr (.inr (some (1, 0)))), some (.inl x), some (.inl w), some (.inl z9), some (.inl ((wCf (pBeL h x) k).2)), some (.inl (k + 1))] : List (Option ax_V))) (show (((wCf (pBeL h x) k).1) + 1) = (wCf (pBeL h x) (k + 1)).1 from by (rw [wCf_s i1]; (first | rw [if_pos (hpb.mpr (by omega))] | rw [if_neg (fun z => by have := hpb.mp z; omega)]) <;> (dsimp only; first | rfl | rw [if_pos (by omega)] | rw [if_neg (by omega)])))) rfl rfl ?_
            refine aj_cast (congrArg (fun (z9 : Int) => ([some (.inr (.inr (some (1, 0)))), some (.inl x), some (.inl w), some (.inl ((wCf (pBeL h x) (k + 1)).1)), some (.inl z9), some (.inl (k + 1))] : List (Option ax_V))) (show ((wCf (pBeL h x) k).2) = (wCf (pBeL h x) (k + 1)).2 from by (rw [wCf_s i1]; (first | rw [if_pos (hpb.mpr (by omega))] | rw [if_neg (fun z => by have := hpb.mp z; omega)]) <;> (dsimp only; first | rfl | rw [if_pos (by omega)] | rw [if_neg (by omega)])))) rfl rfl ?_
            refine ih26 (k + 1, g4) ?_ ?_
            · (try dsimp only); exact ⟨by omega, by omega, hd4, fr9⟩
            · omega
          · refine aj_run (C := (-2147483648 ≤ k + 1 ∧ k + 1 ≤ 2147483647) ∧ True) (pc' := 26) (la' := [some (.inr (.inr (some (1, 0)))), some (.inl x), some (.inl w), some (.inl (((wCf (pBeL h x) k).1) + 1)), some (.inl k), some (.inl (k + 1))]) (st' := []) (M' := (P, g4, r0, n)) ok_X10_beLast true 5 rfl (by refine ⟨?_, trivial⟩ <;> (omega)) ?_
            refine aj_cast (congrArg (fun (z9 : Int) => ([some (.inr (.inr (some (1, 0)))), some (.inl x), some (.inl w), some (.inl z9), some (.inl k), some (.inl (k + 1))] : List (Option ax_V))) (show (((wCf (pBeL h x) k).1) + 1) = (wCf (pBeL h x) (k + 1)).1 from by (rw [wCf_s i1]; (first | rw [if_pos (hpb.mpr (by omega))] | rw [if_neg (fun z => by have := hpb.mp z; omega)]) <;> (dsimp only; first | rfl | rw [if_pos (by omega)] | rw [if_neg (by omega)])))) rfl rfl ?_
            refine aj_cast (congrArg (fun (z9 : Int) => ([some (.inr (.inr (some (1, 0)))), some (.inl x), some (.inl w), some (.inl ((wCf (pBeL h x) (k + 1)).1)), some (.inl z9), some (.inl (k + 1))] : List (Option ax_V))) (show k = (wCf (pBeL h x) (k + 1)).2 from by (rw [wCf_s i1]; (first | rw [if_pos (hpb.mpr (by omega))] | rw [if_neg (fun z => by have := hpb.mp z; omega)]) <;> (dsimp only; first | rfl | rw [if_pos (by omega)] | rw [if_neg (by omega)])))) rfl rfl ?_
            refine ih26 (k + 1, g4) ?_ ?_
            · (try dsimp only); exact ⟨by omega, by omega, hd4, fr9⟩
            · omega
    · replace c2 := bI_e0 c2
      refine aj_run (C := True) (pc' := 17) (la' := [some (.inr (.inr (some (1, 0)))), some (.inl x), some (.inl w), none, none, none]) (st' := [.inl (-2)]) (M' := (P, g, r0, n)) ok_X10_beLast true 1 rfl trivial ?_
      refine aj_ret (r := some (.inl (-2))) (ax_dec2 (i := .ireturn) (n := 1) ok_X10_beLast rfl) ⟨?_, ?_, by decide, by decide⟩ rfl
      · first | (exfalso; omega) | exact ⟨ax_si (by unfold fBeL; (repeat first | rw [if_pos (by omega)] | rw [if_neg (by omega)] | rw [bI_t (by omega)] | rw [bI_f (by omega)]); try first | rfl | omega), g, rfl, hd, fun _ _ _ _ => rfl⟩
      · exact ax_ro_i

set_option maxRecDepth 100000 in
set_option maxHeartbeats 4000000 in
theorem cp_longest (x w : Int) (P : Nat → Int → Prop) (g : Nat → Int → Int → Int) (r0 : Nat → Int → Int → Option (Nat × Int)) (n : Nat → Int → Int) (h : Nat → Int → Int → Int) (hs : cSta P r0 n g h) (hd : cDy g h) : ax_S yX10_longest cX10_longest 7 (some FieldType.int) 13 0 0 [.inr (.inr (some (1, 0))), .inl x, .inl w] (P, g, r0, n) (fun r M' => r = some (.inl (fLon h x w)) ∧ ∃ g', M' = (P, g', r0, n) ∧ cDy g' h ∧ cFr TW g' g) := by
  have hAs := hs.1.1
  have hPs := hs.1.2.1
  have hOs := hs.1.2.2
  have hP1 := hPs.1
  have hA1 := hAs.1
  have hsz := hOs.2.2.1
  have hm := hd.1
  have hca := hd.2
  have hxz := hPs.1.1
  refine ax_S_of (own := 10) (by decide) rfl (fun h => absurd h (by decide)) rfl (Nat.le_of_ble_eq_true rfl) ?_
  change ax_J _ _ _ _ _ _ _ _ _ _ [some (.inr (.inr (some (1, 0)))), some (.inl x), some (.inl w), none, none, none, none] _ _
  refine aj_run (C := True) (pc' := 2) (la' := [some (.inr (.inr (some (1, 0)))), some (.inl x), some (.inl w), none, none, none, none]) (st' := [.inl x, .inr (.inr (some (1, 0)))]) (M' := (P, g, r0, n)) ok_X10_longest true 2 rfl trivial ?_
  refine aj_callV (av := [.inl x]) (st := []) (f := 1) (o := 0) (ci := 10) cal_X10_isAnt lk_10_122 ins_X10_isAnt rfl sel_X10_isAnt rfl (fun c9 h9 _ => by simpa [ax_ok] using h9) (cp_isAnt x _ _ _ _ hs.2.2.2) ⟨by decide, by decide, by decide, by decide⟩ (Nat.le_of_ble_eq_true rfl) (ax_dec2 (i := .invokevirtual 122) (n := 3) ok_X10_longest rfl) (fun r M' hq => ?_)
  obtain ⟨rfl, rfl⟩ := hq
  change ax_J _ _ _ _ _ _ _ _ _ 5 [some (.inr (.inr (some (1, 0)))), some (.inl x), some (.inl w), none, none, none, none] [.inl (bI (0 ≤ x ∧ x < g 2 0 1))] (P, g, r0, n)
  refine aj_if_eq (tgt := 15) (ax_dec2 (i := .ifCond .eq 10) (n := 3) ok_X10_longest rfl) (by decide) (fun c1 => ?_) (fun c1 => ?_)
  · replace c1 := bI_e0 c1
    refine aj_run (C := True) (pc' := 17) (la' := [some (.inr (.inr (some (1, 0)))), some (.inl x), some (.inl w), none, none, none, none]) (st' := [.inl (-2)]) (M' := (P, g, r0, n)) ok_X10_longest true 1 rfl trivial ?_
    refine aj_ret (r := some (.inl (-2))) (ax_dec2 (i := .ireturn) (n := 1) ok_X10_longest rfl) ⟨?_, ?_, by decide, by decide⟩ rfl
    · first | (exfalso; omega) | exact ⟨ax_si (by unfold fLon; (repeat first | rw [if_pos (by omega)] | rw [if_neg (by omega)] | rw [bI_t (by omega)] | rw [bI_f (by omega)]); try first | rfl | omega), g, rfl, hd, fun _ _ _ _ => rfl⟩
    · exact ax_ro_i
  · replace c1 := bI_n0 c1
    refine aj_run (C := True) (pc' := 9) (la' := [some (.inr (.inr (some (1, 0)))), some (.inl x), some (.inl w), none, none, none, none]) (st' := [.inl w]) (M' := (P, g, r0, n)) ok_X10_longest true 1 rfl trivial ?_
    refine aj_callS (av := [.inl w]) (st := []) cal_X10_isEither lk_10_163 stc_X10_isEither (cp_isEither w _ _ _ _) ⟨by decide, by decide, by decide, by decide⟩ (Nat.le_of_ble_eq_true rfl) (ax_dec2 (i := .invokestatic 163) (n := 3) ok_X10_longest rfl) (fun r M' hq => ?_)
    obtain ⟨rfl, rfl⟩ := hq
    change ax_J _ _ _ _ _ _ _ _ _ 12 [some (.inr (.inr (some (1, 0)))), some (.inl x), some (.inl w), none, none, none, none] [.inl (bI (0 ≤ w ∧ w ≤ 1))] (P, g, r0, n)
    refine aj_if_ne (tgt := 18) (ax_dec2 (i := .ifCond .ne 6) (n := 3) ok_X10_longest rfl) (by decide) (fun c2 => ?_) (fun c2 => ?_)
    · replace c2 := bI_n0 c2
      refine aj_run (C := True) (pc' := 26) (la' := [some (.inr (.inr (some (1, 0)))), some (.inl x), some (.inl w), some (.inl (-1)), some (.inl (-1)), some (.inl 0), none]) (st' := []) (M' := (P, g, r0, n)) ok_X10_longest true 6 rfl trivial ?_
      refine aj_cast (congrArg (fun (z9 : Int) => ([some (.inr (.inr (some (1, 0)))), some (.inl x), some (.inl w), some (.inl z9), some (.inl (-1)), some (.inl 0), none] : List (Option ax_V))) (show (-1) = (gLon h x 0).1 from by rfl)) rfl rfl ?_
      refine aj_cast (congrArg (fun (z9 : Int) => ([some (.inr (.inr (some (1, 0)))), some (.inl x), some (.inl w), some (.inl ((gLon h x 0).1)), some (.inl z9), some (.inl 0), none] : List (Option ax_V))) (show (-1) = (gLon h x 0).2 from by rfl)) rfl rfl ?_
      refine aj_forget (la' := [some (.inr (.inr (some (1, 0)))), some (.inl x), some (.inl w), some (.inl ((gLon h x 0).1)), some (.inl ((gLon h x 0).2)), some (.inl 0), none]) (by simp [ax_fg]) ?_
      refine aj_loop (σ := (Int) × (Nat → Int → Int → Int)) (fun xL => 0 ≤ xL.1 ∧ xL.1 ≤ wWy h ∧ cDy xL.2 h ∧ cFr TW xL.2 g) (fun xL => (wWy h - xL.1).toNat) (fun xL => [some (.inr (.inr (some (1, 0)))), some (.inl x), some (.inl w), some (.inl ((gLon h x xL.1).1)), some (.inl ((gLon h x xL.1).2)), some (.inl xL.1), none]) (fun xL => []) (fun xL => (P, xL.2, r0, n)) ?_ (0, g) ?_
      rotate_left
      · (try dsimp only); exact ⟨by omega, by have := wWy_in hOs; omega, hd, fun _ _ _ _ => rfl⟩
      rintro ⟨k, g1⟩ hI ih26
      try dsimp only at hI ih26
      obtain ⟨i1, i2, i3, i4⟩ := hI
      change ax_J _ _ _ _ _ _ _ _ _ 26 [some (.inr (.inr (some (1, 0)))), some (.inl x), some (.inl w), some (.inl ((gLon h x k).1)), some (.inl ((gLon h x k).2)), some (.inl k), none] [] (P, g1, r0, n)
      have hs1 : g1 2 0 1 = g 2 0 1 := i4 2 0 1 (by unfold TW TG; omega)
      have hwy : ax_shl 1 (g1 2 0 1) = wWy h := by rw [hs1, hxz]; rfl
      have hw9 := wWy_in hOs
      have hsk := cSta_w i4 hs
      refine aj_run (C := True) (pc' := 29) (la' := [some (.inr (.inr (some (1, 0)))), some (.inl x), some (.inl w), some (.inl ((gLon h x k).1)), some (.inl ((gLon h x k).2)), some (.inl k), none]) (st' := [.inr (.inr (some (1, 0))), .inl k]) (M' := (P, g1, r0, n)) ok_X10_longest true 2 rfl trivial ?_
      refine aj_getR (f := 1) (k := 0) (g := 2) (o := 0) (u := 0) (ax_lk_ok (q := (1, 0)) rfl) rfl rfl hs.2.2.2.1 hs.2.2.2.2 (ax_dec2 (i := .getfield 10) (n := 3) ok_X10_longest rfl) ?_
      refine aj_callV (av := []) (st := [.inl k]) (f := 2) (o := 0) (ci := 2) cal_X2_ways lk_10_207 ins_X2_ways rfl sel_X2_ways rfl (fun c9 h9 _ => by simpa [ax_ok] using h9) (cp_ways _ _ _ _) ⟨by decide, by decide, by decide, by decide⟩ (Nat.le_of_ble_eq_true rfl) (ax_dec2 (i := .invokevirtual 207) (n := 3) ok_X10_longest rfl) (fun r M' hq => ?_)
      obtain ⟨rfl, rfl⟩ := hq
      change ax_J _ _ _ _ _ _ _ _ _ 35 [some (.inr (.inr (some (1, 0)))), some (.inl x), some (.inl w), some (.inl ((gLon h x k).1)), some (.inl ((gLon h x k).2)), some (.inl k), none] [.inl (ax_shl 1 (g1 2 0 1)), .inl k] (P, g1, r0, n)
      refine aj_icmp_ge (tgt := 79) (ax_dec2 (i := .if_icmp .ge 44) (n := 3) ok_X10_longest rfl) (by decide) (fun c3 => ?_) (fun c3 => ?_)
      · refine aj_run (C := True) (pc' := 80) (la' := [some (.inr (.inr (some (1, 0)))), some (.inl x), some (.inl w), some (.inl ((gLon h x k).1)), some (.inl ((gLon h x k).2)), some (.inl k), none]) (st' := [.inl w]) (M' := (P, g1, r0, n)) ok_X10_longest true 1 rfl trivial ?_
        refine aj_if_ne (tgt := 87) (ax_dec2 (i := .ifCond .ne 7) (n := 3) ok_X10_longest rfl) (by decide) (fun c4 => ?_) (fun c4 => ?_)
        · refine aj_run (C := True) (pc' := 89) (la' := [some (.inr (.inr (some (1, 0)))), some (.inl x), some (.inl w), some (.inl ((gLon h x k).1)), some (.inl ((gLon h x k).2)), some (.inl k), none]) (st' := [.inl ((gLon h x k).2)]) (M' := (P, g1, r0, n)) ok_X10_longest true 1 rfl trivial ?_
          refine aj_ret (r := some (.inl ((gLon h x k).2))) (ax_dec2 (i := .ireturn) (n := 1) ok_X10_longest rfl) ⟨?_, ?_, by decide, by decide⟩ rfl
          · exact ⟨ax_si (by unfold fLon; rw [if_pos (by omega)]; (first | rw [if_pos (by omega)] | rw [if_neg (by omega)]); rw [show wWy h = k by omega]), g1, rfl, i3, i4⟩
          · exact ax_ro_i
        · refine aj_run (C := True) (pc' := 89) (la' := [some (.inr (.inr (some (1, 0)))), some (.inl x), some (.inl w), some (.inl ((gLon h x k).1)), some (.inl ((gLon h x k).2)), some (.inl k), none]) (st' := [.inl ((gLon h x k).1)]) (M' := (P, g1, r0, n)) ok_X10_longest true 2 rfl trivial ?_
          refine aj_ret (r := some (.inl ((gLon h x k).1))) (ax_dec2 (i := .ireturn) (n := 1) ok_X10_longest rfl) ⟨?_, ?_, by decide, by decide⟩ rfl
          · exact ⟨ax_si (by unfold fLon; rw [if_pos (by omega)]; (first | rw [if_pos (by omega)] | rw [if_neg (by omega)]); rw [show wWy h = k by omega]), g1, rfl, i3, i4⟩
          · exact ax_ro_i
      · refine aj_run (C := True) (pc' := 39) (la' := [some (.inr (.inr (some (1, 0)))), some (.inl x), some (.inl w), some (.inl ((gLon h x k).1)), some (.inl ((gLon h x k).2)), some (.inl k), none]) (st' := [.inr (.inr (some (1, 0)))]) (M' := (P, g1, r0, n)) ok_X10_longest true 1 rfl trivial ?_
        refine aj_getR (f := 1) (k := 0) (g := 2) (o := 0) (u := 0) (ax_lk_ok (q := (1, 0)) rfl) rfl rfl hs.2.2.2.1 hs.2.2.2.2 (ax_dec2 (i := .getfield 10) (n := 3) ok_X10_longest rfl) ?_
        refine aj_run (C := True) (pc' := 46) (la' := [some (.inr (.inr (some (1, 0)))), some (.inl x), some (.inl w), some (.inl ((gLon h x k).1)), some (.inl ((gLon h x k).2)), some (.inl k), none]) (st' := [.inr (.inr (some (1, 0))), .inr (.inr (some (209, 0)))]) (M' := (P, g1, r0, n)) ok_X10_longest true 2 rfl trivial ?_
        refine aj_getR (f := 1) (k := 0) (g := 2) (o := 0) (u := 0) (ax_lk_ok (q := (1, 0)) rfl) rfl rfl hs.2.2.2.1 hs.2.2.2.2 (ax_dec2 (i := .getfield 10) (n := 3) ok_X10_longest rfl) ?_
        refine aj_run (C := True) (pc' := 51) (la' := [some (.inr (.inr (some (1, 0)))), some (.inl x), some (.inl w), some (.inl ((gLon h x k).1)), some (.inl ((gLon h x k).2)), some (.inl k), none]) (st' := [.inl k, .inr (.inr (some (2, 0))), .inr (.inr (some (209, 0)))]) (M' := (P, g1, r0, n)) ok_X10_longest true 1 rfl trivial ?_
        refine aj_callV (av := [.inl k]) (st := [.inr (.inr (some (209, 0)))]) (f := 2) (o := 0) (ci := 2) cal_X2_rowOf lk_10_213 ins_X2_rowOf rfl sel_X2_rowOf rfl (fun c9 h9 _ => by simpa [ax_ok] using h9) (cp_rowOf k _ _ _ _ h hsk i3 (by omega)) ⟨by decide, by decide, by decide, by decide⟩ (Nat.le_of_ble_eq_true rfl) (ax_dec2 (i := .invokevirtual 213) (n := 3) ok_X10_longest rfl) (fun r M' hq => ?_)
        obtain ⟨rfl, g4, rfl, hd4, fr4, row4⟩ := hq
        have fr9 := cFr_t fr4 i4
        have hrx := row4 x (by omega) (by omega)
        have hln := hs.2.1
        change ax_J _ _ _ _ _ _ _ _ _ 54 [some (.inr (.inr (some (1, 0)))), some (.inl x), some (.inl w), some (.inl ((gLon h x k).1)), some (.inl ((gLon h x k).2)), some (.inl k), none] [.inl (k * 7), .inr (.inr (some (209, 0)))] (P, g4, r0, n)
        refine aj_run (C := (-2147483648 ≤ (k * 7) + x ∧ (k * 7) + x ≤ 2147483647) ∧ (0 ≤ (k * 7) + x ∧ (k * 7) + x < n 209 0) ∧ True) (pc' := 63) (la' := [some (.inr (.inr (some (1, 0)))), some (.inl x), some (.inl w), some (.inl ((gLon h x k).1)), some (.inl ((gLon h x k).2)), some (.inl k), some (.inl (g4 209 0 ((k * 7) + x)))]) (st' := [.inl ((gLon h x k).2), .inl (g4 209 0 ((k * 7) + x))]) (M' := (P, g4, r0, n)) ok_X10_longest true 6 rfl (by refine ⟨?_, ?_, trivial⟩ <;> (omega)) ?_
        refine aj_icmp_le (tgt := 73) (ax_dec2 (i := .if_icmp .le 10) (n := 3) ok_X10_longest rfl) (by decide) (fun c5 => ?_) (fun c5 => ?_)
        · refine aj_run (C := (-2147483648 ≤ k + 1 ∧ k + 1 ≤ 2147483647) ∧ True) (pc' := 26) (la' := [some (.inr (.inr (some (1, 0)))), some (.inl x), some (.inl w), some (.inl ((gLon h x k).1)), some (.inl ((gLon h x k).2)), some (.inl (k + 1)), some (.inl (g4 209 0 ((k * 7) + x)))]) (st' := []) (M' := (P, g4, r0, n)) ok_X10_longest true 2 rfl (by refine ⟨?_, trivial⟩ <;> (omega)) ?_
          refine aj_cast (congrArg (fun (z9 : Int) => ([some (.inr (.inr (some (1, 0)))), some (.inl x), some (.inl w), some (.inl z9), some (.inl ((gLon h x k).2)), some (.inl (k + 1)), some (.inl (g4 209 0 ((k * 7) + x)))] : List (Option ax_V))) (show ((gLon h x k).1) = (gLon h x (k + 1)).1 from by (rw [gLon_s i1]; (first | rw [if_pos (by omega)] | rw [if_neg (by omega)]) <;> (dsimp only; omega)))) rfl rfl ?_
          refine aj_cast (congrArg (fun (z9 : Int) => ([some (.inr (.inr (some (1, 0)))), some (.inl x), some (.inl w), some (.inl ((gLon h x (k + 1)).1)), some (.inl z9), some (.inl (k + 1)), some (.inl (g4 209 0 ((k * 7) + x)))] : List (Option ax_V))) (show ((gLon h x k).2) = (gLon h x (k + 1)).2 from by (rw [gLon_s i1]; (first | rw [if_pos (by omega)] | rw [if_neg (by omega)]) <;> (dsimp only; omega)))) rfl rfl ?_
          refine aj_forget (la' := [some (.inr (.inr (some (1, 0)))), some (.inl x), some (.inl w), some (.inl ((gLon h x (k + 1)).1)), some (.inl ((gLon h x (k + 1)).2)), some (.inl (k + 1)), none]) (by simp [ax_fg]) ?_
          refine ih26 (k + 1, g4) ?_ ?_
          · (try dsimp only); exact ⟨by omega, by omega, hd4, fr9⟩
          · omega
        · refine aj_run (C := (-2147483648 ≤ k + 1 ∧ k + 1 ≤ 2147483647) ∧ True) (pc' := 26) (la' := [some (.inr (.inr (some (1, 0)))), some (.inl x), some (.inl w), some (.inl k), some (.inl (g4 209 0 ((k * 7) + x))), some (.inl (k + 1)), some (.inl (g4 209 0 ((k * 7) + x)))]) (st' := []) (M' := (P, g4, r0, n)) ok_X10_longest true 6 rfl (by refine ⟨?_, trivial⟩ <;> (omega)) ?_
          refine aj_cast (congrArg (fun (z9 : Int) => ([some (.inr (.inr (some (1, 0)))), some (.inl x), some (.inl w), some (.inl z9), some (.inl (g4 209 0 ((k * 7) + x))), some (.inl (k + 1)), some (.inl (g4 209 0 ((k * 7) + x)))] : List (Option ax_V))) (show k = (gLon h x (k + 1)).1 from by (rw [gLon_s i1]; (first | rw [if_pos (by omega)] | rw [if_neg (by omega)]) <;> (dsimp only; omega)))) rfl rfl ?_
          refine aj_cast (congrArg (fun (z9 : Int) => ([some (.inr (.inr (some (1, 0)))), some (.inl x), some (.inl w), some (.inl ((gLon h x (k + 1)).1)), some (.inl z9), some (.inl (k + 1)), some (.inl (g4 209 0 ((k * 7) + x)))] : List (Option ax_V))) (show (g4 209 0 ((k * 7) + x)) = (gLon h x (k + 1)).2 from by (rw [gLon_s i1]; (first | rw [if_pos (by omega)] | rw [if_neg (by omega)]) <;> (dsimp only; omega)))) rfl rfl ?_
          refine aj_forget (la' := [some (.inr (.inr (some (1, 0)))), some (.inl x), some (.inl w), some (.inl ((gLon h x (k + 1)).1)), some (.inl ((gLon h x (k + 1)).2)), some (.inl (k + 1)), none]) (by simp [ax_fg]) ?_
          refine ih26 (k + 1, g4) ?_ ?_
          · (try dsimp only); exact ⟨by omega, by omega, hd4, fr9⟩
          · omega
    · replace c2 := bI_e0 c2
      refine aj_run (C := True) (pc' := 17) (la' := [some (.inr (.inr (some (1, 0)))), some (.inl x), some (.inl w), none, none, none, none]) (st' := [.inl (-2)]) (M' := (P, g, r0, n)) ok_X10_longest true 1 rfl trivial ?_
      refine aj_ret (r := some (.inl (-2))) (ax_dec2 (i := .ireturn) (n := 1) ok_X10_longest rfl) ⟨?_, ?_, by decide, by decide⟩ rfl
      · first | (exfalso; omega) | exact ⟨ax_si (by unfold fLon; (repeat first | rw [if_pos (by omega)] | rw [if_neg (by omega)] | rw [bI_t (by omega)] | rw [bI_f (by omega)]); try first | rfl | omega), g, rfl, hd, fun _ _ _ _ => rfl⟩
      · exact ax_ro_i

set_option maxRecDepth 100000 in
set_option maxHeartbeats 4000000 in
theorem cp_drawn (v : Int) (P : Nat → Int → Prop) (g : Nat → Int → Int → Int) (r0 : Nat → Int → Int → Option (Nat × Int)) (n : Nat → Int → Int) (h : Nat → Int → Int → Int) (hs : cSta P r0 n g h) (hd : cDy g h) : ax_S yX10_drawn cX10_drawn 5 (some FieldType.int) 14 0 0 [.inr (.inr (some (1, 0))), .inl v] (P, g, r0, n) (fun r M' => r = some (.inl (fDrw h v)) ∧ ∃ g', M' = (P, g', r0, n) ∧ cDy g' h ∧ cFr TW g' g) := by
  have hAs := hs.1.1
  have hPs := hs.1.2.1
  have hOs := hs.1.2.2
  have hP1 := hPs.1
  have hA1 := hAs.1
  have hsz := hOs.2.2.1
  have hm := hd.1
  have hca := hd.2
  have hxz := hPs.1.1
  refine ax_S_of (own := 10) (by decide) rfl (fun h => absurd h (by decide)) rfl (Nat.le_of_ble_eq_true rfl) ?_
  change ax_J _ _ _ _ _ _ _ _ _ _ [some (.inr (.inr (some (1, 0)))), some (.inl v), none, none, none] _ _
  refine aj_run (C := True) (pc' := 7) (la' := [some (.inr (.inr (some (1, 0)))), some (.inl v), some (.inl v), some (.inl 0), some (.inl 0)]) (st' := []) (M' := (P, g, r0, n)) ok_X10_drawn true 6 rfl trivial ?_
  refine aj_cast (congrArg (fun (z9 : Int) => ([some (.inr (.inr (some (1, 0)))), some (.inl v), some (.inl z9), some (.inl 0), some (.inl 0)] : List (Option ax_V))) (show v = (wDr v 0).1 from by rfl)) rfl rfl ?_
  refine aj_cast (congrArg (fun (z9 : Int) => ([some (.inr (.inr (some (1, 0)))), some (.inl v), some (.inl ((wDr v 0).1)), some (.inl z9), some (.inl 0)] : List (Option ax_V))) (show 0 = (wDr v 0).2 from by rfl)) rfl rfl ?_
  refine aj_loop (σ := (Int)) (fun xL => 0 ≤ xL ∧ xL ≤ g 2 0 1) (fun xL => (g 2 0 1 - xL).toNat) (fun xL => [some (.inr (.inr (some (1, 0)))), some (.inl v), some (.inl ((wDr v xL).1)), some (.inl ((wDr v xL).2)), some (.inl xL)]) (fun xL => []) (fun xL => (P, g, r0, n)) ?_ (0) ?_
  rotate_left
  · (try dsimp only); omega
  rintro a hI ih7
  try dsimp only at hI ih7
  obtain ⟨i1, i2⟩ := hI
  change ax_J _ _ _ _ _ _ _ _ _ 7 [some (.inr (.inr (some (1, 0)))), some (.inl v), some (.inl ((wDr v a).1)), some (.inl ((wDr v a).2)), some (.inl a)] [] (P, g, r0, n)
  refine aj_run (C := True) (pc' := 10) (la' := [some (.inr (.inr (some (1, 0)))), some (.inl v), some (.inl ((wDr v a).1)), some (.inl ((wDr v a).2)), some (.inl a)]) (st' := [.inr (.inr (some (1, 0))), .inl a]) (M' := (P, g, r0, n)) ok_X10_drawn true 2 rfl trivial ?_
  refine aj_getR (f := 1) (k := 0) (g := 2) (o := 0) (u := 0) (ax_lk_ok (q := (1, 0)) rfl) rfl rfl hs.2.2.2.1 hs.2.2.2.2 (ax_dec2 (i := .getfield 10) (n := 3) ok_X10_drawn rfl) ?_
  refine aj_run (C := True) (pc' := 16) (la' := [some (.inr (.inr (some (1, 0)))), some (.inl v), some (.inl ((wDr v a).1)), some (.inl ((wDr v a).2)), some (.inl a)]) (st' := [.inl (g 2 0 1), .inl a]) (M' := (P, g, r0, n)) ok_X10_drawn true 1 rfl trivial ?_
  refine aj_icmp_ge (tgt := 46) (ax_dec2 (i := .if_icmp .ge 30) (n := 3) ok_X10_drawn rfl) (by decide) (fun c1 => ?_) (fun c1 => ?_)
  · refine aj_run (C := True) (pc' := 47) (la' := [some (.inr (.inr (some (1, 0)))), some (.inl v), some (.inl ((wDr v a).1)), some (.inl ((wDr v a).2)), some (.inl a)]) (st' := [.inr (.inr (some (1, 0)))]) (M' := (P, g, r0, n)) ok_X10_drawn true 1 rfl trivial ?_
    refine aj_getR (f := 1) (k := 0) (g := 2) (o := 0) (u := 0) (ax_lk_ok (q := (1, 0)) rfl) rfl rfl hs.2.2.2.1 hs.2.2.2.2 (ax_dec2 (i := .getfield 10) (n := 3) ok_X10_drawn rfl) ?_
    refine aj_run (C := True) (pc' := 51) (la' := [some (.inr (.inr (some (1, 0)))), some (.inl v), some (.inl ((wDr v a).1)), some (.inl ((wDr v a).2)), some (.inl a)]) (st' := [.inl ((wDr v a).2), .inr (.inr (some (2, 0)))]) (M' := (P, g, r0, n)) ok_X10_drawn true 1 rfl trivial ?_
    have hdi := wDr_in (v := v) (k := a) (by omega) (by omega)
    refine aj_callV (av := [.inl ((wDr v a).2)]) (st := []) (f := 2) (o := 0) (ci := 2) cal_X2_latestOf lk_10_182 ins_X2_latestOf rfl sel_X2_latestOf rfl (fun c9 h9 _ => by simpa [ax_ok] using h9) (cp_latestOf (wDr v a).2 _ _ _ _ h hs hd hdi) ⟨by decide, by decide, by decide, by decide⟩ (Nat.le_of_ble_eq_true rfl) (ax_dec2 (i := .invokevirtual 182) (n := 3) ok_X10_drawn rfl) (fun r M' hq => ?_)
    obtain ⟨rfl, g4, rfl, hd4, fr4⟩ := hq
    change ax_J _ _ _ _ _ _ _ _ _ 54 [some (.inr (.inr (some (1, 0)))), some (.inl v), some (.inl ((wDr v a).1)), some (.inl ((wDr v a).2)), some (.inl a)] [.inl (gLt h (wDr v a).2)] (P, g4, r0, n)
    refine aj_ret (r := some (.inl (gLt h (wDr v a).2))) (ax_dec2 (i := .ireturn) (n := 1) ok_X10_drawn rfl) ⟨?_, ?_, by decide, by decide⟩ rfl
    · exact ⟨ax_si (by unfold fDrw gLt; rw [← hxz, show g 2 0 1 = a by omega]), g4, rfl, hd4, fr4⟩
    · exact ax_ro_i
  · refine aj_run (C := True) (pc' := 22) (la' := [some (.inr (.inr (some (1, 0)))), some (.inl v), some (.inl ((wDr v a).1)), some (.inl ((wDr v a).2)), some (.inl a)]) (st' := [.inl 1103515245, .inl ((wDr v a).1)]) (M' := (P, g, r0, n)) ok_X10_drawn true 2 rfl trivial ?_
    refine aj_run (C := True) (pc' := 23) (la' := [some (.inr (.inr (some (1, 0)))), some (.inl v), some (.inl ((wDr v a).1)), some (.inl ((wDr v a).2)), some (.inl a)]) (st' := [.inl (Int.bmod (((wDr v a).1) * 1103515245) 4294967296)]) (M' := (P, g, r0, n)) ok_X10_drawn false 1 rfl trivial ?_
    refine aj_run (C := True) (pc' := 26) (la' := [some (.inr (.inr (some (1, 0)))), some (.inl v), some (.inl ((wDr v a).1)), some (.inl ((wDr v a).2)), some (.inl a)]) (st' := [.inl 12345, .inl (Int.bmod (((wDr v a).1) * 1103515245) 4294967296)]) (M' := (P, g, r0, n)) ok_X10_drawn true 1 rfl trivial ?_
    refine aj_run (C := True) (pc' := 27) (la' := [some (.inr (.inr (some (1, 0)))), some (.inl v), some (.inl ((wDr v a).1)), some (.inl ((wDr v a).2)), some (.inl a)]) (st' := [.inl (Int.bmod ((Int.bmod (((wDr v a).1) * 1103515245) 4294967296) + 12345) 4294967296)]) (M' := (P, g, r0, n)) ok_X10_drawn false 1 rfl trivial ?_
    refine aj_run (C := (0 < 2) ∧ (-2147483648 ≤ a + 1 ∧ a + 1 ≤ 2147483647) ∧ True) (pc' := 7) (la' := [some (.inr (.inr (some (1, 0)))), some (.inl v), some (.inl (Int.bmod ((Int.bmod (((wDr v a).1) * 1103515245) 4294967296) + 12345) 4294967296)), some (.inl (ax_or ((wDr v a).2) (ax_shl (Int.tmod (ax_ush (Int.bmod ((Int.bmod (((wDr v a).1) * 1103515245) 4294967296) + 12345) 4294967296) 7) 2) a))), some (.inl (a + 1))]) (st' := []) (M' := (P, g, r0, n)) ok_X10_drawn true 13 rfl (by refine ⟨?_, ?_, trivial⟩ <;> (omega)) ?_
    refine aj_cast (congrArg (fun (z9 : Int) => ([some (.inr (.inr (some (1, 0)))), some (.inl v), some (.inl z9), some (.inl (ax_or ((wDr v a).2) (ax_shl (Int.tmod (ax_ush (Int.bmod ((Int.bmod (((wDr v a).1) * 1103515245) 4294967296) + 12345) 4294967296) 7) 2) a))), some (.inl (a + 1))] : List (Option ax_V))) (show (Int.bmod ((Int.bmod (((wDr v a).1) * 1103515245) 4294967296) + 12345) 4294967296) = (wDr v (a + 1)).1 from by (rw [wDr_s i1]))) rfl rfl ?_
    refine aj_cast (congrArg (fun (z9 : Int) => ([some (.inr (.inr (some (1, 0)))), some (.inl v), some (.inl ((wDr v (a + 1)).1)), some (.inl z9), some (.inl (a + 1))] : List (Option ax_V))) (show (ax_or ((wDr v a).2) (ax_shl (Int.tmod (ax_ush (Int.bmod ((Int.bmod (((wDr v a).1) * 1103515245) 4294967296) + 12345) 4294967296) 7) 2) a)) = (wDr v (a + 1)).2 from by (rw [wDr_s i1]))) rfl rfl ?_
    refine ih7 (a + 1) ?_ ?_
    · (try dsimp only); omega
    · omega

set_option maxRecDepth 100000 in
set_option maxHeartbeats 4000000 in
theorem cp_carried (x w : Int) (P : Nat → Int → Prop) (g : Nat → Int → Int → Int) (r0 : Nat → Int → Int → Option (Nat × Int)) (n : Nat → Int → Int) (h : Nat → Int → Int → Int) (hs : cSta P r0 n g h) (hd : cDy g h) : ax_S yX10_carried cX10_carried 3 (some FieldType.int) 12 0 0 [.inr (.inr (some (1, 0))), .inl x, .inl w] (P, g, r0, n) (fun r M' => r = some (.inl (fCar h x w)) ∧ ∃ g', M' = (P, g', r0, n) ∧ cDy g' h ∧ cFr TW g' g) := by
  have hAs := hs.1.1
  have hPs := hs.1.2.1
  have hOs := hs.1.2.2
  have hP1 := hPs.1
  have hA1 := hAs.1
  have hsz := hOs.2.2.1
  have hm := hd.1
  have hca := hd.2
  have hxz := hPs.1.1
  refine ax_S_of (own := 10) (by decide) rfl (fun h => absurd h (by decide)) rfl (Nat.le_of_ble_eq_true rfl) ?_
  change ax_J _ _ _ _ _ _ _ _ _ _ [some (.inr (.inr (some (1, 0)))), some (.inl x), some (.inl w)] _ _
  refine aj_run (C := True) (pc' := 2) (la' := [some (.inr (.inr (some (1, 0)))), some (.inl x), some (.inl w)]) (st' := [.inl x, .inr (.inr (some (1, 0)))]) (M' := (P, g, r0, n)) ok_X10_carried true 2 rfl trivial ?_
  refine aj_callV (av := [.inl x]) (st := []) (f := 1) (o := 0) (ci := 10) cal_X10_isAnt lk_10_122 ins_X10_isAnt rfl sel_X10_isAnt rfl (fun c9 h9 _ => by simpa [ax_ok] using h9) (cp_isAnt x _ _ _ _ hs.2.2.2) ⟨by decide, by decide, by decide, by decide⟩ (Nat.le_of_ble_eq_true rfl) (ax_dec2 (i := .invokevirtual 122) (n := 3) ok_X10_carried rfl) (fun r M' hq => ?_)
  obtain ⟨rfl, rfl⟩ := hq
  change ax_J _ _ _ _ _ _ _ _ _ 5 [some (.inr (.inr (some (1, 0)))), some (.inl x), some (.inl w)] [.inl (bI (0 ≤ x ∧ x < g 2 0 1))] (P, g, r0, n)
  refine aj_if_eq (tgt := 15) (ax_dec2 (i := .ifCond .eq 10) (n := 3) ok_X10_carried rfl) (by decide) (fun c1 => ?_) (fun c1 => ?_)
  · replace c1 := bI_e0 c1
    refine aj_run (C := True) (pc' := 17) (la' := [some (.inr (.inr (some (1, 0)))), some (.inl x), some (.inl w)]) (st' := [.inl (-2)]) (M' := (P, g, r0, n)) ok_X10_carried true 1 rfl trivial ?_
    refine aj_ret (r := some (.inl (-2))) (ax_dec2 (i := .ireturn) (n := 1) ok_X10_carried rfl) ⟨?_, ?_, by decide, by decide⟩ rfl
    · first | (exfalso; omega) | exact ⟨ax_si (by unfold fCar; (repeat first | rw [if_pos (by omega)] | rw [if_neg (by omega)] | rw [bI_t (by omega)] | rw [bI_f (by omega)]); try first | rfl | omega | (first | (rw [← hcx]; done) | (rw [← hcx]; omega))), g, rfl, hd, fun _ _ _ _ => rfl⟩
    · exact ax_ro_i
  · replace c1 := bI_n0 c1
    refine aj_run (C := True) (pc' := 9) (la' := [some (.inr (.inr (some (1, 0)))), some (.inl x), some (.inl w)]) (st' := [.inl w]) (M' := (P, g, r0, n)) ok_X10_carried true 1 rfl trivial ?_
    refine aj_callS (av := [.inl w]) (st := []) cal_X10_isEither lk_10_163 stc_X10_isEither (cp_isEither w _ _ _ _) ⟨by decide, by decide, by decide, by decide⟩ (Nat.le_of_ble_eq_true rfl) (ax_dec2 (i := .invokestatic 163) (n := 3) ok_X10_carried rfl) (fun r M' hq => ?_)
    obtain ⟨rfl, rfl⟩ := hq
    change ax_J _ _ _ _ _ _ _ _ _ 12 [some (.inr (.inr (some (1, 0)))), some (.inl x), some (.inl w)] [.inl (bI (0 ≤ w ∧ w ≤ 1))] (P, g, r0, n)
    refine aj_if_ne (tgt := 18) (ax_dec2 (i := .ifCond .ne 6) (n := 3) ok_X10_carried rfl) (by decide) (fun c2 => ?_) (fun c2 => ?_)
    · replace c2 := bI_n0 c2
      refine aj_run (C := True) (pc' := 19) (la' := [some (.inr (.inr (some (1, 0)))), some (.inl x), some (.inl w)]) (st' := [.inr (.inr (some (1, 0)))]) (M' := (P, g, r0, n)) ok_X10_carried true 1 rfl trivial ?_
      refine aj_getR (f := 1) (k := 0) (g := 2) (o := 0) (u := 0) (ax_lk_ok (q := (1, 0)) rfl) rfl rfl hs.2.2.2.1 hs.2.2.2.2 (ax_dec2 (i := .getfield 10) (n := 3) ok_X10_carried rfl) ?_
      refine aj_run (C := True) (pc' := 23) (la' := [some (.inr (.inr (some (1, 0)))), some (.inl x), some (.inl w)]) (st' := [.inr (.inr (some (1, 0))), .inr (.inr (some (2, 0)))]) (M' := (P, g, r0, n)) ok_X10_carried true 1 rfl trivial ?_
      refine aj_getR (f := 1) (k := 0) (g := 2) (o := 0) (u := 0) (ax_lk_ok (q := (1, 0)) rfl) rfl rfl hs.2.2.2.1 hs.2.2.2.2 (ax_dec2 (i := .getfield 10) (n := 3) ok_X10_carried rfl) ?_
      refine aj_callV (av := []) (st := [.inr (.inr (some (2, 0)))]) (f := 2) (o := 0) (ci := 2) cal_X2_wayAsTold lk_10_176 ins_X2_wayAsTold rfl sel_X2_wayAsTold rfl (fun c9 h9 _ => by simpa [ax_ok] using h9) (cp_wayAsTold _ _ _ _ hAs) ⟨by decide, by decide, by decide, by decide⟩ (Nat.le_of_ble_eq_true rfl) (ax_dec2 (i := .invokevirtual 176) (n := 3) ok_X10_carried rfl) (fun r M' hq => ?_)
      obtain ⟨rfl, rfl⟩ := hq
      change ax_J _ _ _ _ _ _ _ _ _ 29 [some (.inr (.inr (some (1, 0)))), some (.inl x), some (.inl w)] [.inl (wSet (fun q => g 500 q 1) (g 2 0 1)), .inr (.inr (some (2, 0)))] (P, g, r0, n)
      rw [gAs_c hPs]
      have hgs := gAs_in hOs
      refine aj_run (C := True) (pc' := 30) (la' := [some (.inr (.inr (some (1, 0)))), some (.inl x), some (.inl w)]) (st' := [.inl 0, .inl (gAs h), .inr (.inr (some (2, 0)))]) (M' := (P, g, r0, n)) ok_X10_carried true 1 rfl trivial ?_
      refine aj_callV (av := [.inl (gAs h), .inl 0]) (st := []) (f := 2) (o := 0) (ci := 2) cal_X2_begin lk_10_197 ins_X2_begin rfl sel_X2_begin rfl (fun c9 h9 _ => by simpa [ax_ok] using h9) (cp_begin (gAs h) 0 _ _ _ _ hAs (by decide)) ⟨by decide, by decide, by decide, by decide⟩ (Nat.le_of_ble_eq_true rfl) (ax_dec2 (i := .invokevirtual 197) (n := 3) ok_X10_carried rfl) (fun r M' hq => ?_)
      obtain ⟨rfl, rfl⟩ := hq
      change ax_J _ _ _ _ _ _ _ _ _ 33 [some (.inr (.inr (some (1, 0)))), some (.inl x), some (.inl w)] [] (P, cBegin g (gAs h) 0, r0, n)
      obtain ⟨hb1, hb2, hb3, hb4, hb5, hb6, hb7⟩ := beg_all hs hm (gAs h) 0
      rw [beg_42] at hb2 hb3 hb4 hb5 hb7
      refine aj_run (C := True) (pc' := 34) (la' := [some (.inr (.inr (some (1, 0)))), some (.inl x), some (.inl w)]) (st' := [.inr (.inr (some (1, 0)))]) (M' := (P, cBegin g (gAs h) 0, r0, n)) ok_X10_carried true 1 rfl trivial ?_
      refine aj_getR (f := 1) (k := 0) (g := 2) (o := 0) (u := 0) (ax_lk_ok (q := (1, 0)) rfl) rfl rfl hs.2.2.2.1 hs.2.2.2.2 (ax_dec2 (i := .getfield 10) (n := 3) ok_X10_carried rfl) ?_
      refine aj_run (C := True) (pc' := 42) (la' := [some (.inr (.inr (some (1, 0)))), some (.inl x), some (.inl w)]) (st' := [.inr (.inr (some (1, 0)))]) (M' := (P, ax_u3 (cBegin g (gAs h) 0) 2 0 5 x, r0, n)) ok_X10_carried true 3 rfl trivial ?_
      refine aj_getR (f := 1) (k := 0) (g := 2) (o := 0) (u := 0) (ax_lk_ok (q := (1, 0)) rfl) rfl rfl hs.2.2.2.1 hs.2.2.2.2 (ax_dec2 (i := .getfield 10) (n := 3) ok_X10_carried rfl) ?_
      refine aj_run (C := True) (pc' := 48) (la' := [some (.inr (.inr (some (1, 0)))), some (.inl x), some (.inl w)]) (st' := [.inl 200, .inr (.inr (some (2, 0)))]) (M' := (P, ax_u3 (cBegin g (gAs h) 0) 2 0 5 x, r0, n)) ok_X10_carried true 1 rfl trivial ?_
      refine aj_callV (av := [.inl 200]) (st := []) (f := 2) (o := 0) (ci := 2) cal_X2_goOn lk_10_201 ins_X2_goOn rfl sel_X2_goOn rfl (fun c9 h9 _ => by simpa [ax_ok] using h9) (cp_goOn 200 0 _ (ax_u3 (cBegin g (gAs h) 0) 2 0 5 x) _ _ hb1 ⟨hs.2.1.1, hs.2.1.2.1⟩ hs.2.1.2.2.1 (ax_u3 (wBegin h (gAs h)) 50 0 41 x) (cPl_s ⟨fun f z1 z2 => funext fun o => funext fun k => ax_u3_f z1, fun o k z => ax_u3_n (by omega)⟩ (cPl_g (fun j z1 z2 => ax_u3_n (by omega)) (fun a j => ax_u3_f (by decide)) hb2)) (oa_u41 hb3 (by rw [beg_sz]; omega)) (by rw [ax_u3_n (by omega)]; exact hb4) (by omega) (by omega) (by omega) (cSm_41 hb5) _ _ ⟨hs.2.2.1.1, cRu_c (fun f j z1 z2 => ax_u3_f (by omega)) hb6⟩ cV_n (fun p nm => by rw [hb7 p nm, ax_u3_n (by omega)]; rfl)) ⟨by decide, by decide, by decide, by decide⟩ (Nat.le_of_ble_eq_true rfl) (ax_dec2 (i := .invokevirtual 201) (n := 3) ok_X10_carried rfl) (fun r M' hq => ?_)
      obtain ⟨rfl, g5, rfl, sm3, fr3⟩ := hq
      have fr5 : cFr TG g5 g := fun f o j q => (fr3 f o j (TGo_TG q)).trans ((ax_u3_n (fun z => q (by unfold TG; omega))).trans (cBg_fr f o j q))
      have hs51 : g5 2 0 1 = g 2 0 1 := fr5 2 0 1 (by unfold TG; omega)
      have hcx : g5 2 0 5 = gCa h x 50 0 41 := sm3.1.2.1.1
      have rs9 : ∀ y, 0 ≤ y → y < h 50 0 2 → g5 5 y 9 = gCa h x 135 0 y := fun y z1 z2 => cSm_9 sm3 z1 (by rw [ax_u3_n (by omega), beg_sz]; exact z2)
      have hci := it_car (g := ax_u3 (wBegin h (gAs h)) 50 0 41 x) (m := h 50 0 2) (by rw [ax_u3_n (by omega), beg_sz]; exact Int.le_refl _) (by rw [ax_u3_s]; omega) 201
      change 0 ≤ gCa h x 50 0 41 ∧ gCa h x 50 0 41 < h 50 0 2 at hci
      have hr9 := rs9 _ hci.1 hci.2
      rw [← hcx] at hr9
      change ax_J _ _ _ _ _ _ _ _ _ 51 [some (.inr (.inr (some (1, 0)))), some (.inl x), some (.inl w)] [] (P, g5, r0, n)
      refine aj_run (C := True) (pc' := 52) (la' := [some (.inr (.inr (some (1, 0)))), some (.inl x), some (.inl w)]) (st' := [.inl w]) (M' := (P, g5, r0, n)) ok_X10_carried true 1 rfl trivial ?_
      refine aj_if_ne (tgt := 65) (ax_dec2 (i := .ifCond .ne 13) (n := 3) ok_X10_carried rfl) (by decide) (fun c3 => ?_) (fun c3 => ?_)
      · refine aj_run (C := True) (pc' := 66) (la' := [some (.inr (.inr (some (1, 0)))), some (.inl x), some (.inl w)]) (st' := [.inr (.inr (some (1, 0)))]) (M' := (P, g5, r0, n)) ok_X10_carried true 1 rfl trivial ?_
        refine aj_getR (f := 1) (k := 0) (g := 2) (o := 0) (u := 0) (ax_lk_ok (q := (1, 0)) rfl) rfl rfl hs.2.2.2.1 hs.2.2.2.2 (ax_dec2 (i := .getfield 10) (n := 3) ok_X10_carried rfl) ?_
        refine aj_run (C := True) (pc' := 73) (la' := [some (.inr (.inr (some (1, 0)))), some (.inl x), some (.inl w)]) (st' := [.inr (.inr (some (1, 0))), .inr (.inr (some (200, 0)))]) (M' := (P, g5, r0, n)) ok_X10_carried true 2 rfl trivial ?_
        refine aj_getR (f := 1) (k := 0) (g := 2) (o := 0) (u := 0) (ax_lk_ok (q := (1, 0)) rfl) rfl rfl hs.2.2.2.1 hs.2.2.2.2 (ax_dec2 (i := .getfield 10) (n := 3) ok_X10_carried rfl) ?_
        refine aj_run (C := True) (pc' := 79) (la' := [some (.inr (.inr (some (1, 0)))), some (.inl x), some (.inl w)]) (st' := [.inl (g5 2 0 5), .inr (.inr (some (200, 0)))]) (M' := (P, g5, r0, n)) ok_X10_carried true 1 rfl trivial ?_
        refine aj_aald (f := 200) (g := 5) (o := 0) (i := g5 2 0 5) (u := g5 2 0 5) (E := "AntsTurn$Ant") rfl rfl rfl ⟨by omega, by have z9 := hAs.1.1; show g5 2 0 5 < n 200 0; omega⟩ (hAs.2 (g5 2 0 5) (by omega) (by omega)).1.1 (hAs.2 (g5 2 0 5) (by omega) (by omega)).1.2 (ax_dec2 (i := .aaload) (n := 1) ok_X10_carried rfl) ?_
        refine aj_run (C := True) (pc' := 83) (la' := [some (.inr (.inr (some (1, 0)))), some (.inl x), some (.inl w)]) (st' := [.inl (g5 5 (g5 2 0 5) 9)]) (M' := (P, g5, r0, n)) ok_X10_carried true 1 rfl trivial ?_
        refine aj_ret (r := some (.inl (g5 5 (g5 2 0 5) 9))) (ax_dec2 (i := .ireturn) (n := 1) ok_X10_carried rfl) ⟨?_, ?_, by decide, by decide⟩ rfl
        · first | (exfalso; omega) | exact ⟨ax_si (by unfold fCar; (repeat first | rw [if_pos (by omega)] | rw [if_neg (by omega)] | rw [bI_t (by omega)] | rw [bI_f (by omega)]); try first | rfl | omega | (first | (rw [← hcx]; done) | (rw [← hcx]; omega))), g5, rfl, ⟨cSm_mz sm3, cCa_g fr5 hca⟩, cFr_TG fr5⟩
        · exact ax_ro_i
      · refine aj_run (C := True) (pc' := 56) (la' := [some (.inr (.inr (some (1, 0)))), some (.inl x), some (.inl w)]) (st' := [.inr (.inr (some (1, 0)))]) (M' := (P, g5, r0, n)) ok_X10_carried true 1 rfl trivial ?_
        refine aj_getR (f := 1) (k := 0) (g := 2) (o := 0) (u := 0) (ax_lk_ok (q := (1, 0)) rfl) rfl rfl hs.2.2.2.1 hs.2.2.2.2 (ax_dec2 (i := .getfield 10) (n := 3) ok_X10_carried rfl) ?_
        refine aj_run (C := True) (pc' := 83) (la' := [some (.inr (.inr (some (1, 0)))), some (.inl x), some (.inl w)]) (st' := [.inl (g5 2 0 5)]) (M' := (P, g5, r0, n)) ok_X10_carried true 2 rfl trivial ?_
        refine aj_ret (r := some (.inl (g5 2 0 5))) (ax_dec2 (i := .ireturn) (n := 1) ok_X10_carried rfl) ⟨?_, ?_, by decide, by decide⟩ rfl
        · first | (exfalso; omega) | exact ⟨ax_si (by unfold fCar; (repeat first | rw [if_pos (by omega)] | rw [if_neg (by omega)] | rw [bI_t (by omega)] | rw [bI_f (by omega)]); try first | rfl | omega | (first | (rw [← hcx]; done) | (rw [← hcx]; omega))), g5, rfl, ⟨cSm_mz sm3, cCa_g fr5 hca⟩, cFr_TG fr5⟩
        · exact ax_ro_i
    · replace c2 := bI_e0 c2
      refine aj_run (C := True) (pc' := 17) (la' := [some (.inr (.inr (some (1, 0)))), some (.inl x), some (.inl w)]) (st' := [.inl (-2)]) (M' := (P, g, r0, n)) ok_X10_carried true 1 rfl trivial ?_
      refine aj_ret (r := some (.inl (-2))) (ax_dec2 (i := .ireturn) (n := 1) ok_X10_carried rfl) ⟨?_, ?_, by decide, by decide⟩ rfl
      · first | (exfalso; omega) | exact ⟨ax_si (by unfold fCar; (repeat first | rw [if_pos (by omega)] | rw [if_neg (by omega)] | rw [bI_t (by omega)] | rw [bI_f (by omega)]); try first | rfl | omega | (first | (rw [← hcx]; done) | (rw [← hcx]; omega))), g, rfl, hd, fun _ _ _ _ => rfl⟩
      · exact ax_ro_i

