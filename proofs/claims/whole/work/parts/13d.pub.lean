/-! ===== what the class answers of a walk ===== -/
theorem bitS : (List.range 7).all (fun i => (List.range 128).all fun x => (decide (ax_and (ax_shr (x : Int) i) 1 = 0) || decide (ax_and (ax_shr (x : Int) i) 1 = 1)) && ((List.range 7).all fun y => decide (ax_and (ax_shr (ax_or (x : Int) (ax_shl 1 y)) i) 1 = if i = y then 1 else ax_and (ax_shr (x : Int) i) 1) && (decide (0 ≤ ax_or (x : Int) (ax_shl 1 y)) && decide (ax_or (x : Int) (ax_shl 1 y) < 128)))) = true := by decide +kernel
theorem bitS1 {i x : Int} (h1 : 0 ≤ i ∧ i < 7) (h2 : 0 ≤ x ∧ x < 128) : ax_and (ax_shr x i) 1 = 0 ∨ ax_and (ax_shr x i) 1 = 1 := by
  have h := bitS
  rw [List.all_eq_true] at h
  have h := h i.toNat (List.mem_range.mpr (by omega))
  rw [List.all_eq_true] at h
  have h := h x.toNat (List.mem_range.mpr (by omega))
  rw [Bool.and_eq_true, Bool.or_eq_true, decide_eq_true_eq, decide_eq_true_eq, show ((x.toNat : Nat) : Int) = x by omega, show ((i.toNat : Nat) : Int) = i by omega] at h
  exact h.1
theorem bitS2 {i x y : Int} (h1 : 0 ≤ i ∧ i < 7) (h2 : 0 ≤ x ∧ x < 128) (h3 : 0 ≤ y ∧ y < 7) : ax_and (ax_shr (ax_or x (ax_shl 1 y)) i) 1 = (if i = y then 1 else ax_and (ax_shr x i) 1) ∧ 0 ≤ ax_or x (ax_shl 1 y) ∧ ax_or x (ax_shl 1 y) < 128 := by
  have h := bitS
  rw [List.all_eq_true] at h
  have h := h i.toNat (List.mem_range.mpr (by omega))
  rw [List.all_eq_true] at h
  have h := h x.toNat (List.mem_range.mpr (by omega))
  rw [Bool.and_eq_true, List.all_eq_true] at h
  have h := h.2 y.toNat (List.mem_range.mpr (by omega))
  rw [Bool.and_eq_true, Bool.and_eq_true, decide_eq_true_eq, decide_eq_true_eq, decide_eq_true_eq, show ((x.toNat : Nat) : Int) = x by omega, show ((i.toNat : Nat) : Int) = i by omega, show ((y.toNat : Nat) : Int) = y by omega] at h
  refine ⟨?_, h.2⟩
  rw [h.1]
  by_cases c : i = y
  · rw [if_pos c, if_pos (by omega)]
  · rw [if_neg c, if_neg (by omega)]
theorem ax_or0 : (List.range 128).all (fun x => decide (ax_or (x : Int) 0 = x)) = true := by decide +kernel
theorem wSet_m {l : Int → Int} : ∀ m : Nat, m ≤ 7 → (∀ a : Int, 0 ≤ a → a < m → l a = 0 ∨ l a = 1) → 0 ≤ wSet l m ∧ wSet l m < 128
  | 0, _, _ => ⟨Int.le_refl _, by show (0 : Int) < 128; decide⟩
  | m + 1, hm, hl => by
    obtain ⟨z1, z2⟩ := wSet_m m (by omega) (fun a h1 h2 => hl a h1 (by omega))
    have e : wSet l ((m + 1 : Nat) : Int) = ax_or (wSet l m) (ax_shl (l m) m) := by
      rw [show ((m + 1 : Nat) : Int) = (m : Int) + 1 by omega]
      exact wFI_s (by omega)
    rw [e]
    rcases hl m (by omega) (by omega) with c | c
    · rw [c, show ax_shl 0 (m : Int) = 0 from by
        have : m = 0 ∨ m = 1 ∨ m = 2 ∨ m = 3 ∨ m = 4 ∨ m = 5 ∨ m = 6 := by omega
        rcases this with rfl | rfl | rfl | rfl | rfl | rfl | rfl <;> decide]
      have h := ax_or0
      rw [List.all_eq_true] at h
      have h := h (wSet l m).toNat (List.mem_range.mpr (by omega))
      rw [decide_eq_true_eq, show (((wSet l m).toNat : Nat) : Int) = wSet l m by omega] at h
      omega
    · rw [c]
      exact (bitS2 (i := 0) (by decide) ⟨z1, z2⟩ ⟨by omega, by omega⟩).2
theorem gAs_in {h : Nat → Int → Int → Int} (hs : wOs h) : 0 ≤ gAs h ∧ gAs h < 128 := by
  have h2 := hs.2.2.1
  have := wSet_m (l := h 105 0) (h 50 0 2).toNat (by omega) (fun (a : Int) z1 z2 => (hs.2.2.2.2.2.2 a z1 (by omega)).2.2.1)
  rw [show (((h 50 0 2).toNat : Nat) : Int) = h 50 0 2 by omega] at this
  exact this
theorem it_42 {h : Nat → Int → Int → Int} : ∀ k, wIt h k 50 0 42 = h 50 0 42
  | 0 => rfl
  | k + 1 => (step_v.2.2).trans (it_42 k)
theorem gT_42 {h : Nat → Int → Int → Int} {b : Int} : gT h b 50 0 42 = 0 := (it_42 _).trans beg_v.2.2.2
theorem gT_200 {h : Nat → Int → Int → Int} : gT h 200 = gA h (gAs h) := rfl
theorem gT_sz {h : Nat → Int → Int → Int} {b : Int} : gT h b 50 0 2 = h 50 0 2 := it_sz.trans beg_sz
theorem gT_od {h : Nat → Int → Int → Int} (hs : wOs h) (b : Int) (hb : 0 ≤ b ∧ b ≤ 1000) : wOd (gT h b) := (it_oa (beg_oa hs) beg_b (b + 1).toNat (by omega)).1.2.1
set_option maxRecDepth 100000 in
set_option maxHeartbeats 4000000 in
theorem cp_isAnt (a : Int) (P : Nat → Int → Prop) (g : Nat → Int → Int → Int) (r0 : Nat → Int → Int → Option (Nat × Int)) (n : Nat → Int → Int) (hb : r0 1 0 0 = some (2, 0) ∧ P 2 0) : ax_S yX10_isAnt cX10_isAnt 2 (some FieldType.boolean) 0 0 0 [.inr (.inr (some (1, 0))), .inl a] (P, g, r0, n) (fun r M' => r = some (.inl (bI (0 ≤ a ∧ a < g 2 0 1))) ∧ M' = (P, g, r0, n)) := by
  refine ax_S_of (own := 10) (by decide) rfl (fun h => absurd h (by decide)) rfl (Nat.le_of_ble_eq_true rfl) ?_
  change ax_J _ _ _ _ _ _ _ _ _ _ [some (.inr (.inr (some (1, 0)))), some (.inl a)] _ _
  refine aj_run (C := True) (pc' := 1) (la' := [some (.inr (.inr (some (1, 0)))), some (.inl a)]) (st' := [.inl a]) (M' := (P, g, r0, n)) ok_X10_isAnt true 1 rfl trivial ?_
  refine aj_if_lt (tgt := 19) (ax_dec2 (i := .ifCond .lt 18) (n := 3) ok_X10_isAnt rfl) (by decide) (fun c1 => ?_) (fun c1 => ?_)
  · refine aj_run (C := True) (pc' := 20) (la' := [some (.inr (.inr (some (1, 0)))), some (.inl a)]) (st' := [.inl 0]) (M' := (P, g, r0, n)) ok_X10_isAnt true 1 rfl trivial ?_
    refine aj_ret (r := some (.inl 0)) (ax_dec2 (i := .ireturn) (n := 1) ok_X10_isAnt rfl) ⟨?_, ?_, by decide, by decide⟩ rfl
    · exact ⟨ax_si (by first | rw [bI_t (by omega)] | rw [bI_f (by omega)]), rfl⟩
    · exact ax_ro_b (by decide)
  · refine aj_run (C := True) (pc' := 6) (la' := [some (.inr (.inr (some (1, 0)))), some (.inl a)]) (st' := [.inr (.inr (some (1, 0))), .inl a]) (M' := (P, g, r0, n)) ok_X10_isAnt true 2 rfl trivial ?_
    refine aj_getR (f := 1) (k := 0) (g := 2) (o := 0) (u := 0) (ax_lk_ok (q := (1, 0)) rfl) rfl rfl hb.1 hb.2 (ax_dec2 (i := .getfield 10) (n := 3) ok_X10_isAnt rfl) ?_
    refine aj_run (C := True) (pc' := 12) (la' := [some (.inr (.inr (some (1, 0)))), some (.inl a)]) (st' := [.inl (g 2 0 1), .inl a]) (M' := (P, g, r0, n)) ok_X10_isAnt true 1 rfl trivial ?_
    refine aj_icmp_ge (tgt := 19) (ax_dec2 (i := .if_icmp .ge 7) (n := 3) ok_X10_isAnt rfl) (by decide) (fun c2 => ?_) (fun c2 => ?_)
    · refine aj_run (C := True) (pc' := 20) (la' := [some (.inr (.inr (some (1, 0)))), some (.inl a)]) (st' := [.inl 0]) (M' := (P, g, r0, n)) ok_X10_isAnt true 1 rfl trivial ?_
      refine aj_ret (r := some (.inl 0)) (ax_dec2 (i := .ireturn) (n := 1) ok_X10_isAnt rfl) ⟨?_, ?_, by decide, by decide⟩ rfl
      · exact ⟨ax_si (by first | rw [bI_t (by omega)] | rw [bI_f (by omega)]), rfl⟩
      · exact ax_ro_b (by decide)
    · refine aj_run (C := True) (pc' := 20) (la' := [some (.inr (.inr (some (1, 0)))), some (.inl a)]) (st' := [.inl 1]) (M' := (P, g, r0, n)) ok_X10_isAnt true 2 rfl trivial ?_
      refine aj_ret (r := some (.inl 1)) (ax_dec2 (i := .ireturn) (n := 1) ok_X10_isAnt rfl) ⟨?_, ?_, by decide, by decide⟩ rfl
      · exact ⟨ax_si (by first | rw [bI_t (by omega)] | rw [bI_f (by omega)]), rfl⟩
      · exact ax_ro_b (by decide)

set_option maxRecDepth 100000 in
set_option maxHeartbeats 4000000 in
theorem cp_isEither (a : Int) (P : Nat → Int → Prop) (g : Nat → Int → Int → Int) (r0 : Nat → Int → Int → Option (Nat × Int)) (n : Nat → Int → Int) : ax_S yX10_isEither cX10_isEither 1 (some FieldType.boolean) 0 0 0 [.inl a] (P, g, r0, n) (fun r M' => r = some (.inl (bI (0 ≤ a ∧ a ≤ 1))) ∧ M' = (P, g, r0, n)) := by
  refine ax_S_of (own := 10) (by decide) rfl (fun h => absurd h (by decide)) rfl (Nat.le_of_ble_eq_true rfl) ?_
  change ax_J _ _ _ _ _ _ _ _ _ _ [some (.inl a)] _ _
  refine aj_run (C := True) (pc' := 1) (la' := [some (.inl a)]) (st' := [.inl a]) (M' := (P, g, r0, n)) ok_X10_isEither true 1 rfl trivial ?_
  refine aj_if_eq (tgt := 9) (ax_dec2 (i := .ifCond .eq 8) (n := 3) ok_X10_isEither rfl) (by decide) (fun c1 => ?_) (fun c1 => ?_)
  · refine aj_run (C := True) (pc' := 14) (la' := [some (.inl a)]) (st' := [.inl 1]) (M' := (P, g, r0, n)) ok_X10_isEither true 2 rfl trivial ?_
    refine aj_ret (r := some (.inl 1)) (ax_dec2 (i := .ireturn) (n := 1) ok_X10_isEither rfl) ⟨?_, ?_, by decide, by decide⟩ rfl
    · exact ⟨ax_si (by first | rw [bI_t (by omega)] | rw [bI_f (by omega)]), rfl⟩
    · exact ax_ro_b (by decide)
  · refine aj_run (C := True) (pc' := 6) (la' := [some (.inl a)]) (st' := [.inl 1, .inl a]) (M' := (P, g, r0, n)) ok_X10_isEither true 2 rfl trivial ?_
    refine aj_icmp_ne (tgt := 13) (ax_dec2 (i := .if_icmp .ne 7) (n := 3) ok_X10_isEither rfl) (by decide) (fun c2 => ?_) (fun c2 => ?_)
    · refine aj_run (C := True) (pc' := 14) (la' := [some (.inl a)]) (st' := [.inl 0]) (M' := (P, g, r0, n)) ok_X10_isEither true 1 rfl trivial ?_
      refine aj_ret (r := some (.inl 0)) (ax_dec2 (i := .ireturn) (n := 1) ok_X10_isEither rfl) ⟨?_, ?_, by decide, by decide⟩ rfl
      · exact ⟨ax_si (by first | rw [bI_t (by omega)] | rw [bI_f (by omega)]), rfl⟩
      · exact ax_ro_b (by decide)
    · refine aj_run (C := True) (pc' := 14) (la' := [some (.inl a)]) (st' := [.inl 1]) (M' := (P, g, r0, n)) ok_X10_isEither true 2 rfl trivial ?_
      refine aj_ret (r := some (.inl 1)) (ax_dec2 (i := .ireturn) (n := 1) ok_X10_isEither rfl) ⟨?_, ?_, by decide, by decide⟩ rfl
      · exact ⟨ax_si (by first | rw [bI_t (by omega)] | rw [bI_f (by omega)]), rfl⟩
      · exact ax_ro_b (by decide)

set_option maxRecDepth 100000 in
set_option maxHeartbeats 4000000 in
theorem cp_isBeat (a : Int) (P : Nat → Int → Prop) (g : Nat → Int → Int → Int) (r0 : Nat → Int → Int → Option (Nat × Int)) (n : Nat → Int → Int) : ax_S yX10_isBeat cX10_isBeat 1 (some FieldType.boolean) 0 0 0 [.inl a] (P, g, r0, n) (fun r M' => r = some (.inl (bI (0 ≤ a ∧ a ≤ 200))) ∧ M' = (P, g, r0, n)) := by
  refine ax_S_of (own := 10) (by decide) rfl (fun h => absurd h (by decide)) rfl (Nat.le_of_ble_eq_true rfl) ?_
  change ax_J _ _ _ _ _ _ _ _ _ _ [some (.inl a)] _ _
  refine aj_run (C := True) (pc' := 1) (la' := [some (.inl a)]) (st' := [.inl a]) (M' := (P, g, r0, n)) ok_X10_isBeat true 1 rfl trivial ?_
  refine aj_if_lt (tgt := 15) (ax_dec2 (i := .ifCond .lt 14) (n := 3) ok_X10_isBeat rfl) (by decide) (fun c1 => ?_) (fun c1 => ?_)
  · refine aj_run (C := True) (pc' := 16) (la' := [some (.inl a)]) (st' := [.inl 0]) (M' := (P, g, r0, n)) ok_X10_isBeat true 1 rfl trivial ?_
    refine aj_ret (r := some (.inl 0)) (ax_dec2 (i := .ireturn) (n := 1) ok_X10_isBeat rfl) ⟨?_, ?_, by decide, by decide⟩ rfl
    · exact ⟨ax_si (by first | rw [bI_t (by omega)] | rw [bI_f (by omega)]), rfl⟩
    · exact ax_ro_b (by decide)
  · refine aj_run (C := True) (pc' := 8) (la' := [some (.inl a)]) (st' := [.inl 200, .inl a]) (M' := (P, g, r0, n)) ok_X10_isBeat true 2 rfl trivial ?_
    refine aj_icmp_gt (tgt := 15) (ax_dec2 (i := .if_icmp .gt 7) (n := 3) ok_X10_isBeat rfl) (by decide) (fun c2 => ?_) (fun c2 => ?_)
    · refine aj_run (C := True) (pc' := 16) (la' := [some (.inl a)]) (st' := [.inl 0]) (M' := (P, g, r0, n)) ok_X10_isBeat true 1 rfl trivial ?_
      refine aj_ret (r := some (.inl 0)) (ax_dec2 (i := .ireturn) (n := 1) ok_X10_isBeat rfl) ⟨?_, ?_, by decide, by decide⟩ rfl
      · exact ⟨ax_si (by first | rw [bI_t (by omega)] | rw [bI_f (by omega)]), rfl⟩
      · exact ax_ro_b (by decide)
    · refine aj_run (C := True) (pc' := 16) (la' := [some (.inl a)]) (st' := [.inl 1]) (M' := (P, g, r0, n)) ok_X10_isBeat true 2 rfl trivial ?_
      refine aj_ret (r := some (.inl 1)) (ax_dec2 (i := .ireturn) (n := 1) ok_X10_isBeat rfl) ⟨?_, ?_, by decide, by decide⟩ rfl
      · exact ⟨ax_si (by first | rw [bI_t (by omega)] | rw [bI_f (by omega)]), rfl⟩
      · exact ax_ro_b (by decide)

set_option maxRecDepth 100000 in
set_option maxHeartbeats 4000000 in
theorem cp_isSheet (a : Int) (P : Nat → Int → Prop) (g : Nat → Int → Int → Int) (r0 : Nat → Int → Int → Option (Nat × Int)) (n : Nat → Int → Int) : ax_S yX10_isSheet cX10_isSheet 1 (some FieldType.boolean) 0 0 0 [.inl a] (P, g, r0, n) (fun r M' => r = some (.inl (bI (0 ≤ a ∧ a ≤ 3))) ∧ M' = (P, g, r0, n)) := by
  refine ax_S_of (own := 10) (by decide) rfl (fun h => absurd h (by decide)) rfl (Nat.le_of_ble_eq_true rfl) ?_
  change ax_J _ _ _ _ _ _ _ _ _ _ [some (.inl a)] _ _
  refine aj_run (C := True) (pc' := 1) (la' := [some (.inl a)]) (st' := [.inl a]) (M' := (P, g, r0, n)) ok_X10_isSheet true 1 rfl trivial ?_
  refine aj_if_lt (tgt := 13) (ax_dec2 (i := .ifCond .lt 12) (n := 3) ok_X10_isSheet rfl) (by decide) (fun c1 => ?_) (fun c1 => ?_)
  · refine aj_run (C := True) (pc' := 14) (la' := [some (.inl a)]) (st' := [.inl 0]) (M' := (P, g, r0, n)) ok_X10_isSheet true 1 rfl trivial ?_
    refine aj_ret (r := some (.inl 0)) (ax_dec2 (i := .ireturn) (n := 1) ok_X10_isSheet rfl) ⟨?_, ?_, by decide, by decide⟩ rfl
    · exact ⟨ax_si (by first | rw [bI_t (by omega)] | rw [bI_f (by omega)]), rfl⟩
    · exact ax_ro_b (by decide)
  · refine aj_run (C := True) (pc' := 6) (la' := [some (.inl a)]) (st' := [.inl 4, .inl a]) (M' := (P, g, r0, n)) ok_X10_isSheet true 2 rfl trivial ?_
    refine aj_icmp_ge (tgt := 13) (ax_dec2 (i := .if_icmp .ge 7) (n := 3) ok_X10_isSheet rfl) (by decide) (fun c2 => ?_) (fun c2 => ?_)
    · refine aj_run (C := True) (pc' := 14) (la' := [some (.inl a)]) (st' := [.inl 0]) (M' := (P, g, r0, n)) ok_X10_isSheet true 1 rfl trivial ?_
      refine aj_ret (r := some (.inl 0)) (ax_dec2 (i := .ireturn) (n := 1) ok_X10_isSheet rfl) ⟨?_, ?_, by decide, by decide⟩ rfl
      · exact ⟨ax_si (by first | rw [bI_t (by omega)] | rw [bI_f (by omega)]), rfl⟩
      · exact ax_ro_b (by decide)
    · refine aj_run (C := True) (pc' := 14) (la' := [some (.inl a)]) (st' := [.inl 1]) (M' := (P, g, r0, n)) ok_X10_isSheet true 2 rfl trivial ?_
      refine aj_ret (r := some (.inl 1)) (ax_dec2 (i := .ireturn) (n := 1) ok_X10_isSheet rfl) ⟨?_, ?_, by decide, by decide⟩ rfl
      · exact ⟨ax_si (by first | rw [bI_t (by omega)] | rw [bI_f (by omega)]), rfl⟩
      · exact ax_ro_b (by decide)

set_option maxRecDepth 100000 in
set_option maxHeartbeats 4000000 in
theorem cp_isSort (a : Int) (P : Nat → Int → Prop) (g : Nat → Int → Int → Int) (r0 : Nat → Int → Int → Option (Nat × Int)) (n : Nat → Int → Int) : ax_S yX10_isSort cX10_isSort 1 (some FieldType.boolean) 0 0 0 [.inl a] (P, g, r0, n) (fun r M' => r = some (.inl (bI (0 ≤ a ∧ a ≤ 2))) ∧ M' = (P, g, r0, n)) := by
  refine ax_S_of (own := 10) (by decide) rfl (fun h => absurd h (by decide)) rfl (Nat.le_of_ble_eq_true rfl) ?_
  change ax_J _ _ _ _ _ _ _ _ _ _ [some (.inl a)] _ _
  refine aj_run (C := True) (pc' := 1) (la' := [some (.inl a)]) (st' := [.inl a]) (M' := (P, g, r0, n)) ok_X10_isSort true 1 rfl trivial ?_
  refine aj_if_lt (tgt := 13) (ax_dec2 (i := .ifCond .lt 12) (n := 3) ok_X10_isSort rfl) (by decide) (fun c1 => ?_) (fun c1 => ?_)
  · refine aj_run (C := True) (pc' := 14) (la' := [some (.inl a)]) (st' := [.inl 0]) (M' := (P, g, r0, n)) ok_X10_isSort true 1 rfl trivial ?_
    refine aj_ret (r := some (.inl 0)) (ax_dec2 (i := .ireturn) (n := 1) ok_X10_isSort rfl) ⟨?_, ?_, by decide, by decide⟩ rfl
    · exact ⟨ax_si (by first | rw [bI_t (by omega)] | rw [bI_f (by omega)]), rfl⟩
    · exact ax_ro_b (by decide)
  · refine aj_run (C := True) (pc' := 6) (la' := [some (.inl a)]) (st' := [.inl 3, .inl a]) (M' := (P, g, r0, n)) ok_X10_isSort true 2 rfl trivial ?_
    refine aj_icmp_ge (tgt := 13) (ax_dec2 (i := .if_icmp .ge 7) (n := 3) ok_X10_isSort rfl) (by decide) (fun c2 => ?_) (fun c2 => ?_)
    · refine aj_run (C := True) (pc' := 14) (la' := [some (.inl a)]) (st' := [.inl 0]) (M' := (P, g, r0, n)) ok_X10_isSort true 1 rfl trivial ?_
      refine aj_ret (r := some (.inl 0)) (ax_dec2 (i := .ireturn) (n := 1) ok_X10_isSort rfl) ⟨?_, ?_, by decide, by decide⟩ rfl
      · exact ⟨ax_si (by first | rw [bI_t (by omega)] | rw [bI_f (by omega)]), rfl⟩
      · exact ax_ro_b (by decide)
    · refine aj_run (C := True) (pc' := 14) (la' := [some (.inl a)]) (st' := [.inl 1]) (M' := (P, g, r0, n)) ok_X10_isSort true 2 rfl trivial ?_
      refine aj_ret (r := some (.inl 1)) (ax_dec2 (i := .ireturn) (n := 1) ok_X10_isSort rfl) ⟨?_, ?_, by decide, by decide⟩ rfl
      · exact ⟨ax_si (by first | rw [bI_t (by omega)] | rw [bI_f (by omega)]), rfl⟩
      · exact ax_ro_b (by decide)

set_option maxRecDepth 100000 in
set_option maxHeartbeats 4000000 in
theorem cp_of (a w : Int) (P : Nat → Int → Prop) (g : Nat → Int → Int → Int) (r0 : Nat → Int → Int → Option (Nat × Int)) (n : Nat → Int → Int) (h : Nat → Int → Int → Int) (hs : cSta P r0 n g h) (hd : cDy g h) : ax_S yX10_of cX10_of 4 (some FieldType.int) 13 0 0 [.inr (.inr (some (1, 0))), .inl a, .inl w] (P, g, r0, n) (fun r M' => r = some (.inl (fOf h a w)) ∧ ∃ g', M' = (P, g', r0, n) ∧ cDy g' h ∧ cFr TW g' g) := by
  have hAs := hs.1.1
  have hPs := hs.1.2.1
  have hOs := hs.1.2.2
  have hP1 := hPs.1
  have hA1 := hAs.1
  have hsz := hOs.2.2.1
  have hm := hd.1
  have hca := hd.2
  have hxz := hPs.1.1
  refine ax_S_of (own := 10) (by decide) rfl (fun h => absurd h (by decide)) rfl (Nat.le_of_ble_eq_true rfl) ?_
  change ax_J _ _ _ _ _ _ _ _ _ _ [some (.inr (.inr (some (1, 0)))), some (.inl a), some (.inl w), none] _ _
  refine aj_run (C := True) (pc' := 2) (la' := [some (.inr (.inr (some (1, 0)))), some (.inl a), some (.inl w), none]) (st' := [.inl a, .inr (.inr (some (1, 0)))]) (M' := (P, g, r0, n)) ok_X10_of true 2 rfl trivial ?_
  refine aj_callV (av := [.inl a]) (st := []) (f := 1) (o := 0) (ci := 10) cal_X10_isAnt lk_10_122 ins_X10_isAnt rfl sel_X10_isAnt rfl (fun c9 h9 _ => by simpa [ax_ok] using h9) (cp_isAnt a _ _ _ _ hs.2.2.2) ⟨by decide, by decide, by decide, by decide⟩ (Nat.le_of_ble_eq_true rfl) (ax_dec2 (i := .invokevirtual 122) (n := 3) ok_X10_of rfl) (fun r M' hq => ?_)
  obtain ⟨rfl, rfl⟩ := hq
  change ax_J _ _ _ _ _ _ _ _ _ 5 [some (.inr (.inr (some (1, 0)))), some (.inl a), some (.inl w), none] [.inl (bI (0 ≤ a ∧ a < g 2 0 1))] (P, g, r0, n)
  refine aj_if_eq (tgt := 17) (ax_dec2 (i := .ifCond .eq 12) (n := 3) ok_X10_of rfl) (by decide) (fun c1 => ?_) (fun c1 => ?_)
  · replace c1 := bI_e0 c1
    refine aj_run (C := True) (pc' := 19) (la' := [some (.inr (.inr (some (1, 0)))), some (.inl a), some (.inl w), none]) (st' := [.inl (-100000)]) (M' := (P, g, r0, n)) ok_X10_of true 1 rfl trivial ?_
    refine aj_ret (r := some (.inl (-100000))) (ax_dec2 (i := .ireturn) (n := 1) ok_X10_of rfl) ⟨?_, ?_, by decide, by decide⟩ rfl
    · first | (exfalso; omega) | exact ⟨ax_si (by unfold fOf; (repeat first | rw [if_pos (by omega)] | rw [if_neg (by omega)] | rw [bI_t (by omega)] | rw [bI_f (by omega)]); try first | rfl | omega), g, rfl, hd, fun _ _ _ _ => rfl⟩
    · exact ax_ro_i
  · replace c1 := bI_n0 c1
    refine aj_run (C := True) (pc' := 9) (la' := [some (.inr (.inr (some (1, 0)))), some (.inl a), some (.inl w), none]) (st' := [.inl w]) (M' := (P, g, r0, n)) ok_X10_of true 1 rfl trivial ?_
    refine aj_if_lt (tgt := 17) (ax_dec2 (i := .ifCond .lt 8) (n := 3) ok_X10_of rfl) (by decide) (fun c2 => ?_) (fun c2 => ?_)
    · refine aj_run (C := True) (pc' := 19) (la' := [some (.inr (.inr (some (1, 0)))), some (.inl a), some (.inl w), none]) (st' := [.inl (-100000)]) (M' := (P, g, r0, n)) ok_X10_of true 1 rfl trivial ?_
      refine aj_ret (r := some (.inl (-100000))) (ax_dec2 (i := .ireturn) (n := 1) ok_X10_of rfl) ⟨?_, ?_, by decide, by decide⟩ rfl
      · first | (exfalso; omega) | exact ⟨ax_si (by unfold fOf; (repeat first | rw [if_pos (by omega)] | rw [if_neg (by omega)] | rw [bI_t (by omega)] | rw [bI_f (by omega)]); try first | rfl | omega), g, rfl, hd, fun _ _ _ _ => rfl⟩
      · exact ax_ro_i
    · refine aj_run (C := True) (pc' := 14) (la' := [some (.inr (.inr (some (1, 0)))), some (.inl a), some (.inl w), none]) (st' := [.inl 4, .inl w]) (M' := (P, g, r0, n)) ok_X10_of true 2 rfl trivial ?_
      refine aj_icmp_le (tgt := 20) (ax_dec2 (i := .if_icmp .le 6) (n := 3) ok_X10_of rfl) (by decide) (fun c3 => ?_) (fun c3 => ?_)
      · refine aj_run (C := True) (pc' := 24) (la' := [some (.inr (.inr (some (1, 0)))), some (.inl a), some (.inl w), none]) (st' := [.inl 200, .inr (.inr (some (1, 0)))]) (M' := (P, g, r0, n)) ok_X10_of true 2 rfl trivial ?_
        refine aj_callV (av := [.inl 200]) (st := []) (f := 1) (o := 0) (ci := 10) cal_X10_goTo lk_10_142 ins_X10_goTo rfl sel_X10_goTo rfl (fun c9 h9 _ => by simpa [ax_ok] using h9) (cp_goTo 200 _ _ _ _ h hs hm (by omega)) ⟨by decide, by decide, by decide, by decide⟩ (Nat.le_of_ble_eq_true rfl) (ax_dec2 (i := .invokevirtual 142) (n := 3) ok_X10_of rfl) (fun r M' hq => ?_)
        obtain ⟨rfl, g3, rfl, sm3, fr3⟩ := hq
        have hd3 : cDy g3 h := ⟨cSm_mz sm3, cCa_g fr3 hca⟩
        have tw3 := cFr_TG fr3
        have hD3 : ∀ a, 0 ≤ a → a < h 50 0 2 → cD1 g3 (gT h 200) a := fun a z1 z2 => sm3.1.1 a z1 (by rw [it_sz, beg_sz]; exact z2)
        have hs31 : g3 2 0 1 = g 2 0 1 := fr3 2 0 1 (by unfold TG; omega)
        change ax_J _ _ _ _ _ _ _ _ _ 27 [some (.inr (.inr (some (1, 0)))), some (.inl a), some (.inl w), none] [] (P, g3, r0, n)
        refine aj_run (C := True) (pc' := 28) (la' := [some (.inr (.inr (some (1, 0)))), some (.inl a), some (.inl w), none]) (st' := [.inr (.inr (some (1, 0)))]) (M' := (P, g3, r0, n)) ok_X10_of true 1 rfl trivial ?_
        refine aj_getR (f := 1) (k := 0) (g := 2) (o := 0) (u := 0) (ax_lk_ok (q := (1, 0)) rfl) rfl rfl hs.2.2.2.1 hs.2.2.2.2 (ax_dec2 (i := .getfield 10) (n := 3) ok_X10_of rfl) ?_
        refine aj_run (C := True) (pc' := 35) (la' := [some (.inr (.inr (some (1, 0)))), some (.inl a), some (.inl w), none]) (st' := [.inl a, .inr (.inr (some (200, 0)))]) (M' := (P, g3, r0, n)) ok_X10_of true 2 rfl trivial ?_
        refine aj_aald (f := 200) (g := 5) (o := 0) (i := a) (u := a) (E := "AntsTurn$Ant") rfl rfl rfl ⟨by omega, by have z9 := hAs.1.1; show a < n 200 0; omega⟩ (hAs.2 a (by omega) (by omega)).1.1 (hAs.2 a (by omega) (by omega)).1.2 (ax_dec2 (i := .aaload) (n := 1) ok_X10_of rfl) ?_
        refine aj_run (C := True) (pc' := 37) (la' := [some (.inr (.inr (some (1, 0)))), some (.inl a), some (.inl w), some (.inr (.inr (some (5, a))))]) (st' := []) (M' := (P, g3, r0, n)) ok_X10_of true 1 rfl trivial ?_
        obtain ⟨d2, d3, d33, d4, d5, d6, d7, d8, d9, d10⟩ := hD3 a (by omega) (by omega)
        rw [gT_200] at d5 d6 d9 d10
        replace d8 := d8 gT_42
        rw [gT_200] at d8
        refine aj_run (C := True) (pc' := 38) (la' := [some (.inr (.inr (some (1, 0)))), some (.inl a), some (.inl w), some (.inr (.inr (some (5, a))))]) (st' := [.inl w]) (M' := (P, g3, r0, n)) ok_X10_of true 1 rfl trivial ?_
        by_cases s4 : w = 0
        · refine aj_tsw (tgt := 68) (ax_dec2 (i := .tableswitch 50 0 3 #[30, 35, 40, 45]) (n := 30) ok_X10_of rfl) (by decide) (by rw [s4]; decide) ?_
          refine aj_run (C := True) (pc' := 72) (la' := [some (.inr (.inr (some (1, 0)))), some (.inl a), some (.inl w), some (.inr (.inr (some (5, a))))]) (st' := [.inl (g3 5 a 9)]) (M' := (P, g3, r0, n)) ok_X10_of true 2 rfl trivial ?_
          refine aj_ret (r := some (.inl (g3 5 a 9))) (ax_dec2 (i := .ireturn) (n := 1) ok_X10_of rfl) ⟨?_, ?_, by decide, by decide⟩ rfl
          · first | (exfalso; omega) | exact ⟨ax_si (by unfold fOf; (repeat first | rw [if_pos (by omega)] | rw [if_neg (by omega)] | rw [bI_t (by omega)] | rw [bI_f (by omega)]); try first | rfl | omega), g3, rfl, hd3, tw3⟩
          · exact ax_ro_i
        by_cases s5 : w = 1
        · refine aj_tsw (tgt := 73) (ax_dec2 (i := .tableswitch 50 0 3 #[30, 35, 40, 45]) (n := 30) ok_X10_of rfl) (by decide) (by rw [s5]; decide) ?_
          refine aj_run (C := True) (pc' := 77) (la' := [some (.inr (.inr (some (1, 0)))), some (.inl a), some (.inl w), some (.inr (.inr (some (5, a))))]) (st' := [.inl (g3 5 a 10)]) (M' := (P, g3, r0, n)) ok_X10_of true 2 rfl trivial ?_
          refine aj_ret (r := some (.inl (g3 5 a 10))) (ax_dec2 (i := .ireturn) (n := 1) ok_X10_of rfl) ⟨?_, ?_, by decide, by decide⟩ rfl
          · first | (exfalso; omega) | exact ⟨ax_si (by unfold fOf; (repeat first | rw [if_pos (by omega)] | rw [if_neg (by omega)] | rw [bI_t (by omega)] | rw [bI_f (by omega)]); try first | rfl | omega), g3, rfl, hd3, tw3⟩
          · exact ax_ro_i
        by_cases s6 : w = 2
        · refine aj_tsw (tgt := 78) (ax_dec2 (i := .tableswitch 50 0 3 #[30, 35, 40, 45]) (n := 30) ok_X10_of rfl) (by decide) (by rw [s6]; decide) ?_
          refine aj_run (C := True) (pc' := 82) (la' := [some (.inr (.inr (some (1, 0)))), some (.inl a), some (.inl w), some (.inr (.inr (some (5, a))))]) (st' := [.inl (g3 5 a 5)]) (M' := (P, g3, r0, n)) ok_X10_of true 2 rfl trivial ?_
          refine aj_ret (r := some (.inl (g3 5 a 5))) (ax_dec2 (i := .ireturn) (n := 1) ok_X10_of rfl) ⟨?_, ?_, by decide, by decide⟩ rfl
          · first | (exfalso; omega) | exact ⟨ax_si (by unfold fOf; (repeat first | rw [if_pos (by omega)] | rw [if_neg (by omega)] | rw [bI_t (by omega)] | rw [bI_f (by omega)]); try first | rfl | omega), g3, rfl, hd3, tw3⟩
          · exact ax_ro_i
        by_cases s7 : w = 3
        · refine aj_tsw (tgt := 83) (ax_dec2 (i := .tableswitch 50 0 3 #[30, 35, 40, 45]) (n := 30) ok_X10_of rfl) (by decide) (by rw [s7]; decide) ?_
          refine aj_run (C := True) (pc' := 87) (la' := [some (.inr (.inr (some (1, 0)))), some (.inl a), some (.inl w), some (.inr (.inr (some (5, a))))]) (st' := [.inl (g3 5 a 6)]) (M' := (P, g3, r0, n)) ok_X10_of true 2 rfl trivial ?_
          refine aj_ret (r := some (.inl (g3 5 a 6))) (ax_dec2 (i := .ireturn) (n := 1) ok_X10_of rfl) ⟨?_, ?_, by decide, by decide⟩ rfl
          · first | (exfalso; omega) | exact ⟨ax_si (by unfold fOf; (repeat first | rw [if_pos (by omega)] | rw [if_neg (by omega)] | rw [bI_t (by omega)] | rw [bI_f (by omega)]); try first | rfl | omega), g3, rfl, hd3, tw3⟩
          · exact ax_ro_i
        refine aj_tsw (tgt := 88) (ax_dec2 (i := .tableswitch 50 0 3 #[30, 35, 40, 45]) (n := 30) ok_X10_of rfl) (by decide) (by rw [ax_tsw_d w (by decide) (by decide) (by omega)]; decide) ?_
        refine aj_run (C := True) (pc' := 92) (la' := [some (.inr (.inr (some (1, 0)))), some (.inl a), some (.inl w), some (.inr (.inr (some (5, a))))]) (st' := [.inl (g3 5 a 8)]) (M' := (P, g3, r0, n)) ok_X10_of true 2 rfl trivial ?_
        refine aj_ret (r := some (.inl (g3 5 a 8))) (ax_dec2 (i := .ireturn) (n := 1) ok_X10_of rfl) ⟨?_, ?_, by decide, by decide⟩ rfl
        · first | (exfalso; omega) | exact ⟨ax_si (by unfold fOf; (repeat first | rw [if_pos (by omega)] | rw [if_neg (by omega)] | rw [bI_t (by omega)] | rw [bI_f (by omega)]); try first | rfl | omega), g3, rfl, hd3, tw3⟩
        · exact ax_ro_i
      · refine aj_run (C := True) (pc' := 19) (la' := [some (.inr (.inr (some (1, 0)))), some (.inl a), some (.inl w), none]) (st' := [.inl (-100000)]) (M' := (P, g, r0, n)) ok_X10_of true 1 rfl trivial ?_
        refine aj_ret (r := some (.inl (-100000))) (ax_dec2 (i := .ireturn) (n := 1) ok_X10_of rfl) ⟨?_, ?_, by decide, by decide⟩ rfl
        · first | (exfalso; omega) | exact ⟨ax_si (by unfold fOf; (repeat first | rw [if_pos (by omega)] | rw [if_neg (by omega)] | rw [bI_t (by omega)] | rw [bI_f (by omega)]); try first | rfl | omega), g, rfl, hd, fun _ _ _ _ => rfl⟩
        · exact ax_ro_i

set_option maxRecDepth 100000 in
set_option maxHeartbeats 4000000 in
theorem cp_at (a b w : Int) (P : Nat → Int → Prop) (g : Nat → Int → Int → Int) (r0 : Nat → Int → Int → Option (Nat × Int)) (n : Nat → Int → Int) (h : Nat → Int → Int → Int) (hs : cSta P r0 n g h) (hd : cDy g h) : ax_S yX10_at cX10_at 5 (some FieldType.int) 13 0 0 [.inr (.inr (some (1, 0))), .inl a, .inl b, .inl w] (P, g, r0, n) (fun r M' => r = some (.inl (fAt h a b w)) ∧ ∃ g', M' = (P, g', r0, n) ∧ cDy g' h ∧ cFr TW g' g) := by
  have hAs := hs.1.1
  have hPs := hs.1.2.1
  have hOs := hs.1.2.2
  have hP1 := hPs.1
  have hA1 := hAs.1
  have hsz := hOs.2.2.1
  have hm := hd.1
  have hca := hd.2
  have hxz := hPs.1.1
  refine ax_S_of (own := 10) (by decide) rfl (fun h => absurd h (by decide)) rfl (Nat.le_of_ble_eq_true rfl) ?_
  change ax_J _ _ _ _ _ _ _ _ _ _ [some (.inr (.inr (some (1, 0)))), some (.inl a), some (.inl b), some (.inl w), none] _ _
  refine aj_run (C := True) (pc' := 2) (la' := [some (.inr (.inr (some (1, 0)))), some (.inl a), some (.inl b), some (.inl w), none]) (st' := [.inl a, .inr (.inr (some (1, 0)))]) (M' := (P, g, r0, n)) ok_X10_at true 2 rfl trivial ?_
  refine aj_callV (av := [.inl a]) (st := []) (f := 1) (o := 0) (ci := 10) cal_X10_isAnt lk_10_122 ins_X10_isAnt rfl sel_X10_isAnt rfl (fun c9 h9 _ => by simpa [ax_ok] using h9) (cp_isAnt a _ _ _ _ hs.2.2.2) ⟨by decide, by decide, by decide, by decide⟩ (Nat.le_of_ble_eq_true rfl) (ax_dec2 (i := .invokevirtual 122) (n := 3) ok_X10_at rfl) (fun r M' hq => ?_)
  obtain ⟨rfl, rfl⟩ := hq
  change ax_J _ _ _ _ _ _ _ _ _ 5 [some (.inr (.inr (some (1, 0)))), some (.inl a), some (.inl b), some (.inl w), none] [.inl (bI (0 ≤ a ∧ a < g 2 0 1))] (P, g, r0, n)
  refine aj_if_eq (tgt := 22) (ax_dec2 (i := .ifCond .eq 17) (n := 3) ok_X10_at rfl) (by decide) (fun c1 => ?_) (fun c1 => ?_)
  · replace c1 := bI_e0 c1
    refine aj_run (C := True) (pc' := 24) (la' := [some (.inr (.inr (some (1, 0)))), some (.inl a), some (.inl b), some (.inl w), none]) (st' := [.inl (-2)]) (M' := (P, g, r0, n)) ok_X10_at true 1 rfl trivial ?_
    refine aj_ret (r := some (.inl (-2))) (ax_dec2 (i := .ireturn) (n := 1) ok_X10_at rfl) ⟨?_, ?_, by decide, by decide⟩ rfl
    · first | (exfalso; omega) | exact ⟨ax_si (by unfold fAt; (repeat first | rw [if_pos (by omega)] | rw [if_neg (by omega)] | rw [bI_t (by omega)] | rw [bI_f (by omega)]); try first | rfl | omega), g, rfl, hd, fun _ _ _ _ => rfl⟩
    · exact ax_ro_i
  · replace c1 := bI_n0 c1
    refine aj_run (C := True) (pc' := 9) (la' := [some (.inr (.inr (some (1, 0)))), some (.inl a), some (.inl b), some (.inl w), none]) (st' := [.inl b]) (M' := (P, g, r0, n)) ok_X10_at true 1 rfl trivial ?_
    refine aj_callS (av := [.inl b]) (st := []) cal_X10_isBeat lk_10_160 stc_X10_isBeat (cp_isBeat b _ _ _ _) ⟨by decide, by decide, by decide, by decide⟩ (Nat.le_of_ble_eq_true rfl) (ax_dec2 (i := .invokestatic 160) (n := 3) ok_X10_at rfl) (fun r M' hq => ?_)
    obtain ⟨rfl, rfl⟩ := hq
    change ax_J _ _ _ _ _ _ _ _ _ 12 [some (.inr (.inr (some (1, 0)))), some (.inl a), some (.inl b), some (.inl w), none] [.inl (bI (0 ≤ b ∧ b ≤ 200))] (P, g, r0, n)
    refine aj_if_eq (tgt := 22) (ax_dec2 (i := .ifCond .eq 10) (n := 3) ok_X10_at rfl) (by decide) (fun c2 => ?_) (fun c2 => ?_)
    · replace c2 := bI_e0 c2
      refine aj_run (C := True) (pc' := 24) (la' := [some (.inr (.inr (some (1, 0)))), some (.inl a), some (.inl b), some (.inl w), none]) (st' := [.inl (-2)]) (M' := (P, g, r0, n)) ok_X10_at true 1 rfl trivial ?_
      refine aj_ret (r := some (.inl (-2))) (ax_dec2 (i := .ireturn) (n := 1) ok_X10_at rfl) ⟨?_, ?_, by decide, by decide⟩ rfl
      · first | (exfalso; omega) | exact ⟨ax_si (by unfold fAt; (repeat first | rw [if_pos (by omega)] | rw [if_neg (by omega)] | rw [bI_t (by omega)] | rw [bI_f (by omega)]); try first | rfl | omega), g, rfl, hd, fun _ _ _ _ => rfl⟩
      · exact ax_ro_i
    · replace c2 := bI_n0 c2
      refine aj_run (C := True) (pc' := 16) (la' := [some (.inr (.inr (some (1, 0)))), some (.inl a), some (.inl b), some (.inl w), none]) (st' := [.inl w]) (M' := (P, g, r0, n)) ok_X10_at true 1 rfl trivial ?_
      refine aj_callS (av := [.inl w]) (st := []) cal_X10_isEither lk_10_163 stc_X10_isEither (cp_isEither w _ _ _ _) ⟨by decide, by decide, by decide, by decide⟩ (Nat.le_of_ble_eq_true rfl) (ax_dec2 (i := .invokestatic 163) (n := 3) ok_X10_at rfl) (fun r M' hq => ?_)
      obtain ⟨rfl, rfl⟩ := hq
      change ax_J _ _ _ _ _ _ _ _ _ 19 [some (.inr (.inr (some (1, 0)))), some (.inl a), some (.inl b), some (.inl w), none] [.inl (bI (0 ≤ w ∧ w ≤ 1))] (P, g, r0, n)
      refine aj_if_ne (tgt := 25) (ax_dec2 (i := .ifCond .ne 6) (n := 3) ok_X10_at rfl) (by decide) (fun c3 => ?_) (fun c3 => ?_)
      · replace c3 := bI_n0 c3
        refine aj_run (C := True) (pc' := 27) (la' := [some (.inr (.inr (some (1, 0)))), some (.inl a), some (.inl b), some (.inl w), none]) (st' := [.inl b, .inr (.inr (some (1, 0)))]) (M' := (P, g, r0, n)) ok_X10_at true 2 rfl trivial ?_
        refine aj_callV (av := [.inl b]) (st := []) (f := 1) (o := 0) (ci := 10) cal_X10_goTo lk_10_142 ins_X10_goTo rfl sel_X10_goTo rfl (fun c9 h9 _ => by simpa [ax_ok] using h9) (cp_goTo b _ _ _ _ h hs hm (by omega)) ⟨by decide, by decide, by decide, by decide⟩ (Nat.le_of_ble_eq_true rfl) (ax_dec2 (i := .invokevirtual 142) (n := 3) ok_X10_at rfl) (fun r M' hq => ?_)
        obtain ⟨rfl, g3, rfl, sm3, fr3⟩ := hq
        have hd3 : cDy g3 h := ⟨cSm_mz sm3, cCa_g fr3 hca⟩
        have tw3 := cFr_TG fr3
        have hD3 : ∀ a, 0 ≤ a → a < h 50 0 2 → cD1 g3 (gT h b) a := fun a z1 z2 => sm3.1.1 a z1 (by rw [it_sz, beg_sz]; exact z2)
        have hs31 : g3 2 0 1 = g 2 0 1 := fr3 2 0 1 (by unfold TG; omega)
        change ax_J _ _ _ _ _ _ _ _ _ 30 [some (.inr (.inr (some (1, 0)))), some (.inl a), some (.inl b), some (.inl w), none] [] (P, g3, r0, n)
        refine aj_run (C := True) (pc' := 31) (la' := [some (.inr (.inr (some (1, 0)))), some (.inl a), some (.inl b), some (.inl w), none]) (st' := [.inr (.inr (some (1, 0)))]) (M' := (P, g3, r0, n)) ok_X10_at true 1 rfl trivial ?_
        refine aj_getR (f := 1) (k := 0) (g := 2) (o := 0) (u := 0) (ax_lk_ok (q := (1, 0)) rfl) rfl rfl hs.2.2.2.1 hs.2.2.2.2 (ax_dec2 (i := .getfield 10) (n := 3) ok_X10_at rfl) ?_
        refine aj_run (C := True) (pc' := 38) (la' := [some (.inr (.inr (some (1, 0)))), some (.inl a), some (.inl b), some (.inl w), none]) (st' := [.inl a, .inr (.inr (some (200, 0)))]) (M' := (P, g3, r0, n)) ok_X10_at true 2 rfl trivial ?_
        refine aj_aald (f := 200) (g := 5) (o := 0) (i := a) (u := a) (E := "AntsTurn$Ant") rfl rfl rfl ⟨by omega, by have z9 := hAs.1.1; show a < n 200 0; omega⟩ (hAs.2 a (by omega) (by omega)).1.1 (hAs.2 a (by omega) (by omega)).1.2 (ax_dec2 (i := .aaload) (n := 1) ok_X10_at rfl) ?_
        refine aj_run (C := True) (pc' := 41) (la' := [some (.inr (.inr (some (1, 0)))), some (.inl a), some (.inl b), some (.inl w), some (.inr (.inr (some (5, a))))]) (st' := []) (M' := (P, g3, r0, n)) ok_X10_at true 1 rfl trivial ?_
        obtain ⟨d2, d3, d33, d4, d5, d6, d7, d8, d9, d10⟩ := hD3 a (by omega) (by omega)
        have hon : (g3 5 a 2 = 0 ∧ gT h b 129 0 a < 0) ∨ (g3 5 a 2 ≠ 0 ∧ 0 ≤ gT h b 129 0 a ∧ g3 5 a 3 = gT h b 129 0 a) := by by_cases z : 0 ≤ gT h b 129 0 a; exact Or.inr ⟨by rw [d2, bI_t z]; decide, z, d3 z⟩; exact Or.inl ⟨by rw [d2, bI_f z], by omega⟩
        have hdd := (gT_od hOs b (by omega)).2 a (by omega) (by rw [gT_sz]; omega)
        refine aj_run (C := True) (pc' := 46) (la' := [some (.inr (.inr (some (1, 0)))), some (.inl a), some (.inl b), some (.inl w), some (.inr (.inr (some (5, a))))]) (st' := [.inl (g3 5 a 2)]) (M' := (P, g3, r0, n)) ok_X10_at true 2 rfl trivial ?_
        refine aj_if_ne (tgt := 51) (ax_dec2 (i := .ifCond .ne 5) (n := 3) ok_X10_at rfl) (by decide) (fun c4 => ?_) (fun c4 => ?_)
        · refine aj_run (C := True) (pc' := 52) (la' := [some (.inr (.inr (some (1, 0)))), some (.inl a), some (.inl b), some (.inl w), some (.inr (.inr (some (5, a))))]) (st' := [.inl w]) (M' := (P, g3, r0, n)) ok_X10_at true 1 rfl trivial ?_
          refine aj_if_ne (tgt := 63) (ax_dec2 (i := .ifCond .ne 11) (n := 3) ok_X10_at rfl) (by decide) (fun c5 => ?_) (fun c5 => ?_)
          · refine aj_run (C := True) (pc' := 68) (la' := [some (.inr (.inr (some (1, 0)))), some (.inl a), some (.inl b), some (.inl w), some (.inr (.inr (some (5, a))))]) (st' := [.inl (g3 5 a 4)]) (M' := (P, g3, r0, n)) ok_X10_at true 2 rfl trivial ?_
            refine aj_ret (r := some (.inl (g3 5 a 4))) (ax_dec2 (i := .ireturn) (n := 1) ok_X10_at rfl) ⟨?_, ?_, by decide, by decide⟩ rfl
            · first | (exfalso; omega) | exact ⟨ax_si (by unfold fAt; (repeat first | rw [if_pos (by omega)] | rw [if_neg (by omega)] | rw [bI_t (by omega)] | rw [bI_f (by omega)]); try first | rfl | omega), g3, rfl, hd3, tw3⟩
            · exact ax_ro_i
          · refine aj_run (C := True) (pc' := 68) (la' := [some (.inr (.inr (some (1, 0)))), some (.inl a), some (.inl b), some (.inl w), some (.inr (.inr (some (5, a))))]) (st' := [.inl (g3 5 a 3)]) (M' := (P, g3, r0, n)) ok_X10_at true 3 rfl trivial ?_
            refine aj_ret (r := some (.inl (g3 5 a 3))) (ax_dec2 (i := .ireturn) (n := 1) ok_X10_at rfl) ⟨?_, ?_, by decide, by decide⟩ rfl
            · first | (exfalso; omega) | exact ⟨ax_si (by unfold fAt; (repeat first | rw [if_pos (by omega)] | rw [if_neg (by omega)] | rw [bI_t (by omega)] | rw [bI_f (by omega)]); try first | rfl | omega), g3, rfl, hd3, tw3⟩
            · exact ax_ro_i
        · refine aj_run (C := True) (pc' := 50) (la' := [some (.inr (.inr (some (1, 0)))), some (.inl a), some (.inl b), some (.inl w), some (.inr (.inr (some (5, a))))]) (st' := [.inl (-1)]) (M' := (P, g3, r0, n)) ok_X10_at true 1 rfl trivial ?_
          refine aj_ret (r := some (.inl (-1))) (ax_dec2 (i := .ireturn) (n := 1) ok_X10_at rfl) ⟨?_, ?_, by decide, by decide⟩ rfl
          · first | (exfalso; omega) | exact ⟨ax_si (by unfold fAt; (repeat first | rw [if_pos (by omega)] | rw [if_neg (by omega)] | rw [bI_t (by omega)] | rw [bI_f (by omega)]); try first | rfl | omega), g3, rfl, hd3, tw3⟩
          · exact ax_ro_i
      · replace c3 := bI_e0 c3
        refine aj_run (C := True) (pc' := 24) (la' := [some (.inr (.inr (some (1, 0)))), some (.inl a), some (.inl b), some (.inl w), none]) (st' := [.inl (-2)]) (M' := (P, g, r0, n)) ok_X10_at true 1 rfl trivial ?_
        refine aj_ret (r := some (.inl (-2))) (ax_dec2 (i := .ireturn) (n := 1) ok_X10_at rfl) ⟨?_, ?_, by decide, by decide⟩ rfl
        · first | (exfalso; omega) | exact ⟨ax_si (by unfold fAt; (repeat first | rw [if_pos (by omega)] | rw [if_neg (by omega)] | rw [bI_t (by omega)] | rw [bI_f (by omega)]); try first | rfl | omega), g, rfl, hd, fun _ _ _ _ => rfl⟩
        · exact ax_ro_i

set_option maxRecDepth 100000 in
set_option maxHeartbeats 4000000 in
theorem cp_last (w : Int) (P : Nat → Int → Prop) (g : Nat → Int → Int → Int) (r0 : Nat → Int → Int → Option (Nat × Int)) (n : Nat → Int → Int) (h : Nat → Int → Int → Int) (hs : cSta P r0 n g h) (hd : cDy g h) : ax_S yX10_last cX10_last 3 (some FieldType.int) 14 0 0 [.inr (.inr (some (1, 0))), .inl w] (P, g, r0, n) (fun r M' => r = some (.inl (fLast h w)) ∧ ∃ g', M' = (P, g', r0, n) ∧ cDy g' h ∧ cFr TW g' g) := by
  have hAs := hs.1.1
  have hPs := hs.1.2.1
  have hOs := hs.1.2.2
  have hP1 := hPs.1
  have hA1 := hAs.1
  have hsz := hOs.2.2.1
  have hm := hd.1
  have hca := hd.2
  have hxz := hPs.1.1
  refine ax_S_of (own := 10) (by decide) rfl (fun h => absurd h (by decide)) rfl (Nat.le_of_ble_eq_true rfl) ?_
  change ax_J _ _ _ _ _ _ _ _ _ _ [some (.inr (.inr (some (1, 0)))), some (.inl w), none] _ _
  refine aj_run (C := True) (pc' := 1) (la' := [some (.inr (.inr (some (1, 0)))), some (.inl w), none]) (st' := [.inl w]) (M' := (P, g, r0, n)) ok_X10_last true 1 rfl trivial ?_
  refine aj_callS (av := [.inl w]) (st := []) cal_X10_isEither lk_10_163 stc_X10_isEither (cp_isEither w _ _ _ _) ⟨by decide, by decide, by decide, by decide⟩ (Nat.le_of_ble_eq_true rfl) (ax_dec2 (i := .invokestatic 163) (n := 3) ok_X10_last rfl) (fun r M' hq => ?_)
  obtain ⟨rfl, rfl⟩ := hq
  change ax_J _ _ _ _ _ _ _ _ _ 4 [some (.inr (.inr (some (1, 0)))), some (.inl w), none] [.inl (bI (0 ≤ w ∧ w ≤ 1))] (P, g, r0, n)
  refine aj_if_ne (tgt := 10) (ax_dec2 (i := .ifCond .ne 6) (n := 3) ok_X10_last rfl) (by decide) (fun c1 => ?_) (fun c1 => ?_)
  · replace c1 := bI_n0 c1
    refine aj_run (C := True) (pc' := 11) (la' := [some (.inr (.inr (some (1, 0)))), some (.inl w), none]) (st' := [.inr (.inr (some (1, 0)))]) (M' := (P, g, r0, n)) ok_X10_last true 1 rfl trivial ?_
    refine aj_getR (f := 1) (k := 0) (g := 2) (o := 0) (u := 0) (ax_lk_ok (q := (1, 0)) rfl) rfl rfl hs.2.2.2.1 hs.2.2.2.2 (ax_dec2 (i := .getfield 10) (n := 3) ok_X10_last rfl) ?_
    refine aj_callV (av := []) (st := []) (f := 2) (o := 0) (ci := 2) cal_X2_wayAsTold lk_10_176 ins_X2_wayAsTold rfl sel_X2_wayAsTold rfl (fun c9 h9 _ => by simpa [ax_ok] using h9) (cp_wayAsTold _ _ _ _ hAs) ⟨by decide, by decide, by decide, by decide⟩ (Nat.le_of_ble_eq_true rfl) (ax_dec2 (i := .invokevirtual 176) (n := 3) ok_X10_last rfl) (fun r M' hq => ?_)
    obtain ⟨rfl, rfl⟩ := hq
    change ax_J _ _ _ _ _ _ _ _ _ 17 [some (.inr (.inr (some (1, 0)))), some (.inl w), none] [.inl (wSet (fun q => g 500 q 1) (g 2 0 1))] (P, g, r0, n)
    rw [gAs_c hPs]
    have hgs := gAs_in hOs
    refine aj_run (C := True) (pc' := 19) (la' := [some (.inr (.inr (some (1, 0)))), some (.inl w), some (.inl (gAs h))]) (st' := [.inl w]) (M' := (P, g, r0, n)) ok_X10_last true 2 rfl trivial ?_
    refine aj_if_ne (tgt := 33) (ax_dec2 (i := .ifCond .ne 14) (n := 3) ok_X10_last rfl) (by decide) (fun c2 => ?_) (fun c2 => ?_)
    · refine aj_run (C := True) (pc' := 34) (la' := [some (.inr (.inr (some (1, 0)))), some (.inl w), some (.inl (gAs h))]) (st' := [.inr (.inr (some (1, 0)))]) (M' := (P, g, r0, n)) ok_X10_last true 1 rfl trivial ?_
      refine aj_getR (f := 1) (k := 0) (g := 2) (o := 0) (u := 0) (ax_lk_ok (q := (1, 0)) rfl) rfl rfl hs.2.2.2.1 hs.2.2.2.2 (ax_dec2 (i := .getfield 10) (n := 3) ok_X10_last rfl) ?_
      refine aj_run (C := True) (pc' := 38) (la' := [some (.inr (.inr (some (1, 0)))), some (.inl w), some (.inl (gAs h))]) (st' := [.inl (gAs h), .inr (.inr (some (2, 0)))]) (M' := (P, g, r0, n)) ok_X10_last true 1 rfl trivial ?_
      refine aj_callV (av := [.inl (gAs h)]) (st := []) (f := 2) (o := 0) (ci := 2) cal_X2_latestOf lk_10_182 ins_X2_latestOf rfl sel_X2_latestOf rfl (fun c9 h9 _ => by simpa [ax_ok] using h9) (cp_latestOf (gAs h) _ _ _ _ h hs hd (by omega)) ⟨by decide, by decide, by decide, by decide⟩ (Nat.le_of_ble_eq_true rfl) (ax_dec2 (i := .invokevirtual 182) (n := 3) ok_X10_last rfl) (fun r M' hq => ?_)
      obtain ⟨rfl, g4, rfl, hd4, fr4⟩ := hq
      change ax_J _ _ _ _ _ _ _ _ _ 41 [some (.inr (.inr (some (1, 0)))), some (.inl w), some (.inl (gAs h))] [.inl (gLt h (gAs h))] (P, g4, r0, n)
      refine aj_ret (r := some (.inl (gLt h (gAs h)))) (ax_dec2 (i := .ireturn) (n := 1) ok_X10_last rfl) ⟨?_, ?_, by decide, by decide⟩ rfl
      · exact ⟨ax_si (by unfold fLast gLt; rw [if_pos (c := 0 ≤ w ∧ w ≤ 1) (by omega)]; by_cases z : gLa h (gAs h) = -1; (rw [if_pos z, if_pos (Or.inl z), z]); (rw [if_neg z, if_neg (by omega)])), g4, rfl, hd4, fr4⟩
      · exact ax_ro_i
    · refine aj_run (C := True) (pc' := 23) (la' := [some (.inr (.inr (some (1, 0)))), some (.inl w), some (.inl (gAs h))]) (st' := [.inr (.inr (some (1, 0)))]) (M' := (P, g, r0, n)) ok_X10_last true 1 rfl trivial ?_
      refine aj_getR (f := 1) (k := 0) (g := 2) (o := 0) (u := 0) (ax_lk_ok (q := (1, 0)) rfl) rfl rfl hs.2.2.2.1 hs.2.2.2.2 (ax_dec2 (i := .getfield 10) (n := 3) ok_X10_last rfl) ?_
      refine aj_run (C := True) (pc' := 27) (la' := [some (.inr (.inr (some (1, 0)))), some (.inl w), some (.inl (gAs h))]) (st' := [.inl (gAs h), .inr (.inr (some (2, 0)))]) (M' := (P, g, r0, n)) ok_X10_last true 1 rfl trivial ?_
      refine aj_callV (av := [.inl (gAs h)]) (st := []) (f := 2) (o := 0) (ci := 2) cal_X2_lastOf lk_10_179 ins_X2_lastOf rfl sel_X2_lastOf rfl (fun c9 h9 _ => by simpa [ax_ok] using h9) (cp_lastOf (gAs h) _ _ _ _ h hs hd (by omega)) ⟨by decide, by decide, by decide, by decide⟩ (Nat.le_of_ble_eq_true rfl) (ax_dec2 (i := .invokevirtual 179) (n := 3) ok_X10_last rfl) (fun r M' hq => ?_)
      obtain ⟨rfl, g4, rfl, hd4, fr4⟩ := hq
      change ax_J _ _ _ _ _ _ _ _ _ 30 [some (.inr (.inr (some (1, 0)))), some (.inl w), some (.inl (gAs h))] [.inl (gLa h (gAs h))] (P, g4, r0, n)
      refine aj_run (C := True) (pc' := 41) (la' := [some (.inr (.inr (some (1, 0)))), some (.inl w), some (.inl (gAs h))]) (st' := [.inl (gLa h (gAs h))]) (M' := (P, g4, r0, n)) ok_X10_last true 1 rfl trivial ?_
      refine aj_ret (r := some (.inl (gLa h (gAs h)))) (ax_dec2 (i := .ireturn) (n := 1) ok_X10_last rfl) ⟨?_, ?_, by decide, by decide⟩ rfl
      · first | (exfalso; omega) | exact ⟨ax_si (by unfold fLast; (repeat first | rw [if_pos (by omega)] | rw [if_neg (by omega)] | rw [bI_t (by omega)] | rw [bI_f (by omega)]); try first | rfl | omega), g4, rfl, hd4, fr4⟩
      · exact ax_ro_i
  · replace c1 := bI_e0 c1
    refine aj_run (C := True) (pc' := 9) (la' := [some (.inr (.inr (some (1, 0)))), some (.inl w), none]) (st' := [.inl (-2)]) (M' := (P, g, r0, n)) ok_X10_last true 1 rfl trivial ?_
    refine aj_ret (r := some (.inl (-2))) (ax_dec2 (i := .ireturn) (n := 1) ok_X10_last rfl) ⟨?_, ?_, by decide, by decide⟩ rfl
    · first | (exfalso; omega) | exact ⟨ax_si (by unfold fLast; (repeat first | rw [if_pos (by omega)] | rw [if_neg (by omega)] | rw [bI_t (by omega)] | rw [bI_f (by omega)]); try first | rfl | omega), g, rfl, hd, fun _ _ _ _ => rfl⟩
    · exact ax_ro_i

set_option maxRecDepth 100000 in
set_option maxHeartbeats 4000000 in
theorem cp_through (a w : Int) (P : Nat → Int → Prop) (g : Nat → Int → Int → Int) (r0 : Nat → Int → Int → Option (Nat × Int)) (n : Nat → Int → Int) (h : Nat → Int → Int → Int) (hs : cSta P r0 n g h) (hd : cDy g h) : ax_S yX10_through cX10_through 4 (some FieldType.int) 14 0 0 [.inr (.inr (some (1, 0))), .inl a, .inl w] (P, g, r0, n) (fun r M' => r = some (.inl (fThr h a w)) ∧ ∃ g', M' = (P, g', r0, n) ∧ cDy g' h ∧ cFr TW g' g) := by
  have hAs := hs.1.1
  have hPs := hs.1.2.1
  have hOs := hs.1.2.2
  have hP1 := hPs.1
  have hA1 := hAs.1
  have hsz := hOs.2.2.1
  have hm := hd.1
  have hca := hd.2
  have hxz := hPs.1.1
  refine ax_S_of (own := 10) (by decide) rfl (fun h => absurd h (by decide)) rfl (Nat.le_of_ble_eq_true rfl) ?_
  change ax_J _ _ _ _ _ _ _ _ _ _ [some (.inr (.inr (some (1, 0)))), some (.inl a), some (.inl w), none] _ _
  refine aj_run (C := True) (pc' := 1) (la' := [some (.inr (.inr (some (1, 0)))), some (.inl a), some (.inl w), none]) (st' := [.inl w]) (M' := (P, g, r0, n)) ok_X10_through true 1 rfl trivial ?_
  refine aj_if_lt (tgt := 21) (ax_dec2 (i := .ifCond .lt 20) (n := 3) ok_X10_through rfl) (by decide) (fun c1 => ?_) (fun c1 => ?_)
  · refine aj_run (C := True) (pc' := 23) (la' := [some (.inr (.inr (some (1, 0)))), some (.inl a), some (.inl w), none]) (st' := [.inl (-2)]) (M' := (P, g, r0, n)) ok_X10_through true 1 rfl trivial ?_
    refine aj_ret (r := some (.inl (-2))) (ax_dec2 (i := .ireturn) (n := 1) ok_X10_through rfl) ⟨?_, ?_, by decide, by decide⟩ rfl
    · first | (exfalso; omega) | exact ⟨ax_si (by unfold fThr; (repeat first | rw [if_pos (by omega)] | rw [if_neg (by omega)] | rw [bI_t (by omega)] | rw [bI_f (by omega)]); try first | rfl | omega | exact ((by omega : wLik (gA h (gAs h) 135 0) (gTw h (gAs h)) (h 50 0 2) (h 50 0 2) = 0)).symm | exact ((by omega : wLik (gA h (gAs h) 135 0) (gTw h (gAs h)) (h 50 0 2) (h 50 0 2) = 1)).symm), g, rfl, hd, fun _ _ _ _ => rfl⟩
    · exact ax_ro_i
  · refine aj_run (C := True) (pc' := 6) (la' := [some (.inr (.inr (some (1, 0)))), some (.inl a), some (.inl w), none]) (st' := [.inl 2, .inl w]) (M' := (P, g, r0, n)) ok_X10_through true 2 rfl trivial ?_
    refine aj_icmp_gt (tgt := 21) (ax_dec2 (i := .if_icmp .gt 15) (n := 3) ok_X10_through rfl) (by decide) (fun c2 => ?_) (fun c2 => ?_)
    · refine aj_run (C := True) (pc' := 23) (la' := [some (.inr (.inr (some (1, 0)))), some (.inl a), some (.inl w), none]) (st' := [.inl (-2)]) (M' := (P, g, r0, n)) ok_X10_through true 1 rfl trivial ?_
      refine aj_ret (r := some (.inl (-2))) (ax_dec2 (i := .ireturn) (n := 1) ok_X10_through rfl) ⟨?_, ?_, by decide, by decide⟩ rfl
      · first | (exfalso; omega) | exact ⟨ax_si (by unfold fThr; (repeat first | rw [if_pos (by omega)] | rw [if_neg (by omega)] | rw [bI_t (by omega)] | rw [bI_f (by omega)]); try first | rfl | omega | exact ((by omega : wLik (gA h (gAs h) 135 0) (gTw h (gAs h)) (h 50 0 2) (h 50 0 2) = 0)).symm | exact ((by omega : wLik (gA h (gAs h) 135 0) (gTw h (gAs h)) (h 50 0 2) (h 50 0 2) = 1)).symm), g, rfl, hd, fun _ _ _ _ => rfl⟩
      · exact ax_ro_i
    · refine aj_run (C := True) (pc' := 10) (la' := [some (.inr (.inr (some (1, 0)))), some (.inl a), some (.inl w), none]) (st' := [.inl w]) (M' := (P, g, r0, n)) ok_X10_through true 1 rfl trivial ?_
      refine aj_if_ne (tgt := 24) (ax_dec2 (i := .ifCond .ne 14) (n := 3) ok_X10_through rfl) (by decide) (fun c3 => ?_) (fun c3 => ?_)
      · refine aj_run (C := True) (pc' := 25) (la' := [some (.inr (.inr (some (1, 0)))), some (.inl a), some (.inl w), none]) (st' := [.inr (.inr (some (1, 0)))]) (M' := (P, g, r0, n)) ok_X10_through true 1 rfl trivial ?_
        refine aj_getR (f := 1) (k := 0) (g := 2) (o := 0) (u := 0) (ax_lk_ok (q := (1, 0)) rfl) rfl rfl hs.2.2.2.1 hs.2.2.2.2 (ax_dec2 (i := .getfield 10) (n := 3) ok_X10_through rfl) ?_
        refine aj_callV (av := []) (st := []) (f := 2) (o := 0) (ci := 2) cal_X2_wayAsTold lk_10_176 ins_X2_wayAsTold rfl sel_X2_wayAsTold rfl (fun c9 h9 _ => by simpa [ax_ok] using h9) (cp_wayAsTold _ _ _ _ hAs) ⟨by decide, by decide, by decide, by decide⟩ (Nat.le_of_ble_eq_true rfl) (ax_dec2 (i := .invokevirtual 176) (n := 3) ok_X10_through rfl) (fun r M' hq => ?_)
        obtain ⟨rfl, rfl⟩ := hq
        change ax_J _ _ _ _ _ _ _ _ _ 31 [some (.inr (.inr (some (1, 0)))), some (.inl a), some (.inl w), none] [.inl (wSet (fun q => g 500 q 1) (g 2 0 1))] (P, g, r0, n)
        rw [gAs_c hPs]
        have hgs := gAs_in hOs
        refine aj_run (C := True) (pc' := 34) (la' := [some (.inr (.inr (some (1, 0)))), some (.inl a), some (.inl w), some (.inl (gAs h))]) (st' := [.inl 2, .inl w]) (M' := (P, g, r0, n)) ok_X10_through true 3 rfl trivial ?_
        refine aj_icmp_ne (tgt := 54) (ax_dec2 (i := .if_icmp .ne 20) (n := 3) ok_X10_through rfl) (by decide) (fun c4 => ?_) (fun c4 => ?_)
        · refine aj_run (C := True) (pc' := 55) (la' := [some (.inr (.inr (some (1, 0)))), some (.inl a), some (.inl w), some (.inl (gAs h))]) (st' := [.inr (.inr (some (1, 0)))]) (M' := (P, g, r0, n)) ok_X10_through true 1 rfl trivial ?_
          refine aj_getR (f := 1) (k := 0) (g := 2) (o := 0) (u := 0) (ax_lk_ok (q := (1, 0)) rfl) rfl rfl hs.2.2.2.1 hs.2.2.2.2 (ax_dec2 (i := .getfield 10) (n := 3) ok_X10_through rfl) ?_
          refine aj_run (C := True) (pc' := 60) (la' := [some (.inr (.inr (some (1, 0)))), some (.inl a), some (.inl w), some (.inl (gAs h))]) (st' := [.inl 1, .inl (gAs h), .inr (.inr (some (2, 0)))]) (M' := (P, g, r0, n)) ok_X10_through true 2 rfl trivial ?_
          refine aj_callV (av := [.inl (gAs h), .inl 1]) (st := []) (f := 2) (o := 0) (ci := 2) cal_X2_begin lk_10_197 ins_X2_begin rfl sel_X2_begin rfl (fun c9 h9 _ => by simpa [ax_ok] using h9) (cp_begin (gAs h) 1 _ _ _ _ hAs (by decide)) ⟨by decide, by decide, by decide, by decide⟩ (Nat.le_of_ble_eq_true rfl) (ax_dec2 (i := .invokevirtual 197) (n := 3) ok_X10_through rfl) (fun r M' hq => ?_)
          obtain ⟨rfl, rfl⟩ := hq
          change ax_J _ _ _ _ _ _ _ _ _ 63 [some (.inr (.inr (some (1, 0)))), some (.inl a), some (.inl w), some (.inl (gAs h))] [] (P, cBegin g (gAs h) 1, r0, n)
          obtain ⟨hb1, hb2, hb3, hb4, hb5, hb6, hb7⟩ := beg_all hs hm (gAs h) 1
          refine aj_run (C := True) (pc' := 64) (la' := [some (.inr (.inr (some (1, 0)))), some (.inl a), some (.inl w), some (.inl (gAs h))]) (st' := [.inr (.inr (some (1, 0)))]) (M' := (P, cBegin g (gAs h) 1, r0, n)) ok_X10_through true 1 rfl trivial ?_
          refine aj_getR (f := 1) (k := 0) (g := 2) (o := 0) (u := 0) (ax_lk_ok (q := (1, 0)) rfl) rfl rfl hs.2.2.2.1 hs.2.2.2.2 (ax_dec2 (i := .getfield 10) (n := 3) ok_X10_through rfl) ?_
          refine aj_run (C := True) (pc' := 70) (la' := [some (.inr (.inr (some (1, 0)))), some (.inl a), some (.inl w), some (.inl (gAs h))]) (st' := [.inl 200, .inr (.inr (some (2, 0)))]) (M' := (P, cBegin g (gAs h) 1, r0, n)) ok_X10_through true 1 rfl trivial ?_
          refine aj_callV (av := [.inl 200]) (st := []) (f := 2) (o := 0) (ci := 2) cal_X2_goOn lk_10_201 ins_X2_goOn rfl sel_X2_goOn rfl (fun c9 h9 _ => by simpa [ax_ok] using h9) (cp_goOn 200 0 _ _ _ _ hb1 ⟨hs.2.1.1, hs.2.1.2.1⟩ hs.2.1.2.2.1 _ hb2 hb3 hb4 (by omega) (by omega) (by omega) hb5 _ _ ⟨hs.2.2.1.1, hb6⟩ cV_n hb7) ⟨by decide, by decide, by decide, by decide⟩ (Nat.le_of_ble_eq_true rfl) (ax_dec2 (i := .invokevirtual 201) (n := 3) ok_X10_through rfl) (fun r M' hq => ?_)
          obtain ⟨rfl, g5, rfl, sm3, fr3⟩ := hq
          have fr5 : cFr TG g5 g := fun f o j q => (fr3 f o j (TGo_TG q)).trans (cBg_fr f o j q)
          have hs51 : g5 2 0 1 = g 2 0 1 := fr5 2 0 1 (by unfold TG; omega)
          have rs9 : ∀ x, 0 ≤ x → x < h 50 0 2 → g5 5 x 9 = gTh h 135 0 x := fun x z1 z2 => cSm_9 sm3 z1 (by rw [ax_u3_n (by omega), beg_sz]; exact z2)
          have rs6 : g5 2 0 6 = gTh h 50 0 40 := sm3.1.2.1.2.1
          change ax_J _ _ _ _ _ _ _ _ _ 73 [some (.inr (.inr (some (1, 0)))), some (.inl a), some (.inl w), some (.inl (gAs h))] [] (P, g5, r0, n)
          refine aj_run (C := True) (pc' := 74) (la' := [some (.inr (.inr (some (1, 0)))), some (.inl a), some (.inl w), some (.inl (gAs h))]) (st' := [.inl w]) (M' := (P, g5, r0, n)) ok_X10_through true 1 rfl trivial ?_
          refine aj_if_ne (tgt := 92) (ax_dec2 (i := .ifCond .ne 18) (n := 3) ok_X10_through rfl) (by decide) (fun c5 => ?_) (fun c5 => ?_)
          · refine aj_run (C := True) (pc' := 93) (la' := [some (.inr (.inr (some (1, 0)))), some (.inl a), some (.inl w), some (.inl (gAs h))]) (st' := [.inr (.inr (some (1, 0)))]) (M' := (P, g5, r0, n)) ok_X10_through true 1 rfl trivial ?_
            refine aj_getR (f := 1) (k := 0) (g := 2) (o := 0) (u := 0) (ax_lk_ok (q := (1, 0)) rfl) rfl rfl hs.2.2.2.1 hs.2.2.2.2 (ax_dec2 (i := .getfield 10) (n := 3) ok_X10_through rfl) ?_
            refine aj_run (C := True) (pc' := 99) (la' := [some (.inr (.inr (some (1, 0)))), some (.inl a), some (.inl w), some (.inl (gAs h))]) (st' := [.inl (g5 2 0 6)]) (M' := (P, g5, r0, n)) ok_X10_through true 1 rfl trivial ?_
            refine aj_ret (r := some (.inl (g5 2 0 6))) (ax_dec2 (i := .ireturn) (n := 1) ok_X10_through rfl) ⟨?_, ?_, by decide, by decide⟩ rfl
            · first | (exfalso; omega) | exact ⟨ax_si (by unfold fThr; (repeat first | rw [if_pos (by omega)] | rw [if_neg (by omega)] | rw [bI_t (by omega)] | rw [bI_f (by omega)]); try first | rfl | omega | exact ((by omega : wLik (gA h (gAs h) 135 0) (gTw h (gAs h)) (h 50 0 2) (h 50 0 2) = 0)).symm | exact ((by omega : wLik (gA h (gAs h) 135 0) (gTw h (gAs h)) (h 50 0 2) (h 50 0 2) = 1)).symm), g5, rfl, ⟨cSm_mz sm3, cCa_g fr5 hca⟩, cFr_TG fr5⟩
            · exact ax_ro_i
          · exact absurd c5 (by omega)
        · refine aj_run (C := True) (pc' := 38) (la' := [some (.inr (.inr (some (1, 0)))), some (.inl a), some (.inl w), some (.inl (gAs h))]) (st' := [.inr (.inr (some (1, 0)))]) (M' := (P, g, r0, n)) ok_X10_through true 1 rfl trivial ?_
          refine aj_getR (f := 1) (k := 0) (g := 2) (o := 0) (u := 0) (ax_lk_ok (q := (1, 0)) rfl) rfl rfl hs.2.2.2.1 hs.2.2.2.2 (ax_dec2 (i := .getfield 10) (n := 3) ok_X10_through rfl) ?_
          refine aj_run (C := True) (pc' := 42) (la' := [some (.inr (.inr (some (1, 0)))), some (.inl a), some (.inl w), some (.inl (gAs h))]) (st' := [.inl (gAs h), .inr (.inr (some (2, 0)))]) (M' := (P, g, r0, n)) ok_X10_through true 1 rfl trivial ?_
          refine aj_callV (av := [.inl (gAs h)]) (st := []) (f := 2) (o := 0) (ci := 2) cal_X2_isLikeThrough lk_10_194 ins_X2_isLikeThrough rfl sel_X2_isLikeThrough rfl (fun c9 h9 _ => by simpa [ax_ok] using h9) (cp_isLikeThrough (gAs h) _ _ _ _ h hs hd hgs) ⟨by decide, by decide, by decide, by decide⟩ (Nat.le_of_ble_eq_true rfl) (ax_dec2 (i := .invokevirtual 194) (n := 3) ok_X10_through rfl) (fun r M' hq => ?_)
          obtain ⟨rfl, g4, rfl, hd4, fr4⟩ := hq
          have h01 := wLik_01 (r1 := gA h (gAs h) 135 0) (r2 := gTw h (gAs h)) (m := h 50 0 2) (k := h 50 0 2)
          change ax_J _ _ _ _ _ _ _ _ _ 45 [some (.inr (.inr (some (1, 0)))), some (.inl a), some (.inl w), some (.inl (gAs h))] [.inl (wLik (gA h (gAs h) 135 0) (gTw h (gAs h)) (h 50 0 2) (h 50 0 2))] (P, g4, r0, n)
          refine aj_if_eq (tgt := 52) (ax_dec2 (i := .ifCond .eq 7) (n := 3) ok_X10_through rfl) (by decide) (fun c6 => ?_) (fun c6 => ?_)
          · refine aj_run (C := True) (pc' := 53) (la' := [some (.inr (.inr (some (1, 0)))), some (.inl a), some (.inl w), some (.inl (gAs h))]) (st' := [.inl 0]) (M' := (P, g4, r0, n)) ok_X10_through true 1 rfl trivial ?_
            refine aj_ret (r := some (.inl 0)) (ax_dec2 (i := .ireturn) (n := 1) ok_X10_through rfl) ⟨?_, ?_, by decide, by decide⟩ rfl
            · first | (exfalso; omega) | exact ⟨ax_si (by unfold fThr; (repeat first | rw [if_pos (by omega)] | rw [if_neg (by omega)] | rw [bI_t (by omega)] | rw [bI_f (by omega)]); try first | rfl | omega | exact ((by omega : wLik (gA h (gAs h) 135 0) (gTw h (gAs h)) (h 50 0 2) (h 50 0 2) = 0)).symm | exact ((by omega : wLik (gA h (gAs h) 135 0) (gTw h (gAs h)) (h 50 0 2) (h 50 0 2) = 1)).symm), g4, rfl, hd4, fr4⟩
            · exact ax_ro_i
          · refine aj_run (C := True) (pc' := 53) (la' := [some (.inr (.inr (some (1, 0)))), some (.inl a), some (.inl w), some (.inl (gAs h))]) (st' := [.inl 1]) (M' := (P, g4, r0, n)) ok_X10_through true 2 rfl trivial ?_
            refine aj_ret (r := some (.inl 1)) (ax_dec2 (i := .ireturn) (n := 1) ok_X10_through rfl) ⟨?_, ?_, by decide, by decide⟩ rfl
            · first | (exfalso; omega) | exact ⟨ax_si (by unfold fThr; (repeat first | rw [if_pos (by omega)] | rw [if_neg (by omega)] | rw [bI_t (by omega)] | rw [bI_f (by omega)]); try first | rfl | omega | exact ((by omega : wLik (gA h (gAs h) 135 0) (gTw h (gAs h)) (h 50 0 2) (h 50 0 2) = 0)).symm | exact ((by omega : wLik (gA h (gAs h) 135 0) (gTw h (gAs h)) (h 50 0 2) (h 50 0 2) = 1)).symm), g4, rfl, hd4, fr4⟩
            · exact ax_ro_i
      · refine aj_run (C := True) (pc' := 15) (la' := [some (.inr (.inr (some (1, 0)))), some (.inl a), some (.inl w), none]) (st' := [.inl a, .inr (.inr (some (1, 0)))]) (M' := (P, g, r0, n)) ok_X10_through true 2 rfl trivial ?_
        refine aj_callV (av := [.inl a]) (st := []) (f := 1) (o := 0) (ci := 10) cal_X10_isAnt lk_10_122 ins_X10_isAnt rfl sel_X10_isAnt rfl (fun c9 h9 _ => by simpa [ax_ok] using h9) (cp_isAnt a _ _ _ _ hs.2.2.2) ⟨by decide, by decide, by decide, by decide⟩ (Nat.le_of_ble_eq_true rfl) (ax_dec2 (i := .invokevirtual 122) (n := 3) ok_X10_through rfl) (fun r M' hq => ?_)
        obtain ⟨rfl, rfl⟩ := hq
        change ax_J _ _ _ _ _ _ _ _ _ 18 [some (.inr (.inr (some (1, 0)))), some (.inl a), some (.inl w), none] [.inl (bI (0 ≤ a ∧ a < g 2 0 1))] (P, g, r0, n)
        refine aj_if_ne (tgt := 24) (ax_dec2 (i := .ifCond .ne 6) (n := 3) ok_X10_through rfl) (by decide) (fun c7 => ?_) (fun c7 => ?_)
        · replace c7 := bI_n0 c7
          refine aj_run (C := True) (pc' := 25) (la' := [some (.inr (.inr (some (1, 0)))), some (.inl a), some (.inl w), none]) (st' := [.inr (.inr (some (1, 0)))]) (M' := (P, g, r0, n)) ok_X10_through true 1 rfl trivial ?_
          refine aj_getR (f := 1) (k := 0) (g := 2) (o := 0) (u := 0) (ax_lk_ok (q := (1, 0)) rfl) rfl rfl hs.2.2.2.1 hs.2.2.2.2 (ax_dec2 (i := .getfield 10) (n := 3) ok_X10_through rfl) ?_
          refine aj_callV (av := []) (st := []) (f := 2) (o := 0) (ci := 2) cal_X2_wayAsTold lk_10_176 ins_X2_wayAsTold rfl sel_X2_wayAsTold rfl (fun c9 h9 _ => by simpa [ax_ok] using h9) (cp_wayAsTold _ _ _ _ hAs) ⟨by decide, by decide, by decide, by decide⟩ (Nat.le_of_ble_eq_true rfl) (ax_dec2 (i := .invokevirtual 176) (n := 3) ok_X10_through rfl) (fun r M' hq => ?_)
          obtain ⟨rfl, rfl⟩ := hq
          change ax_J _ _ _ _ _ _ _ _ _ 31 [some (.inr (.inr (some (1, 0)))), some (.inl a), some (.inl w), none] [.inl (wSet (fun q => g 500 q 1) (g 2 0 1))] (P, g, r0, n)
          rw [gAs_c hPs]
          have hgs := gAs_in hOs
          refine aj_run (C := True) (pc' := 34) (la' := [some (.inr (.inr (some (1, 0)))), some (.inl a), some (.inl w), some (.inl (gAs h))]) (st' := [.inl 2, .inl w]) (M' := (P, g, r0, n)) ok_X10_through true 3 rfl trivial ?_
          refine aj_icmp_ne (tgt := 54) (ax_dec2 (i := .if_icmp .ne 20) (n := 3) ok_X10_through rfl) (by decide) (fun c8 => ?_) (fun c8 => ?_)
          · refine aj_run (C := True) (pc' := 55) (la' := [some (.inr (.inr (some (1, 0)))), some (.inl a), some (.inl w), some (.inl (gAs h))]) (st' := [.inr (.inr (some (1, 0)))]) (M' := (P, g, r0, n)) ok_X10_through true 1 rfl trivial ?_
            refine aj_getR (f := 1) (k := 0) (g := 2) (o := 0) (u := 0) (ax_lk_ok (q := (1, 0)) rfl) rfl rfl hs.2.2.2.1 hs.2.2.2.2 (ax_dec2 (i := .getfield 10) (n := 3) ok_X10_through rfl) ?_
            refine aj_run (C := True) (pc' := 60) (la' := [some (.inr (.inr (some (1, 0)))), some (.inl a), some (.inl w), some (.inl (gAs h))]) (st' := [.inl 1, .inl (gAs h), .inr (.inr (some (2, 0)))]) (M' := (P, g, r0, n)) ok_X10_through true 2 rfl trivial ?_
            refine aj_callV (av := [.inl (gAs h), .inl 1]) (st := []) (f := 2) (o := 0) (ci := 2) cal_X2_begin lk_10_197 ins_X2_begin rfl sel_X2_begin rfl (fun c9 h9 _ => by simpa [ax_ok] using h9) (cp_begin (gAs h) 1 _ _ _ _ hAs (by decide)) ⟨by decide, by decide, by decide, by decide⟩ (Nat.le_of_ble_eq_true rfl) (ax_dec2 (i := .invokevirtual 197) (n := 3) ok_X10_through rfl) (fun r M' hq => ?_)
            obtain ⟨rfl, rfl⟩ := hq
            change ax_J _ _ _ _ _ _ _ _ _ 63 [some (.inr (.inr (some (1, 0)))), some (.inl a), some (.inl w), some (.inl (gAs h))] [] (P, cBegin g (gAs h) 1, r0, n)
            obtain ⟨hb1, hb2, hb3, hb4, hb5, hb6, hb7⟩ := beg_all hs hm (gAs h) 1
            refine aj_run (C := True) (pc' := 64) (la' := [some (.inr (.inr (some (1, 0)))), some (.inl a), some (.inl w), some (.inl (gAs h))]) (st' := [.inr (.inr (some (1, 0)))]) (M' := (P, cBegin g (gAs h) 1, r0, n)) ok_X10_through true 1 rfl trivial ?_
            refine aj_getR (f := 1) (k := 0) (g := 2) (o := 0) (u := 0) (ax_lk_ok (q := (1, 0)) rfl) rfl rfl hs.2.2.2.1 hs.2.2.2.2 (ax_dec2 (i := .getfield 10) (n := 3) ok_X10_through rfl) ?_
            refine aj_run (C := True) (pc' := 70) (la' := [some (.inr (.inr (some (1, 0)))), some (.inl a), some (.inl w), some (.inl (gAs h))]) (st' := [.inl 200, .inr (.inr (some (2, 0)))]) (M' := (P, cBegin g (gAs h) 1, r0, n)) ok_X10_through true 1 rfl trivial ?_
            refine aj_callV (av := [.inl 200]) (st := []) (f := 2) (o := 0) (ci := 2) cal_X2_goOn lk_10_201 ins_X2_goOn rfl sel_X2_goOn rfl (fun c9 h9 _ => by simpa [ax_ok] using h9) (cp_goOn 200 0 _ _ _ _ hb1 ⟨hs.2.1.1, hs.2.1.2.1⟩ hs.2.1.2.2.1 _ hb2 hb3 hb4 (by omega) (by omega) (by omega) hb5 _ _ ⟨hs.2.2.1.1, hb6⟩ cV_n hb7) ⟨by decide, by decide, by decide, by decide⟩ (Nat.le_of_ble_eq_true rfl) (ax_dec2 (i := .invokevirtual 201) (n := 3) ok_X10_through rfl) (fun r M' hq => ?_)
            obtain ⟨rfl, g5, rfl, sm3, fr3⟩ := hq
            have fr5 : cFr TG g5 g := fun f o j q => (fr3 f o j (TGo_TG q)).trans (cBg_fr f o j q)
            have hs51 : g5 2 0 1 = g 2 0 1 := fr5 2 0 1 (by unfold TG; omega)
            have rs9 : ∀ x, 0 ≤ x → x < h 50 0 2 → g5 5 x 9 = gTh h 135 0 x := fun x z1 z2 => cSm_9 sm3 z1 (by rw [ax_u3_n (by omega), beg_sz]; exact z2)
            have rs6 : g5 2 0 6 = gTh h 50 0 40 := sm3.1.2.1.2.1
            change ax_J _ _ _ _ _ _ _ _ _ 73 [some (.inr (.inr (some (1, 0)))), some (.inl a), some (.inl w), some (.inl (gAs h))] [] (P, g5, r0, n)
            refine aj_run (C := True) (pc' := 74) (la' := [some (.inr (.inr (some (1, 0)))), some (.inl a), some (.inl w), some (.inl (gAs h))]) (st' := [.inl w]) (M' := (P, g5, r0, n)) ok_X10_through true 1 rfl trivial ?_
            refine aj_if_ne (tgt := 92) (ax_dec2 (i := .ifCond .ne 18) (n := 3) ok_X10_through rfl) (by decide) (fun c9 => ?_) (fun c9 => ?_)
            · exact absurd c9 (by omega)
            · have r9a := rs9 a (by omega) (by omega)
              refine aj_run (C := True) (pc' := 78) (la' := [some (.inr (.inr (some (1, 0)))), some (.inl a), some (.inl w), some (.inl (gAs h))]) (st' := [.inr (.inr (some (1, 0)))]) (M' := (P, g5, r0, n)) ok_X10_through true 1 rfl trivial ?_
              refine aj_getR (f := 1) (k := 0) (g := 2) (o := 0) (u := 0) (ax_lk_ok (q := (1, 0)) rfl) rfl rfl hs.2.2.2.1 hs.2.2.2.2 (ax_dec2 (i := .getfield 10) (n := 3) ok_X10_through rfl) ?_
              refine aj_run (C := True) (pc' := 85) (la' := [some (.inr (.inr (some (1, 0)))), some (.inl a), some (.inl w), some (.inl (gAs h))]) (st' := [.inl a, .inr (.inr (some (200, 0)))]) (M' := (P, g5, r0, n)) ok_X10_through true 2 rfl trivial ?_
              refine aj_aald (f := 200) (g := 5) (o := 0) (i := a) (u := a) (E := "AntsTurn$Ant") rfl rfl rfl ⟨by omega, by have z9 := hAs.1.1; show a < n 200 0; omega⟩ (hAs.2 a (by omega) (by omega)).1.1 (hAs.2 a (by omega) (by omega)).1.2 (ax_dec2 (i := .aaload) (n := 1) ok_X10_through rfl) ?_
              refine aj_run (C := True) (pc' := 99) (la' := [some (.inr (.inr (some (1, 0)))), some (.inl a), some (.inl w), some (.inl (gAs h))]) (st' := [.inl (g5 5 a 9)]) (M' := (P, g5, r0, n)) ok_X10_through true 2 rfl trivial ?_
              refine aj_ret (r := some (.inl (g5 5 a 9))) (ax_dec2 (i := .ireturn) (n := 1) ok_X10_through rfl) ⟨?_, ?_, by decide, by decide⟩ rfl
              · first | (exfalso; omega) | exact ⟨ax_si (by unfold fThr; (repeat first | rw [if_pos (by omega)] | rw [if_neg (by omega)] | rw [bI_t (by omega)] | rw [bI_f (by omega)]); try first | rfl | omega | exact ((by omega : wLik (gA h (gAs h) 135 0) (gTw h (gAs h)) (h 50 0 2) (h 50 0 2) = 0)).symm | exact ((by omega : wLik (gA h (gAs h) 135 0) (gTw h (gAs h)) (h 50 0 2) (h 50 0 2) = 1)).symm), g5, rfl, ⟨cSm_mz sm3, cCa_g fr5 hca⟩, cFr_TG fr5⟩
              · exact ax_ro_i
          · exact absurd c8 (by omega)
        · replace c7 := bI_e0 c7
          refine aj_run (C := True) (pc' := 23) (la' := [some (.inr (.inr (some (1, 0)))), some (.inl a), some (.inl w), none]) (st' := [.inl (-2)]) (M' := (P, g, r0, n)) ok_X10_through true 1 rfl trivial ?_
          refine aj_ret (r := some (.inl (-2))) (ax_dec2 (i := .ireturn) (n := 1) ok_X10_through rfl) ⟨?_, ?_, by decide, by decide⟩ rfl
          · first | (exfalso; omega) | exact ⟨ax_si (by unfold fThr; (repeat first | rw [if_pos (by omega)] | rw [if_neg (by omega)] | rw [bI_t (by omega)] | rw [bI_f (by omega)]); try first | rfl | omega | exact ((by omega : wLik (gA h (gAs h) 135 0) (gTw h (gAs h)) (h 50 0 2) (h 50 0 2) = 0)).symm | exact ((by omega : wLik (gA h (gAs h) 135 0) (gTw h (gAs h)) (h 50 0 2) (h 50 0 2) = 1)).symm), g, rfl, hd, fun _ _ _ _ => rfl⟩
          · exact ax_ro_i

