def mLens : List (Nat × Int) := [(103, 7), (104, 7), (105, 7), (106, 7), (107, 7), (108, 160), (112, 2880), (113, 18), (118, 50), (119, 13), (120, 170), (124, 8), (127, 170), (128, 6), (129, 7), (130, 7), (131, 7), (132, 7), (133, 7), (134, 7), (135, 7), (136, 7), (137, 7), (138, 7), (143, 7), (144, 7), (145, 7), (151, 7), (152, 7), (153, 7), (154, 7), (155, 4), (156, 4), (157, 160), (158, 40)]
def mLen (n : Nat → Int → Int) : Prop := ∀ q ∈ mLens, n q.1 0 = q.2
theorem ax_si {x y : Int} (h : x = y) : (some (.inl x) : Option ax_V) = some (.inl y) := by rw [h]
def wTurns (k met num : Int) : Int := if k = 1 then 0 else if k = 3 then bI (met < num) else if k = 4 then bI (met ≠ num) else 1
def wBacks (k ended num : Int) : Int := if k = 2 then bI (ended < num) else if k = 4 then bI (ended < num ∨ ended = 0) else if k = 5 then bI (ended < num ∧ Int.tmod ended 2 = 0) else 0
def wWeighs (k num : Int) : Int := if k = 0 then num else if k = 1 then num + 1 else if k = 2 then Int.tdiv num 2 else if k = 3 then 2 * (num + 1) else if k = 4 then Int.tdiv num 2 + 3 else Int.tdiv num 2 + num
theorem wTurns_01 {k met num : Int} : wTurns k met num = 0 ∨ wTurns k met num = 1 := by
  unfold wTurns; repeat' split
  all_goals first | exact bI_01 | simp
theorem wBacks_01 {k met num : Int} : wBacks k met num = 0 ∨ wBacks k met num = 1 := by
  unfold wBacks; repeat' split
  all_goals first | exact bI_01 | simp
theorem td2 {x : Int} (h : 0 ≤ x ∧ x ≤ 9) : Int.tdiv x 2 = x / 2 := Int.tdiv_eq_ediv_of_nonneg h.1
/-- how a binary operation of a text goes (10 or, 11 and, 13 lower, 14 same, 15 plus, 16 less, 17 times) -/
def wDone (op a b : Int) : Int := if op = 15 then Int.bmod (a + b) 4294967296 else if op = 16 then Int.bmod (a - b) 4294967296 else if op = 17 then Int.bmod (a * b) 4294967296 else if op = 13 then bI (a < b) else if op = 14 then bI (a = b) else if op = 11 then bI (a ≠ 0 ∧ b ≠ 0) else bI (a ≠ 0 ∨ b ≠ 0)
set_option maxRecDepth 100000 in
set_option maxHeartbeats 4000000 in
theorem sp_turns (a : Int) (P : Nat → Int → Prop) (g : Nat → Int → Int → Int) (r0 : Nat → Int → Int → Option (Nat × Int)) (n : Nat → Int → Int) (hn : mLen n) (ha : 0 ≤ a ∧ a < 7) : ax_S yX11_turns cX11_turns 2 (some FieldType.boolean) 0 0 0 [.inr (.inr (some (50, 0))), .inl a] (P, g, r0, n) (fun r M' => r = some (.inl (wTurns (g 103 0 a) (g 131 0 a) (g 107 0 a))) ∧ M' = (P, g, r0, n)) := by
  have n103 : n 103 0 = 7 := hn (103, 7) (by decide)
  have n131 : n 131 0 = 7 := hn (131, 7) (by decide)
  have n107 : n 107 0 = 7 := hn (107, 7) (by decide)
  refine ax_S_of (own := 11) (by decide) rfl (fun h => absurd h (by decide)) rfl (Nat.le_of_ble_eq_true rfl) ?_
  change ax_J _ _ _ _ _ _ _ _ _ _ [some (.inr (.inr (some (50, 0)))), some (.inl a)] _ _
  refine aj_run (C := (0 ≤ a ∧ a < n 103 0) ∧ True) (pc' := 6) (la' := [some (.inr (.inr (some (50, 0)))), some (.inl a)]) (st' := [.inl (g 103 0 a)]) (M' := (P, g, r0, n)) ok_X11_turns true 4 rfl (by refine ⟨?_, trivial⟩ <;> (omega)) ?_
  by_cases s1 : g 103 0 a = 1
  · refine aj_tsw (tgt := 36) (ax_dec2 (i := .tableswitch 74 1 4 #[30, 74, 32, 53]) (n := 30) ok_X11_turns rfl) (by decide) (by rw [s1]; decide) ?_
    refine aj_run (C := True) (pc' := 37) (la' := [some (.inr (.inr (some (50, 0)))), some (.inl a)]) (st' := [.inl 0]) (M' := (P, g, r0, n)) ok_X11_turns true 1 rfl trivial ?_
    refine aj_ret (r := some (.inl 0)) (ax_dec2 (i := .ireturn) (n := 1) ok_X11_turns rfl) ⟨?_, ?_, by decide, by decide⟩ rfl
    · exact ⟨ax_si (by unfold wTurns; (repeat first | rw [if_pos (by omega)] | rw [if_neg (by omega)] | rw [bI_t (by omega)] | rw [bI_f (by omega)]); try first | rfl | omega), rfl⟩
    · exact ax_ro_b (by first | decide | exact bI_01)
  by_cases s2 : g 103 0 a = 2
  · refine aj_tsw (tgt := 80) (ax_dec2 (i := .tableswitch 74 1 4 #[30, 74, 32, 53]) (n := 30) ok_X11_turns rfl) (by decide) (by rw [s2]; decide) ?_
    refine aj_run (C := True) (pc' := 81) (la' := [some (.inr (.inr (some (50, 0)))), some (.inl a)]) (st' := [.inl 1]) (M' := (P, g, r0, n)) ok_X11_turns true 1 rfl trivial ?_
    refine aj_ret (r := some (.inl 1)) (ax_dec2 (i := .ireturn) (n := 1) ok_X11_turns rfl) ⟨?_, ?_, by decide, by decide⟩ rfl
    · exact ⟨ax_si (by unfold wTurns; (repeat first | rw [if_pos (by omega)] | rw [if_neg (by omega)] | rw [bI_t (by omega)] | rw [bI_f (by omega)]); try first | rfl | omega), rfl⟩
    · exact ax_ro_b (by first | decide | exact bI_01)
  by_cases s3 : g 103 0 a = 3
  · refine aj_tsw (tgt := 38) (ax_dec2 (i := .tableswitch 74 1 4 #[30, 74, 32, 53]) (n := 30) ok_X11_turns rfl) (by decide) (by rw [s3]; decide) ?_
    refine aj_run (C := (0 ≤ a ∧ a < n 131 0) ∧ (0 ≤ a ∧ a < n 107 0) ∧ True) (pc' := 50) (la' := [some (.inr (.inr (some (50, 0)))), some (.inl a)]) (st' := [.inl (g 107 0 a), .inl (g 131 0 a)]) (M' := (P, g, r0, n)) ok_X11_turns true 8 rfl (by refine ⟨?_, ?_, trivial⟩ <;> (omega)) ?_
    refine aj_icmp_ge (tgt := 57) (ax_dec2 (i := .if_icmp .ge 7) (n := 3) ok_X11_turns rfl) (by decide) (fun c4 => ?_) (fun c4 => ?_)
    · refine aj_run (C := True) (pc' := 58) (la' := [some (.inr (.inr (some (50, 0)))), some (.inl a)]) (st' := [.inl 0]) (M' := (P, g, r0, n)) ok_X11_turns true 1 rfl trivial ?_
      refine aj_ret (r := some (.inl 0)) (ax_dec2 (i := .ireturn) (n := 1) ok_X11_turns rfl) ⟨?_, ?_, by decide, by decide⟩ rfl
      · exact ⟨ax_si (by unfold wTurns; (repeat first | rw [if_pos (by omega)] | rw [if_neg (by omega)] | rw [bI_t (by omega)] | rw [bI_f (by omega)]); try first | rfl | omega), rfl⟩
      · exact ax_ro_b (by first | decide | exact bI_01)
    · refine aj_run (C := True) (pc' := 58) (la' := [some (.inr (.inr (some (50, 0)))), some (.inl a)]) (st' := [.inl 1]) (M' := (P, g, r0, n)) ok_X11_turns true 2 rfl trivial ?_
      refine aj_ret (r := some (.inl 1)) (ax_dec2 (i := .ireturn) (n := 1) ok_X11_turns rfl) ⟨?_, ?_, by decide, by decide⟩ rfl
      · exact ⟨ax_si (by unfold wTurns; (repeat first | rw [if_pos (by omega)] | rw [if_neg (by omega)] | rw [bI_t (by omega)] | rw [bI_f (by omega)]); try first | rfl | omega), rfl⟩
      · exact ax_ro_b (by first | decide | exact bI_01)
  by_cases s5 : g 103 0 a = 4
  · refine aj_tsw (tgt := 59) (ax_dec2 (i := .tableswitch 74 1 4 #[30, 74, 32, 53]) (n := 30) ok_X11_turns rfl) (by decide) (by rw [s5]; decide) ?_
    refine aj_run (C := (0 ≤ a ∧ a < n 131 0) ∧ (0 ≤ a ∧ a < n 107 0) ∧ True) (pc' := 71) (la' := [some (.inr (.inr (some (50, 0)))), some (.inl a)]) (st' := [.inl (g 107 0 a), .inl (g 131 0 a)]) (M' := (P, g, r0, n)) ok_X11_turns true 8 rfl (by refine ⟨?_, ?_, trivial⟩ <;> (omega)) ?_
    refine aj_icmp_eq (tgt := 78) (ax_dec2 (i := .if_icmp .eq 7) (n := 3) ok_X11_turns rfl) (by decide) (fun c6 => ?_) (fun c6 => ?_)
    · refine aj_run (C := True) (pc' := 79) (la' := [some (.inr (.inr (some (50, 0)))), some (.inl a)]) (st' := [.inl 0]) (M' := (P, g, r0, n)) ok_X11_turns true 1 rfl trivial ?_
      refine aj_ret (r := some (.inl 0)) (ax_dec2 (i := .ireturn) (n := 1) ok_X11_turns rfl) ⟨?_, ?_, by decide, by decide⟩ rfl
      · exact ⟨ax_si (by unfold wTurns; (repeat first | rw [if_pos (by omega)] | rw [if_neg (by omega)] | rw [bI_t (by omega)] | rw [bI_f (by omega)]); try first | rfl | omega), rfl⟩
      · exact ax_ro_b (by first | decide | exact bI_01)
    · refine aj_run (C := True) (pc' := 79) (la' := [some (.inr (.inr (some (50, 0)))), some (.inl a)]) (st' := [.inl 1]) (M' := (P, g, r0, n)) ok_X11_turns true 2 rfl trivial ?_
      refine aj_ret (r := some (.inl 1)) (ax_dec2 (i := .ireturn) (n := 1) ok_X11_turns rfl) ⟨?_, ?_, by decide, by decide⟩ rfl
      · exact ⟨ax_si (by unfold wTurns; (repeat first | rw [if_pos (by omega)] | rw [if_neg (by omega)] | rw [bI_t (by omega)] | rw [bI_f (by omega)]); try first | rfl | omega), rfl⟩
      · exact ax_ro_b (by first | decide | exact bI_01)
  refine aj_tsw (tgt := 80) (ax_dec2 (i := .tableswitch 74 1 4 #[30, 74, 32, 53]) (n := 30) ok_X11_turns rfl) (by decide) (by rw [ax_tsw_d (g 103 0 a) (by decide) (by decide) (by omega)]; decide) ?_
  refine aj_run (C := True) (pc' := 81) (la' := [some (.inr (.inr (some (50, 0)))), some (.inl a)]) (st' := [.inl 1]) (M' := (P, g, r0, n)) ok_X11_turns true 1 rfl trivial ?_
  refine aj_ret (r := some (.inl 1)) (ax_dec2 (i := .ireturn) (n := 1) ok_X11_turns rfl) ⟨?_, ?_, by decide, by decide⟩ rfl
  · exact ⟨ax_si (by unfold wTurns; (repeat first | rw [if_pos (by omega)] | rw [if_neg (by omega)] | rw [bI_t (by omega)] | rw [bI_f (by omega)]); try first | rfl | omega), rfl⟩
  · exact ax_ro_b (by first | decide | exact bI_01)

set_option maxRecDepth 100000 in
set_option maxHeartbeats 4000000 in
theorem sp_backs (a : Int) (P : Nat → Int → Prop) (g : Nat → Int → Int → Int) (r0 : Nat → Int → Int → Option (Nat × Int)) (n : Nat → Int → Int) (hn : mLen n) (ha : 0 ≤ a ∧ a < 7) : ax_S yX11_backs cX11_backs 3 (some FieldType.boolean) 0 0 0 [.inr (.inr (some (50, 0))), .inl a] (P, g, r0, n) (fun r M' => r = some (.inl (wBacks (g 103 0 a) (g 133 0 a) (g 107 0 a))) ∧ M' = (P, g, r0, n)) := by
  have n133 : n 133 0 = 7 := hn (133, 7) (by decide)
  have n107 : n 107 0 = 7 := hn (107, 7) (by decide)
  have n103 : n 103 0 = 7 := hn (103, 7) (by decide)
  refine ax_S_of (own := 11) (by decide) rfl (fun h => absurd h (by decide)) rfl (Nat.le_of_ble_eq_true rfl) ?_
  change ax_J _ _ _ _ _ _ _ _ _ _ [some (.inr (.inr (some (50, 0)))), some (.inl a), none] _ _
  refine aj_run (C := (0 ≤ a ∧ a < n 133 0) ∧ (0 ≤ a ∧ a < n 107 0) ∧ True) (pc' := 12) (la' := [some (.inr (.inr (some (50, 0)))), some (.inl a), none]) (st' := [.inl (g 107 0 a), .inl (g 133 0 a)]) (M' := (P, g, r0, n)) ok_X11_backs true 8 rfl (by refine ⟨?_, ?_, trivial⟩ <;> (omega)) ?_
  refine aj_icmp_ge (tgt := 19) (ax_dec2 (i := .if_icmp .ge 7) (n := 3) ok_X11_backs rfl) (by decide) (fun c1 => ?_) (fun c1 => ?_)
  · refine aj_run (C := (0 ≤ a ∧ a < n 103 0) ∧ True) (pc' := 27) (la' := [some (.inr (.inr (some (50, 0)))), some (.inl a), some (.inl 0)]) (st' := [.inl (g 103 0 a)]) (M' := (P, g, r0, n)) ok_X11_backs true 6 rfl (by refine ⟨?_, trivial⟩ <;> (omega)) ?_
    by_cases s2 : g 103 0 a = 2
    · refine aj_tsw (tgt := 56) (ax_dec2 (i := .tableswitch 71 2 5 #[29, 71, 31, 50]) (n := 29) ok_X11_backs rfl) (by decide) (by rw [s2]; decide) ?_
      refine aj_run (C := True) (pc' := 57) (la' := [some (.inr (.inr (some (50, 0)))), some (.inl a), some (.inl 0)]) (st' := [.inl 0]) (M' := (P, g, r0, n)) ok_X11_backs true 1 rfl trivial ?_
      refine aj_ret (r := some (.inl 0)) (ax_dec2 (i := .ireturn) (n := 1) ok_X11_backs rfl) ⟨?_, ?_, by decide, by decide⟩ rfl
      · exact ⟨ax_si (by unfold wBacks; (repeat first | rw [if_pos (by omega)] | rw [if_neg (by omega)] | rw [bI_t (by omega)] | rw [bI_f (by omega)]); try first | rfl | omega), rfl⟩
      · exact ax_ro_b (by first | decide | exact bI_01)
    by_cases s3 : g 103 0 a = 3
    · refine aj_tsw (tgt := 98) (ax_dec2 (i := .tableswitch 71 2 5 #[29, 71, 31, 50]) (n := 29) ok_X11_backs rfl) (by decide) (by rw [s3]; decide) ?_
      refine aj_run (C := True) (pc' := 99) (la' := [some (.inr (.inr (some (50, 0)))), some (.inl a), some (.inl 0)]) (st' := [.inl 0]) (M' := (P, g, r0, n)) ok_X11_backs true 1 rfl trivial ?_
      refine aj_ret (r := some (.inl 0)) (ax_dec2 (i := .ireturn) (n := 1) ok_X11_backs rfl) ⟨?_, ?_, by decide, by decide⟩ rfl
      · exact ⟨ax_si (by unfold wBacks; (repeat first | rw [if_pos (by omega)] | rw [if_neg (by omega)] | rw [bI_t (by omega)] | rw [bI_f (by omega)]); try first | rfl | omega), rfl⟩
      · exact ax_ro_b (by first | decide | exact bI_01)
    by_cases s4 : g 103 0 a = 4
    · refine aj_tsw (tgt := 58) (ax_dec2 (i := .tableswitch 71 2 5 #[29, 71, 31, 50]) (n := 29) ok_X11_backs rfl) (by decide) (by rw [s4]; decide) ?_
      refine aj_run (C := True) (pc' := 59) (la' := [some (.inr (.inr (some (50, 0)))), some (.inl a), some (.inl 0)]) (st' := [.inl 0]) (M' := (P, g, r0, n)) ok_X11_backs true 1 rfl trivial ?_
      refine aj_if_ne (tgt := 71) (ax_dec2 (i := .ifCond .ne 12) (n := 3) ok_X11_backs rfl) (by decide) (fun c5 => ?_) (fun c5 => ?_)
      · refine aj_run (C := True) (pc' := 76) (la' := [some (.inr (.inr (some (50, 0)))), some (.inl a), some (.inl 0)]) (st' := [.inl 1]) (M' := (P, g, r0, n)) ok_X11_backs true 2 rfl trivial ?_
        refine aj_ret (r := some (.inl 1)) (ax_dec2 (i := .ireturn) (n := 1) ok_X11_backs rfl) ⟨?_, ?_, by decide, by decide⟩ rfl
        · exact ⟨ax_si (by unfold wBacks; (repeat first | rw [if_pos (by omega)] | rw [if_neg (by omega)] | rw [bI_t (by omega)] | rw [bI_f (by omega)]); try first | rfl | omega), rfl⟩
        · exact ax_ro_b (by first | decide | exact bI_01)
      · refine aj_run (C := (0 ≤ a ∧ a < n 133 0) ∧ True) (pc' := 68) (la' := [some (.inr (.inr (some (50, 0)))), some (.inl a), some (.inl 0)]) (st' := [.inl (g 133 0 a)]) (M' := (P, g, r0, n)) ok_X11_backs true 4 rfl (by refine ⟨?_, trivial⟩ <;> (omega)) ?_
        refine aj_if_ne (tgt := 75) (ax_dec2 (i := .ifCond .ne 7) (n := 3) ok_X11_backs rfl) (by decide) (fun c6 => ?_) (fun c6 => ?_)
        · refine aj_run (C := True) (pc' := 76) (la' := [some (.inr (.inr (some (50, 0)))), some (.inl a), some (.inl 0)]) (st' := [.inl 0]) (M' := (P, g, r0, n)) ok_X11_backs true 1 rfl trivial ?_
          refine aj_ret (r := some (.inl 0)) (ax_dec2 (i := .ireturn) (n := 1) ok_X11_backs rfl) ⟨?_, ?_, by decide, by decide⟩ rfl
          · exact ⟨ax_si (by unfold wBacks; (repeat first | rw [if_pos (by omega)] | rw [if_neg (by omega)] | rw [bI_t (by omega)] | rw [bI_f (by omega)]); try first | rfl | omega), rfl⟩
          · exact ax_ro_b (by first | decide | exact bI_01)
        · refine aj_run (C := True) (pc' := 76) (la' := [some (.inr (.inr (some (50, 0)))), some (.inl a), some (.inl 0)]) (st' := [.inl 1]) (M' := (P, g, r0, n)) ok_X11_backs true 2 rfl trivial ?_
          refine aj_ret (r := some (.inl 1)) (ax_dec2 (i := .ireturn) (n := 1) ok_X11_backs rfl) ⟨?_, ?_, by decide, by decide⟩ rfl
          · exact ⟨ax_si (by unfold wBacks; (repeat first | rw [if_pos (by omega)] | rw [if_neg (by omega)] | rw [bI_t (by omega)] | rw [bI_f (by omega)]); try first | rfl | omega), rfl⟩
          · exact ax_ro_b (by first | decide | exact bI_01)
    by_cases s7 : g 103 0 a = 5
    · refine aj_tsw (tgt := 77) (ax_dec2 (i := .tableswitch 71 2 5 #[29, 71, 31, 50]) (n := 29) ok_X11_backs rfl) (by decide) (by rw [s7]; decide) ?_
      refine aj_run (C := True) (pc' := 78) (la' := [some (.inr (.inr (some (50, 0)))), some (.inl a), some (.inl 0)]) (st' := [.inl 0]) (M' := (P, g, r0, n)) ok_X11_backs true 1 rfl trivial ?_
      refine aj_if_eq (tgt := 96) (ax_dec2 (i := .ifCond .eq 18) (n := 3) ok_X11_backs rfl) (by decide) (fun c8 => ?_) (fun c8 => ?_)
      · refine aj_run (C := True) (pc' := 97) (la' := [some (.inr (.inr (some (50, 0)))), some (.inl a), some (.inl 0)]) (st' := [.inl 0]) (M' := (P, g, r0, n)) ok_X11_backs true 1 rfl trivial ?_
        refine aj_ret (r := some (.inl 0)) (ax_dec2 (i := .ireturn) (n := 1) ok_X11_backs rfl) ⟨?_, ?_, by decide, by decide⟩ rfl
        · exact ⟨ax_si (by unfold wBacks; (repeat first | rw [if_pos (by omega)] | rw [if_neg (by omega)] | rw [bI_t (by omega)] | rw [bI_f (by omega)]); try first | rfl | omega), rfl⟩
        · exact ax_ro_b (by first | decide | exact bI_01)
      · refine aj_run (C := (0 ≤ a ∧ a < n 133 0) ∧ (0 < 2) ∧ True) (pc' := 89) (la' := [some (.inr (.inr (some (50, 0)))), some (.inl a), some (.inl 0)]) (st' := [.inl (Int.tmod (g 133 0 a) 2)]) (M' := (P, g, r0, n)) ok_X11_backs true 6 rfl (by refine ⟨?_, ?_, trivial⟩ <;> (omega)) ?_
        refine aj_if_ne (tgt := 96) (ax_dec2 (i := .ifCond .ne 7) (n := 3) ok_X11_backs rfl) (by decide) (fun c9 => ?_) (fun c9 => ?_)
        · refine aj_run (C := True) (pc' := 97) (la' := [some (.inr (.inr (some (50, 0)))), some (.inl a), some (.inl 0)]) (st' := [.inl 0]) (M' := (P, g, r0, n)) ok_X11_backs true 1 rfl trivial ?_
          refine aj_ret (r := some (.inl 0)) (ax_dec2 (i := .ireturn) (n := 1) ok_X11_backs rfl) ⟨?_, ?_, by decide, by decide⟩ rfl
          · exact ⟨ax_si (by unfold wBacks; (repeat first | rw [if_pos (by omega)] | rw [if_neg (by omega)] | rw [bI_t (by omega)] | rw [bI_f (by omega)]); try first | rfl | omega), rfl⟩
          · exact ax_ro_b (by first | decide | exact bI_01)
        · refine aj_run (C := True) (pc' := 97) (la' := [some (.inr (.inr (some (50, 0)))), some (.inl a), some (.inl 0)]) (st' := [.inl 1]) (M' := (P, g, r0, n)) ok_X11_backs true 2 rfl trivial ?_
          refine aj_ret (r := some (.inl 1)) (ax_dec2 (i := .ireturn) (n := 1) ok_X11_backs rfl) ⟨?_, ?_, by decide, by decide⟩ rfl
          · exact ⟨ax_si (by unfold wBacks; (repeat first | rw [if_pos (by omega)] | rw [if_neg (by omega)] | rw [bI_t (by omega)] | rw [bI_f (by omega)]); try first | rfl | omega), rfl⟩
          · exact ax_ro_b (by first | decide | exact bI_01)
    refine aj_tsw (tgt := 98) (ax_dec2 (i := .tableswitch 71 2 5 #[29, 71, 31, 50]) (n := 29) ok_X11_backs rfl) (by decide) (by rw [ax_tsw_d (g 103 0 a) (by decide) (by decide) (by omega)]; decide) ?_
    refine aj_run (C := True) (pc' := 99) (la' := [some (.inr (.inr (some (50, 0)))), some (.inl a), some (.inl 0)]) (st' := [.inl 0]) (M' := (P, g, r0, n)) ok_X11_backs true 1 rfl trivial ?_
    refine aj_ret (r := some (.inl 0)) (ax_dec2 (i := .ireturn) (n := 1) ok_X11_backs rfl) ⟨?_, ?_, by decide, by decide⟩ rfl
    · exact ⟨ax_si (by unfold wBacks; (repeat first | rw [if_pos (by omega)] | rw [if_neg (by omega)] | rw [bI_t (by omega)] | rw [bI_f (by omega)]); try first | rfl | omega), rfl⟩
    · exact ax_ro_b (by first | decide | exact bI_01)
  · refine aj_run (C := (0 ≤ a ∧ a < n 103 0) ∧ True) (pc' := 27) (la' := [some (.inr (.inr (some (50, 0)))), some (.inl a), some (.inl 1)]) (st' := [.inl (g 103 0 a)]) (M' := (P, g, r0, n)) ok_X11_backs true 7 rfl (by refine ⟨?_, trivial⟩ <;> (omega)) ?_
    by_cases s10 : g 103 0 a = 2
    · refine aj_tsw (tgt := 56) (ax_dec2 (i := .tableswitch 71 2 5 #[29, 71, 31, 50]) (n := 29) ok_X11_backs rfl) (by decide) (by rw [s10]; decide) ?_
      refine aj_run (C := True) (pc' := 57) (la' := [some (.inr (.inr (some (50, 0)))), some (.inl a), some (.inl 1)]) (st' := [.inl 1]) (M' := (P, g, r0, n)) ok_X11_backs true 1 rfl trivial ?_
      refine aj_ret (r := some (.inl 1)) (ax_dec2 (i := .ireturn) (n := 1) ok_X11_backs rfl) ⟨?_, ?_, by decide, by decide⟩ rfl
      · exact ⟨ax_si (by unfold wBacks; (repeat first | rw [if_pos (by omega)] | rw [if_neg (by omega)] | rw [bI_t (by omega)] | rw [bI_f (by omega)]); try first | rfl | omega), rfl⟩
      · exact ax_ro_b (by first | decide | exact bI_01)
    by_cases s11 : g 103 0 a = 3
    · refine aj_tsw (tgt := 98) (ax_dec2 (i := .tableswitch 71 2 5 #[29, 71, 31, 50]) (n := 29) ok_X11_backs rfl) (by decide) (by rw [s11]; decide) ?_
      refine aj_run (C := True) (pc' := 99) (la' := [some (.inr (.inr (some (50, 0)))), some (.inl a), some (.inl 1)]) (st' := [.inl 0]) (M' := (P, g, r0, n)) ok_X11_backs true 1 rfl trivial ?_
      refine aj_ret (r := some (.inl 0)) (ax_dec2 (i := .ireturn) (n := 1) ok_X11_backs rfl) ⟨?_, ?_, by decide, by decide⟩ rfl
      · exact ⟨ax_si (by unfold wBacks; (repeat first | rw [if_pos (by omega)] | rw [if_neg (by omega)] | rw [bI_t (by omega)] | rw [bI_f (by omega)]); try first | rfl | omega), rfl⟩
      · exact ax_ro_b (by first | decide | exact bI_01)
    by_cases s12 : g 103 0 a = 4
    · refine aj_tsw (tgt := 58) (ax_dec2 (i := .tableswitch 71 2 5 #[29, 71, 31, 50]) (n := 29) ok_X11_backs rfl) (by decide) (by rw [s12]; decide) ?_
      refine aj_run (C := True) (pc' := 59) (la' := [some (.inr (.inr (some (50, 0)))), some (.inl a), some (.inl 1)]) (st' := [.inl 1]) (M' := (P, g, r0, n)) ok_X11_backs true 1 rfl trivial ?_
      refine aj_if_ne (tgt := 71) (ax_dec2 (i := .ifCond .ne 12) (n := 3) ok_X11_backs rfl) (by decide) (fun c13 => ?_) (fun c13 => ?_)
      · refine aj_run (C := True) (pc' := 76) (la' := [some (.inr (.inr (some (50, 0)))), some (.inl a), some (.inl 1)]) (st' := [.inl 1]) (M' := (P, g, r0, n)) ok_X11_backs true 2 rfl trivial ?_
        refine aj_ret (r := some (.inl 1)) (ax_dec2 (i := .ireturn) (n := 1) ok_X11_backs rfl) ⟨?_, ?_, by decide, by decide⟩ rfl
        · exact ⟨ax_si (by unfold wBacks; (repeat first | rw [if_pos (by omega)] | rw [if_neg (by omega)] | rw [bI_t (by omega)] | rw [bI_f (by omega)]); try first | rfl | omega), rfl⟩
        · exact ax_ro_b (by first | decide | exact bI_01)
      · refine aj_run (C := (0 ≤ a ∧ a < n 133 0) ∧ True) (pc' := 68) (la' := [some (.inr (.inr (some (50, 0)))), some (.inl a), some (.inl 1)]) (st' := [.inl (g 133 0 a)]) (M' := (P, g, r0, n)) ok_X11_backs true 4 rfl (by refine ⟨?_, trivial⟩ <;> (omega)) ?_
        refine aj_if_ne (tgt := 75) (ax_dec2 (i := .ifCond .ne 7) (n := 3) ok_X11_backs rfl) (by decide) (fun c14 => ?_) (fun c14 => ?_)
        · refine aj_run (C := True) (pc' := 76) (la' := [some (.inr (.inr (some (50, 0)))), some (.inl a), some (.inl 1)]) (st' := [.inl 0]) (M' := (P, g, r0, n)) ok_X11_backs true 1 rfl trivial ?_
          refine aj_ret (r := some (.inl 0)) (ax_dec2 (i := .ireturn) (n := 1) ok_X11_backs rfl) ⟨?_, ?_, by decide, by decide⟩ rfl
          · exact ⟨ax_si (by unfold wBacks; (repeat first | rw [if_pos (by omega)] | rw [if_neg (by omega)] | rw [bI_t (by omega)] | rw [bI_f (by omega)]); try first | rfl | omega), rfl⟩
          · exact ax_ro_b (by first | decide | exact bI_01)
        · refine aj_run (C := True) (pc' := 76) (la' := [some (.inr (.inr (some (50, 0)))), some (.inl a), some (.inl 1)]) (st' := [.inl 1]) (M' := (P, g, r0, n)) ok_X11_backs true 2 rfl trivial ?_
          refine aj_ret (r := some (.inl 1)) (ax_dec2 (i := .ireturn) (n := 1) ok_X11_backs rfl) ⟨?_, ?_, by decide, by decide⟩ rfl
          · exact ⟨ax_si (by unfold wBacks; (repeat first | rw [if_pos (by omega)] | rw [if_neg (by omega)] | rw [bI_t (by omega)] | rw [bI_f (by omega)]); try first | rfl | omega), rfl⟩
          · exact ax_ro_b (by first | decide | exact bI_01)
    by_cases s15 : g 103 0 a = 5
    · refine aj_tsw (tgt := 77) (ax_dec2 (i := .tableswitch 71 2 5 #[29, 71, 31, 50]) (n := 29) ok_X11_backs rfl) (by decide) (by rw [s15]; decide) ?_
      refine aj_run (C := True) (pc' := 78) (la' := [some (.inr (.inr (some (50, 0)))), some (.inl a), some (.inl 1)]) (st' := [.inl 1]) (M' := (P, g, r0, n)) ok_X11_backs true 1 rfl trivial ?_
      refine aj_if_eq (tgt := 96) (ax_dec2 (i := .ifCond .eq 18) (n := 3) ok_X11_backs rfl) (by decide) (fun c16 => ?_) (fun c16 => ?_)
      · refine aj_run (C := True) (pc' := 97) (la' := [some (.inr (.inr (some (50, 0)))), some (.inl a), some (.inl 1)]) (st' := [.inl 0]) (M' := (P, g, r0, n)) ok_X11_backs true 1 rfl trivial ?_
        refine aj_ret (r := some (.inl 0)) (ax_dec2 (i := .ireturn) (n := 1) ok_X11_backs rfl) ⟨?_, ?_, by decide, by decide⟩ rfl
        · exact ⟨ax_si (by unfold wBacks; (repeat first | rw [if_pos (by omega)] | rw [if_neg (by omega)] | rw [bI_t (by omega)] | rw [bI_f (by omega)]); try first | rfl | omega), rfl⟩
        · exact ax_ro_b (by first | decide | exact bI_01)
      · refine aj_run (C := (0 ≤ a ∧ a < n 133 0) ∧ (0 < 2) ∧ True) (pc' := 89) (la' := [some (.inr (.inr (some (50, 0)))), some (.inl a), some (.inl 1)]) (st' := [.inl (Int.tmod (g 133 0 a) 2)]) (M' := (P, g, r0, n)) ok_X11_backs true 6 rfl (by refine ⟨?_, ?_, trivial⟩ <;> (omega)) ?_
        refine aj_if_ne (tgt := 96) (ax_dec2 (i := .ifCond .ne 7) (n := 3) ok_X11_backs rfl) (by decide) (fun c17 => ?_) (fun c17 => ?_)
        · refine aj_run (C := True) (pc' := 97) (la' := [some (.inr (.inr (some (50, 0)))), some (.inl a), some (.inl 1)]) (st' := [.inl 0]) (M' := (P, g, r0, n)) ok_X11_backs true 1 rfl trivial ?_
          refine aj_ret (r := some (.inl 0)) (ax_dec2 (i := .ireturn) (n := 1) ok_X11_backs rfl) ⟨?_, ?_, by decide, by decide⟩ rfl
          · exact ⟨ax_si (by unfold wBacks; (repeat first | rw [if_pos (by omega)] | rw [if_neg (by omega)] | rw [bI_t (by omega)] | rw [bI_f (by omega)]); try first | rfl | omega), rfl⟩
          · exact ax_ro_b (by first | decide | exact bI_01)
        · refine aj_run (C := True) (pc' := 97) (la' := [some (.inr (.inr (some (50, 0)))), some (.inl a), some (.inl 1)]) (st' := [.inl 1]) (M' := (P, g, r0, n)) ok_X11_backs true 2 rfl trivial ?_
          refine aj_ret (r := some (.inl 1)) (ax_dec2 (i := .ireturn) (n := 1) ok_X11_backs rfl) ⟨?_, ?_, by decide, by decide⟩ rfl
          · exact ⟨ax_si (by unfold wBacks; (repeat first | rw [if_pos (by omega)] | rw [if_neg (by omega)] | rw [bI_t (by omega)] | rw [bI_f (by omega)]); try first | rfl | omega), rfl⟩
          · exact ax_ro_b (by first | decide | exact bI_01)
    refine aj_tsw (tgt := 98) (ax_dec2 (i := .tableswitch 71 2 5 #[29, 71, 31, 50]) (n := 29) ok_X11_backs rfl) (by decide) (by rw [ax_tsw_d (g 103 0 a) (by decide) (by decide) (by omega)]; decide) ?_
    refine aj_run (C := True) (pc' := 99) (la' := [some (.inr (.inr (some (50, 0)))), some (.inl a), some (.inl 1)]) (st' := [.inl 0]) (M' := (P, g, r0, n)) ok_X11_backs true 1 rfl trivial ?_
    refine aj_ret (r := some (.inl 0)) (ax_dec2 (i := .ireturn) (n := 1) ok_X11_backs rfl) ⟨?_, ?_, by decide, by decide⟩ rfl
    · exact ⟨ax_si (by unfold wBacks; (repeat first | rw [if_pos (by omega)] | rw [if_neg (by omega)] | rw [bI_t (by omega)] | rw [bI_f (by omega)]); try first | rfl | omega), rfl⟩
    · exact ax_ro_b (by first | decide | exact bI_01)

set_option maxRecDepth 100000 in
set_option maxHeartbeats 4000000 in
theorem sp_weighs (a : Int) (P : Nat → Int → Prop) (g : Nat → Int → Int → Int) (r0 : Nat → Int → Int → Option (Nat × Int)) (n : Nat → Int → Int) (hn : mLen n) (ha : 0 ≤ a ∧ a < 7) (hN : 0 ≤ g 107 0 a ∧ g 107 0 a ≤ 9) : ax_S yX11_weighs cX11_weighs 3 (some FieldType.int) 0 0 0 [.inr (.inr (some (50, 0))), .inl a] (P, g, r0, n) (fun r M' => r = some (.inl (wWeighs (g 103 0 a) (g 107 0 a))) ∧ M' = (P, g, r0, n)) := by
  have n107 : n 107 0 = 7 := hn (107, 7) (by decide)
  have n103 : n 103 0 = 7 := hn (103, 7) (by decide)
  refine ax_S_of (own := 11) (by decide) rfl (fun h => absurd h (by decide)) rfl (Nat.le_of_ble_eq_true rfl) ?_
  change ax_J _ _ _ _ _ _ _ _ _ _ [some (.inr (.inr (some (50, 0)))), some (.inl a), none] _ _
  refine aj_run (C := (0 ≤ a ∧ a < n 107 0) ∧ (0 ≤ a ∧ a < n 103 0) ∧ True) (pc' := 13) (la' := [some (.inr (.inr (some (50, 0)))), some (.inl a), some (.inl (g 107 0 a))]) (st' := [.inl (g 103 0 a)]) (M' := (P, g, r0, n)) ok_X11_weighs true 9 rfl (by refine ⟨?_, ?_, trivial⟩ <;> (first | omega | (have := td2 hN; omega))) ?_
  by_cases s1 : g 103 0 a = 0
  · refine aj_tsw (tgt := 48) (ax_dec2 (i := .tableswitch 57 0 4 #[35, 37, 41, 45, 51]) (n := 35) ok_X11_weighs rfl) (by decide) (by rw [s1]; decide) ?_
    refine aj_run (C := True) (pc' := 49) (la' := [some (.inr (.inr (some (50, 0)))), some (.inl a), some (.inl (g 107 0 a))]) (st' := [.inl (g 107 0 a)]) (M' := (P, g, r0, n)) ok_X11_weighs true 1 rfl trivial ?_
    refine aj_ret (r := some (.inl (g 107 0 a))) (ax_dec2 (i := .ireturn) (n := 1) ok_X11_weighs rfl) ⟨?_, ?_, by decide, by decide⟩ rfl
    · exact ⟨ax_si (by unfold wWeighs; (repeat first | rw [if_pos (by omega)] | rw [if_neg (by omega)] | rw [bI_t (by omega)] | rw [bI_f (by omega)]); try first | rfl | omega), rfl⟩
    · exact ax_ro_i
  by_cases s2 : g 103 0 a = 1
  · refine aj_tsw (tgt := 50) (ax_dec2 (i := .tableswitch 57 0 4 #[35, 37, 41, 45, 51]) (n := 35) ok_X11_weighs rfl) (by decide) (by rw [s2]; decide) ?_
    refine aj_run (C := (-2147483648 ≤ (g 107 0 a) + 1 ∧ (g 107 0 a) + 1 ≤ 2147483647) ∧ True) (pc' := 53) (la' := [some (.inr (.inr (some (50, 0)))), some (.inl a), some (.inl (g 107 0 a))]) (st' := [.inl ((g 107 0 a) + 1)]) (M' := (P, g, r0, n)) ok_X11_weighs true 3 rfl (by refine ⟨?_, trivial⟩ <;> (first | omega | (have := td2 hN; omega))) ?_
    refine aj_ret (r := some (.inl ((g 107 0 a) + 1))) (ax_dec2 (i := .ireturn) (n := 1) ok_X11_weighs rfl) ⟨?_, ?_, by decide, by decide⟩ rfl
    · exact ⟨ax_si (by unfold wWeighs; (repeat first | rw [if_pos (by omega)] | rw [if_neg (by omega)] | rw [bI_t (by omega)] | rw [bI_f (by omega)]); try first | rfl | omega), rfl⟩
    · exact ax_ro_i
  by_cases s3 : g 103 0 a = 2
  · refine aj_tsw (tgt := 54) (ax_dec2 (i := .tableswitch 57 0 4 #[35, 37, 41, 45, 51]) (n := 35) ok_X11_weighs rfl) (by decide) (by rw [s3]; decide) ?_
    refine aj_run (C := (0 < 2) ∧ True) (pc' := 57) (la' := [some (.inr (.inr (some (50, 0)))), some (.inl a), some (.inl (g 107 0 a))]) (st' := [.inl (Int.tdiv (g 107 0 a) 2)]) (M' := (P, g, r0, n)) ok_X11_weighs true 3 rfl (by refine ⟨?_, trivial⟩ <;> (first | omega | (have := td2 hN; omega))) ?_
    refine aj_ret (r := some (.inl (Int.tdiv (g 107 0 a) 2))) (ax_dec2 (i := .ireturn) (n := 1) ok_X11_weighs rfl) ⟨?_, ?_, by decide, by decide⟩ rfl
    · exact ⟨ax_si (by unfold wWeighs; (repeat first | rw [if_pos (by omega)] | rw [if_neg (by omega)] | rw [bI_t (by omega)] | rw [bI_f (by omega)]); try first | rfl | omega), rfl⟩
    · exact ax_ro_i
  by_cases s4 : g 103 0 a = 3
  · refine aj_tsw (tgt := 58) (ax_dec2 (i := .tableswitch 57 0 4 #[35, 37, 41, 45, 51]) (n := 35) ok_X11_weighs rfl) (by decide) (by rw [s4]; decide) ?_
    refine aj_run (C := (-2147483648 ≤ (g 107 0 a) + 1 ∧ (g 107 0 a) + 1 ≤ 2147483647) ∧ (-2147483648 ≤ 2 * ((g 107 0 a) + 1) ∧ 2 * ((g 107 0 a) + 1) ≤ 2147483647) ∧ True) (pc' := 63) (la' := [some (.inr (.inr (some (50, 0)))), some (.inl a), some (.inl (g 107 0 a))]) (st' := [.inl (2 * ((g 107 0 a) + 1))]) (M' := (P, g, r0, n)) ok_X11_weighs true 5 rfl (by refine ⟨?_, ?_, trivial⟩ <;> (first | omega | (have := td2 hN; omega))) ?_
    refine aj_ret (r := some (.inl (2 * ((g 107 0 a) + 1)))) (ax_dec2 (i := .ireturn) (n := 1) ok_X11_weighs rfl) ⟨?_, ?_, by decide, by decide⟩ rfl
    · exact ⟨ax_si (by unfold wWeighs; (repeat first | rw [if_pos (by omega)] | rw [if_neg (by omega)] | rw [bI_t (by omega)] | rw [bI_f (by omega)]); try first | rfl | omega), rfl⟩
    · exact ax_ro_i
  by_cases s5 : g 103 0 a = 4
  · refine aj_tsw (tgt := 64) (ax_dec2 (i := .tableswitch 57 0 4 #[35, 37, 41, 45, 51]) (n := 35) ok_X11_weighs rfl) (by decide) (by rw [s5]; decide) ?_
    refine aj_run (C := (0 < 2) ∧ (-2147483648 ≤ (Int.tdiv (g 107 0 a) 2) + 3 ∧ (Int.tdiv (g 107 0 a) 2) + 3 ≤ 2147483647) ∧ True) (pc' := 69) (la' := [some (.inr (.inr (some (50, 0)))), some (.inl a), some (.inl (g 107 0 a))]) (st' := [.inl ((Int.tdiv (g 107 0 a) 2) + 3)]) (M' := (P, g, r0, n)) ok_X11_weighs true 5 rfl (by refine ⟨?_, ?_, trivial⟩ <;> (first | omega | (have := td2 hN; omega))) ?_
    refine aj_ret (r := some (.inl ((Int.tdiv (g 107 0 a) 2) + 3))) (ax_dec2 (i := .ireturn) (n := 1) ok_X11_weighs rfl) ⟨?_, ?_, by decide, by decide⟩ rfl
    · exact ⟨ax_si (by unfold wWeighs; (repeat first | rw [if_pos (by omega)] | rw [if_neg (by omega)] | rw [bI_t (by omega)] | rw [bI_f (by omega)]); try first | rfl | omega), rfl⟩
    · exact ax_ro_i
  refine aj_tsw (tgt := 70) (ax_dec2 (i := .tableswitch 57 0 4 #[35, 37, 41, 45, 51]) (n := 35) ok_X11_weighs rfl) (by decide) (by rw [ax_tsw_d (g 103 0 a) (by decide) (by decide) (by omega)]; decide) ?_
  refine aj_run (C := (0 < 2) ∧ (-2147483648 ≤ (Int.tdiv (g 107 0 a) 2) + (g 107 0 a) ∧ (Int.tdiv (g 107 0 a) 2) + (g 107 0 a) ≤ 2147483647) ∧ True) (pc' := 75) (la' := [some (.inr (.inr (some (50, 0)))), some (.inl a), some (.inl (g 107 0 a))]) (st' := [.inl ((Int.tdiv (g 107 0 a) 2) + (g 107 0 a))]) (M' := (P, g, r0, n)) ok_X11_weighs true 5 rfl (by refine ⟨?_, ?_, trivial⟩ <;> (first | omega | (have := td2 hN; omega))) ?_
  refine aj_ret (r := some (.inl ((Int.tdiv (g 107 0 a) 2) + (g 107 0 a)))) (ax_dec2 (i := .ireturn) (n := 1) ok_X11_weighs rfl) ⟨?_, ?_, by decide, by decide⟩ rfl
  · exact ⟨ax_si (by unfold wWeighs; (repeat first | rw [if_pos (by omega)] | rw [if_neg (by omega)] | rw [bI_t (by omega)] | rw [bI_f (by omega)]); try first | rfl | omega), rfl⟩
  · exact ax_ro_i

set_option maxRecDepth 100000 in
set_option maxHeartbeats 4000000 in
theorem sp_done (op a b : Int) (P : Nat → Int → Prop) (g : Nat → Int → Int → Int) (r0 : Nat → Int → Int → Option (Nat × Int)) (n : Nat → Int → Int) : ax_S yX11_done cX11_done 3 (some FieldType.int) 0 0 0 [.inl op, .inl a, .inl b] (P, g, r0, n) (fun r M' => r = some (.inl (wDone op a b)) ∧ M' = (P, g, r0, n)) := by
  refine ax_S_of (own := 11) (by decide) rfl (fun h => absurd h (by decide)) rfl (Nat.le_of_ble_eq_true rfl) ?_
  change ax_J _ _ _ _ _ _ _ _ _ _ [some (.inl op), some (.inl a), some (.inl b)] _ _
  refine aj_run (C := True) (pc' := 1) (la' := [some (.inl op), some (.inl a), some (.inl b)]) (st' := [.inl op]) (M' := (P, g, r0, n)) ok_X11_done true 1 rfl trivial ?_
  by_cases s1 : op = 11
  · refine aj_tsw (tgt := 78) (ax_dec2 (i := .tableswitch 91 11 17 #[77, 91, 55, 66, 43, 47, 51]) (n := 43) ok_X11_done rfl) (by decide) (by rw [s1]; decide) ?_
    refine aj_run (C := True) (pc' := 79) (la' := [some (.inl op), some (.inl a), some (.inl b)]) (st' := [.inl a]) (M' := (P, g, r0, n)) ok_X11_done true 1 rfl trivial ?_
    refine aj_if_eq (tgt := 90) (ax_dec2 (i := .ifCond .eq 11) (n := 3) ok_X11_done rfl) (by decide) (fun c2 => ?_) (fun c2 => ?_)
    · refine aj_run (C := True) (pc' := 91) (la' := [some (.inl op), some (.inl a), some (.inl b)]) (st' := [.inl 0]) (M' := (P, g, r0, n)) ok_X11_done true 1 rfl trivial ?_
      refine aj_ret (r := some (.inl 0)) (ax_dec2 (i := .ireturn) (n := 1) ok_X11_done rfl) ⟨?_, ?_, by decide, by decide⟩ rfl
      · exact ⟨ax_si (by unfold wDone; (repeat first | rw [if_pos (by omega)] | rw [if_neg (by omega)] | rw [bI_t (by omega)] | rw [bI_f (by omega)]); try first | rfl | omega), rfl⟩
      · exact ax_ro_i
    · refine aj_run (C := True) (pc' := 83) (la' := [some (.inl op), some (.inl a), some (.inl b)]) (st' := [.inl b]) (M' := (P, g, r0, n)) ok_X11_done true 1 rfl trivial ?_
      refine aj_if_eq (tgt := 90) (ax_dec2 (i := .ifCond .eq 7) (n := 3) ok_X11_done rfl) (by decide) (fun c3 => ?_) (fun c3 => ?_)
      · refine aj_run (C := True) (pc' := 91) (la' := [some (.inl op), some (.inl a), some (.inl b)]) (st' := [.inl 0]) (M' := (P, g, r0, n)) ok_X11_done true 1 rfl trivial ?_
        refine aj_ret (r := some (.inl 0)) (ax_dec2 (i := .ireturn) (n := 1) ok_X11_done rfl) ⟨?_, ?_, by decide, by decide⟩ rfl
        · exact ⟨ax_si (by unfold wDone; (repeat first | rw [if_pos (by omega)] | rw [if_neg (by omega)] | rw [bI_t (by omega)] | rw [bI_f (by omega)]); try first | rfl | omega), rfl⟩
        · exact ax_ro_i
      · refine aj_run (C := True) (pc' := 91) (la' := [some (.inl op), some (.inl a), some (.inl b)]) (st' := [.inl 1]) (M' := (P, g, r0, n)) ok_X11_done true 2 rfl trivial ?_
        refine aj_ret (r := some (.inl 1)) (ax_dec2 (i := .ireturn) (n := 1) ok_X11_done rfl) ⟨?_, ?_, by decide, by decide⟩ rfl
        · exact ⟨ax_si (by unfold wDone; (repeat first | rw [if_pos (by omega)] | rw [if_neg (by omega)] | rw [bI_t (by omega)] | rw [bI_f (by omega)]); try first | rfl | omega), rfl⟩
        · exact ax_ro_i
  by_cases s4 : op = 12
  · refine aj_tsw (tgt := 92) (ax_dec2 (i := .tableswitch 91 11 17 #[77, 91, 55, 66, 43, 47, 51]) (n := 43) ok_X11_done rfl) (by decide) (by rw [s4]; decide) ?_
    refine aj_run (C := True) (pc' := 93) (la' := [some (.inl op), some (.inl a), some (.inl b)]) (st' := [.inl a]) (M' := (P, g, r0, n)) ok_X11_done true 1 rfl trivial ?_
    refine aj_if_ne (tgt := 100) (ax_dec2 (i := .ifCond .ne 7) (n := 3) ok_X11_done rfl) (by decide) (fun c5 => ?_) (fun c5 => ?_)
    · refine aj_run (C := True) (pc' := 105) (la' := [some (.inl op), some (.inl a), some (.inl b)]) (st' := [.inl 1]) (M' := (P, g, r0, n)) ok_X11_done true 2 rfl trivial ?_
      refine aj_ret (r := some (.inl 1)) (ax_dec2 (i := .ireturn) (n := 1) ok_X11_done rfl) ⟨?_, ?_, by decide, by decide⟩ rfl
      · exact ⟨ax_si (by unfold wDone; (repeat first | rw [if_pos (by omega)] | rw [if_neg (by omega)] | rw [bI_t (by omega)] | rw [bI_f (by omega)]); try first | rfl | omega), rfl⟩
      · exact ax_ro_i
    · refine aj_run (C := True) (pc' := 97) (la' := [some (.inl op), some (.inl a), some (.inl b)]) (st' := [.inl b]) (M' := (P, g, r0, n)) ok_X11_done true 1 rfl trivial ?_
      refine aj_if_eq (tgt := 104) (ax_dec2 (i := .ifCond .eq 7) (n := 3) ok_X11_done rfl) (by decide) (fun c6 => ?_) (fun c6 => ?_)
      · refine aj_run (C := True) (pc' := 105) (la' := [some (.inl op), some (.inl a), some (.inl b)]) (st' := [.inl 0]) (M' := (P, g, r0, n)) ok_X11_done true 1 rfl trivial ?_
        refine aj_ret (r := some (.inl 0)) (ax_dec2 (i := .ireturn) (n := 1) ok_X11_done rfl) ⟨?_, ?_, by decide, by decide⟩ rfl
        · exact ⟨ax_si (by unfold wDone; (repeat first | rw [if_pos (by omega)] | rw [if_neg (by omega)] | rw [bI_t (by omega)] | rw [bI_f (by omega)]); try first | rfl | omega), rfl⟩
        · exact ax_ro_i
      · refine aj_run (C := True) (pc' := 105) (la' := [some (.inl op), some (.inl a), some (.inl b)]) (st' := [.inl 1]) (M' := (P, g, r0, n)) ok_X11_done true 2 rfl trivial ?_
        refine aj_ret (r := some (.inl 1)) (ax_dec2 (i := .ireturn) (n := 1) ok_X11_done rfl) ⟨?_, ?_, by decide, by decide⟩ rfl
        · exact ⟨ax_si (by unfold wDone; (repeat first | rw [if_pos (by omega)] | rw [if_neg (by omega)] | rw [bI_t (by omega)] | rw [bI_f (by omega)]); try first | rfl | omega), rfl⟩
        · exact ax_ro_i
  by_cases s7 : op = 13
  · refine aj_tsw (tgt := 56) (ax_dec2 (i := .tableswitch 91 11 17 #[77, 91, 55, 66, 43, 47, 51]) (n := 43) ok_X11_done rfl) (by decide) (by rw [s7]; decide) ?_
    refine aj_run (C := True) (pc' := 58) (la' := [some (.inl op), some (.inl a), some (.inl b)]) (st' := [.inl b, .inl a]) (M' := (P, g, r0, n)) ok_X11_done true 2 rfl trivial ?_
    refine aj_icmp_ge (tgt := 65) (ax_dec2 (i := .if_icmp .ge 7) (n := 3) ok_X11_done rfl) (by decide) (fun c8 => ?_) (fun c8 => ?_)
    · refine aj_run (C := True) (pc' := 66) (la' := [some (.inl op), some (.inl a), some (.inl b)]) (st' := [.inl 0]) (M' := (P, g, r0, n)) ok_X11_done true 1 rfl trivial ?_
      refine aj_ret (r := some (.inl 0)) (ax_dec2 (i := .ireturn) (n := 1) ok_X11_done rfl) ⟨?_, ?_, by decide, by decide⟩ rfl
      · exact ⟨ax_si (by unfold wDone; (repeat first | rw [if_pos (by omega)] | rw [if_neg (by omega)] | rw [bI_t (by omega)] | rw [bI_f (by omega)]); try first | rfl | omega), rfl⟩
      · exact ax_ro_i
    · refine aj_run (C := True) (pc' := 66) (la' := [some (.inl op), some (.inl a), some (.inl b)]) (st' := [.inl 1]) (M' := (P, g, r0, n)) ok_X11_done true 2 rfl trivial ?_
      refine aj_ret (r := some (.inl 1)) (ax_dec2 (i := .ireturn) (n := 1) ok_X11_done rfl) ⟨?_, ?_, by decide, by decide⟩ rfl
      · exact ⟨ax_si (by unfold wDone; (repeat first | rw [if_pos (by omega)] | rw [if_neg (by omega)] | rw [bI_t (by omega)] | rw [bI_f (by omega)]); try first | rfl | omega), rfl⟩
      · exact ax_ro_i
  by_cases s9 : op = 14
  · refine aj_tsw (tgt := 67) (ax_dec2 (i := .tableswitch 91 11 17 #[77, 91, 55, 66, 43, 47, 51]) (n := 43) ok_X11_done rfl) (by decide) (by rw [s9]; decide) ?_
    refine aj_run (C := True) (pc' := 69) (la' := [some (.inl op), some (.inl a), some (.inl b)]) (st' := [.inl b, .inl a]) (M' := (P, g, r0, n)) ok_X11_done true 2 rfl trivial ?_
    refine aj_icmp_ne (tgt := 76) (ax_dec2 (i := .if_icmp .ne 7) (n := 3) ok_X11_done rfl) (by decide) (fun c10 => ?_) (fun c10 => ?_)
    · refine aj_run (C := True) (pc' := 77) (la' := [some (.inl op), some (.inl a), some (.inl b)]) (st' := [.inl 0]) (M' := (P, g, r0, n)) ok_X11_done true 1 rfl trivial ?_
      refine aj_ret (r := some (.inl 0)) (ax_dec2 (i := .ireturn) (n := 1) ok_X11_done rfl) ⟨?_, ?_, by decide, by decide⟩ rfl
      · exact ⟨ax_si (by unfold wDone; (repeat first | rw [if_pos (by omega)] | rw [if_neg (by omega)] | rw [bI_t (by omega)] | rw [bI_f (by omega)]); try first | rfl | omega), rfl⟩
      · exact ax_ro_i
    · refine aj_run (C := True) (pc' := 77) (la' := [some (.inl op), some (.inl a), some (.inl b)]) (st' := [.inl 1]) (M' := (P, g, r0, n)) ok_X11_done true 2 rfl trivial ?_
      refine aj_ret (r := some (.inl 1)) (ax_dec2 (i := .ireturn) (n := 1) ok_X11_done rfl) ⟨?_, ?_, by decide, by decide⟩ rfl
      · exact ⟨ax_si (by unfold wDone; (repeat first | rw [if_pos (by omega)] | rw [if_neg (by omega)] | rw [bI_t (by omega)] | rw [bI_f (by omega)]); try first | rfl | omega), rfl⟩
      · exact ax_ro_i
  by_cases s11 : op = 15
  · refine aj_tsw (tgt := 44) (ax_dec2 (i := .tableswitch 91 11 17 #[77, 91, 55, 66, 43, 47, 51]) (n := 43) ok_X11_done rfl) (by decide) (by rw [s11]; decide) ?_
    refine aj_run (C := True) (pc' := 47) (la' := [some (.inl op), some (.inl a), some (.inl b)]) (st' := [.inl (Int.bmod (a + b) 4294967296)]) (M' := (P, g, r0, n)) ok_X11_done false 3 rfl trivial ?_
    refine aj_ret (r := some (.inl (Int.bmod (a + b) 4294967296))) (ax_dec2 (i := .ireturn) (n := 1) ok_X11_done rfl) ⟨?_, ?_, by decide, by decide⟩ rfl
    · exact ⟨ax_si (by unfold wDone; (repeat first | rw [if_pos (by omega)] | rw [if_neg (by omega)] | rw [bI_t (by omega)] | rw [bI_f (by omega)]); try first | rfl | omega), rfl⟩
    · exact ax_ro_i
  by_cases s12 : op = 16
  · refine aj_tsw (tgt := 48) (ax_dec2 (i := .tableswitch 91 11 17 #[77, 91, 55, 66, 43, 47, 51]) (n := 43) ok_X11_done rfl) (by decide) (by rw [s12]; decide) ?_
    refine aj_run (C := True) (pc' := 51) (la' := [some (.inl op), some (.inl a), some (.inl b)]) (st' := [.inl (Int.bmod (a - b) 4294967296)]) (M' := (P, g, r0, n)) ok_X11_done false 3 rfl trivial ?_
    refine aj_ret (r := some (.inl (Int.bmod (a - b) 4294967296))) (ax_dec2 (i := .ireturn) (n := 1) ok_X11_done rfl) ⟨?_, ?_, by decide, by decide⟩ rfl
    · exact ⟨ax_si (by unfold wDone; (repeat first | rw [if_pos (by omega)] | rw [if_neg (by omega)] | rw [bI_t (by omega)] | rw [bI_f (by omega)]); try first | rfl | omega), rfl⟩
    · exact ax_ro_i
  by_cases s13 : op = 17
  · refine aj_tsw (tgt := 52) (ax_dec2 (i := .tableswitch 91 11 17 #[77, 91, 55, 66, 43, 47, 51]) (n := 43) ok_X11_done rfl) (by decide) (by rw [s13]; decide) ?_
    refine aj_run (C := True) (pc' := 55) (la' := [some (.inl op), some (.inl a), some (.inl b)]) (st' := [.inl (Int.bmod (a * b) 4294967296)]) (M' := (P, g, r0, n)) ok_X11_done false 3 rfl trivial ?_
    refine aj_ret (r := some (.inl (Int.bmod (a * b) 4294967296))) (ax_dec2 (i := .ireturn) (n := 1) ok_X11_done rfl) ⟨?_, ?_, by decide, by decide⟩ rfl
    · exact ⟨ax_si (by unfold wDone; (repeat first | rw [if_pos (by omega)] | rw [if_neg (by omega)] | rw [bI_t (by omega)] | rw [bI_f (by omega)]); try first | rfl | omega), rfl⟩
    · exact ax_ro_i
  refine aj_tsw (tgt := 92) (ax_dec2 (i := .tableswitch 91 11 17 #[77, 91, 55, 66, 43, 47, 51]) (n := 43) ok_X11_done rfl) (by decide) (by rw [ax_tsw_d op (by decide) (by decide) (by omega)]; decide) ?_
  refine aj_run (C := True) (pc' := 93) (la' := [some (.inl op), some (.inl a), some (.inl b)]) (st' := [.inl a]) (M' := (P, g, r0, n)) ok_X11_done true 1 rfl trivial ?_
  refine aj_if_ne (tgt := 100) (ax_dec2 (i := .ifCond .ne 7) (n := 3) ok_X11_done rfl) (by decide) (fun c14 => ?_) (fun c14 => ?_)
  · refine aj_run (C := True) (pc' := 105) (la' := [some (.inl op), some (.inl a), some (.inl b)]) (st' := [.inl 1]) (M' := (P, g, r0, n)) ok_X11_done true 2 rfl trivial ?_
    refine aj_ret (r := some (.inl 1)) (ax_dec2 (i := .ireturn) (n := 1) ok_X11_done rfl) ⟨?_, ?_, by decide, by decide⟩ rfl
    · exact ⟨ax_si (by unfold wDone; (repeat first | rw [if_pos (by omega)] | rw [if_neg (by omega)] | rw [bI_t (by omega)] | rw [bI_f (by omega)]); try first | rfl | omega), rfl⟩
    · exact ax_ro_i
  · refine aj_run (C := True) (pc' := 97) (la' := [some (.inl op), some (.inl a), some (.inl b)]) (st' := [.inl b]) (M' := (P, g, r0, n)) ok_X11_done true 1 rfl trivial ?_
    refine aj_if_eq (tgt := 104) (ax_dec2 (i := .ifCond .eq 7) (n := 3) ok_X11_done rfl) (by decide) (fun c15 => ?_) (fun c15 => ?_)
    · refine aj_run (C := True) (pc' := 105) (la' := [some (.inl op), some (.inl a), some (.inl b)]) (st' := [.inl 0]) (M' := (P, g, r0, n)) ok_X11_done true 1 rfl trivial ?_
      refine aj_ret (r := some (.inl 0)) (ax_dec2 (i := .ireturn) (n := 1) ok_X11_done rfl) ⟨?_, ?_, by decide, by decide⟩ rfl
      · exact ⟨ax_si (by unfold wDone; (repeat first | rw [if_pos (by omega)] | rw [if_neg (by omega)] | rw [bI_t (by omega)] | rw [bI_f (by omega)]); try first | rfl | omega), rfl⟩
      · exact ax_ro_i
    · refine aj_run (C := True) (pc' := 105) (la' := [some (.inl op), some (.inl a), some (.inl b)]) (st' := [.inl 1]) (M' := (P, g, r0, n)) ok_X11_done true 2 rfl trivial ?_
      refine aj_ret (r := some (.inl 1)) (ax_dec2 (i := .ireturn) (n := 1) ok_X11_done rfl) ⟨?_, ?_, by decide, by decide⟩ rfl
      · exact ⟨ax_si (by unfold wDone; (repeat first | rw [if_pos (by omega)] | rw [if_neg (by omega)] | rw [bI_t (by omega)] | rw [bI_f (by omega)]); try first | rfl | omega), rfl⟩
      · exact ax_ro_i

set_option maxRecDepth 100000 in
set_option maxHeartbeats 4000000 in
theorem sp_isAtEnd (a : Int) (P : Nat → Int → Prop) (g : Nat → Int → Int → Int) (r0 : Nat → Int → Int → Option (Nat × Int)) (n : Nat → Int → Int) (hn : mLen n) (ha : 0 ≤ a ∧ a < 7) (hk : 2 ≤ g 50 0 0 ∧ g 50 0 0 ≤ 40) : ax_S yX11_isAtEnd cX11_isAtEnd 2 (some FieldType.boolean) 0 0 0 [.inr (.inr (some (50, 0))), .inl a] (P, g, r0, n) (fun r M' => r = some (.inl (bI (g 50 0 1 = 0 ∧ ((g 129 0 a = 0 ∧ g 130 0 a = 1) ∨ (g 129 0 a = 2 * g 50 0 0 ∧ g 130 0 a = 0))))) ∧ M' = (P, g, r0, n)) := by
  have n129 : n 129 0 = 7 := hn (129, 7) (by decide)
  have n130 : n 130 0 = 7 := hn (130, 7) (by decide)
  refine ax_S_of (own := 11) (by decide) rfl (fun h => absurd h (by decide)) rfl (Nat.le_of_ble_eq_true rfl) ?_
  change ax_J _ _ _ _ _ _ _ _ _ _ [some (.inr (.inr (some (50, 0)))), some (.inl a)] _ _
  refine aj_run (C := True) (pc' := 4) (la' := [some (.inr (.inr (some (50, 0)))), some (.inl a)]) (st' := [.inl (g 50 0 1)]) (M' := (P, g, r0, n)) ok_X11_isAtEnd true 2 rfl trivial ?_
  refine aj_if_ne (tgt := 54) (ax_dec2 (i := .ifCond .ne 50) (n := 3) ok_X11_isAtEnd rfl) (by decide) (fun c1 => ?_) (fun c1 => ?_)
  · refine aj_run (C := True) (pc' := 55) (la' := [some (.inr (.inr (some (50, 0)))), some (.inl a)]) (st' := [.inl 0]) (M' := (P, g, r0, n)) ok_X11_isAtEnd true 1 rfl trivial ?_
    refine aj_ret (r := some (.inl 0)) (ax_dec2 (i := .ireturn) (n := 1) ok_X11_isAtEnd rfl) ⟨?_, ?_, by decide, by decide⟩ rfl
    · exact ⟨ax_si (by (repeat first | rw [if_pos (by omega)] | rw [if_neg (by omega)] | rw [bI_t (by omega)] | rw [bI_f (by omega)]); try first | rfl | omega), rfl⟩
    · exact ax_ro_b (by first | decide | exact bI_01)
  · refine aj_run (C := (0 ≤ a ∧ a < n 129 0) ∧ True) (pc' := 13) (la' := [some (.inr (.inr (some (50, 0)))), some (.inl a)]) (st' := [.inl (g 129 0 a)]) (M' := (P, g, r0, n)) ok_X11_isAtEnd true 4 rfl (by refine ⟨?_, trivial⟩ <;> (omega)) ?_
    refine aj_if_ne (tgt := 26) (ax_dec2 (i := .ifCond .ne 13) (n := 3) ok_X11_isAtEnd rfl) (by decide) (fun c2 => ?_) (fun c2 => ?_)
    · refine aj_run (C := (0 ≤ a ∧ a < n 129 0) ∧ (-2147483648 ≤ 2 * (g 50 0 0) ∧ 2 * (g 50 0 0) ≤ 2147483647) ∧ True) (pc' := 38) (la' := [some (.inr (.inr (some (50, 0)))), some (.inl a)]) (st' := [.inl (2 * (g 50 0 0)), .inl (g 129 0 a)]) (M' := (P, g, r0, n)) ok_X11_isAtEnd true 8 rfl (by refine ⟨?_, ?_, trivial⟩ <;> (omega)) ?_
      refine aj_icmp_ne (tgt := 54) (ax_dec2 (i := .if_icmp .ne 16) (n := 3) ok_X11_isAtEnd rfl) (by decide) (fun c3 => ?_) (fun c3 => ?_)
      · refine aj_run (C := True) (pc' := 55) (la' := [some (.inr (.inr (some (50, 0)))), some (.inl a)]) (st' := [.inl 0]) (M' := (P, g, r0, n)) ok_X11_isAtEnd true 1 rfl trivial ?_
        refine aj_ret (r := some (.inl 0)) (ax_dec2 (i := .ireturn) (n := 1) ok_X11_isAtEnd rfl) ⟨?_, ?_, by decide, by decide⟩ rfl
        · exact ⟨ax_si (by (repeat first | rw [if_pos (by omega)] | rw [if_neg (by omega)] | rw [bI_t (by omega)] | rw [bI_f (by omega)]); try first | rfl | omega), rfl⟩
        · exact ax_ro_b (by first | decide | exact bI_01)
      · refine aj_run (C := (0 ≤ a ∧ a < n 130 0) ∧ True) (pc' := 47) (la' := [some (.inr (.inr (some (50, 0)))), some (.inl a)]) (st' := [.inl (g 130 0 a)]) (M' := (P, g, r0, n)) ok_X11_isAtEnd true 4 rfl (by refine ⟨?_, trivial⟩ <;> (omega)) ?_
        refine aj_if_ne (tgt := 54) (ax_dec2 (i := .ifCond .ne 7) (n := 3) ok_X11_isAtEnd rfl) (by decide) (fun c4 => ?_) (fun c4 => ?_)
        · refine aj_run (C := True) (pc' := 55) (la' := [some (.inr (.inr (some (50, 0)))), some (.inl a)]) (st' := [.inl 0]) (M' := (P, g, r0, n)) ok_X11_isAtEnd true 1 rfl trivial ?_
          refine aj_ret (r := some (.inl 0)) (ax_dec2 (i := .ireturn) (n := 1) ok_X11_isAtEnd rfl) ⟨?_, ?_, by decide, by decide⟩ rfl
          · exact ⟨ax_si (by (repeat first | rw [if_pos (by omega)] | rw [if_neg (by omega)] | rw [bI_t (by omega)] | rw [bI_f (by omega)]); try first | rfl | omega), rfl⟩
          · exact ax_ro_b (by first | decide | exact bI_01)
        · refine aj_run (C := True) (pc' := 55) (la' := [some (.inr (.inr (some (50, 0)))), some (.inl a)]) (st' := [.inl 1]) (M' := (P, g, r0, n)) ok_X11_isAtEnd true 2 rfl trivial ?_
          refine aj_ret (r := some (.inl 1)) (ax_dec2 (i := .ireturn) (n := 1) ok_X11_isAtEnd rfl) ⟨?_, ?_, by decide, by decide⟩ rfl
          · exact ⟨ax_si (by (repeat first | rw [if_pos (by omega)] | rw [if_neg (by omega)] | rw [bI_t (by omega)] | rw [bI_f (by omega)]); try first | rfl | omega), rfl⟩
          · exact ax_ro_b (by first | decide | exact bI_01)
    · refine aj_run (C := (0 ≤ a ∧ a < n 130 0) ∧ True) (pc' := 23) (la' := [some (.inr (.inr (some (50, 0)))), some (.inl a)]) (st' := [.inl 1, .inl (g 130 0 a)]) (M' := (P, g, r0, n)) ok_X11_isAtEnd true 5 rfl (by refine ⟨?_, trivial⟩ <;> (omega)) ?_
      refine aj_icmp_eq (tgt := 50) (ax_dec2 (i := .if_icmp .eq 27) (n := 3) ok_X11_isAtEnd rfl) (by decide) (fun c5 => ?_) (fun c5 => ?_)
      · refine aj_run (C := True) (pc' := 55) (la' := [some (.inr (.inr (some (50, 0)))), some (.inl a)]) (st' := [.inl 1]) (M' := (P, g, r0, n)) ok_X11_isAtEnd true 2 rfl trivial ?_
        refine aj_ret (r := some (.inl 1)) (ax_dec2 (i := .ireturn) (n := 1) ok_X11_isAtEnd rfl) ⟨?_, ?_, by decide, by decide⟩ rfl
        · exact ⟨ax_si (by (repeat first | rw [if_pos (by omega)] | rw [if_neg (by omega)] | rw [bI_t (by omega)] | rw [bI_f (by omega)]); try first | rfl | omega), rfl⟩
        · exact ax_ro_b (by first | decide | exact bI_01)
      · refine aj_run (C := (0 ≤ a ∧ a < n 129 0) ∧ (-2147483648 ≤ 2 * (g 50 0 0) ∧ 2 * (g 50 0 0) ≤ 2147483647) ∧ True) (pc' := 38) (la' := [some (.inr (.inr (some (50, 0)))), some (.inl a)]) (st' := [.inl (2 * (g 50 0 0)), .inl (g 129 0 a)]) (M' := (P, g, r0, n)) ok_X11_isAtEnd true 8 rfl (by refine ⟨?_, ?_, trivial⟩ <;> (omega)) ?_
        refine aj_icmp_ne (tgt := 54) (ax_dec2 (i := .if_icmp .ne 16) (n := 3) ok_X11_isAtEnd rfl) (by decide) (fun c6 => ?_) (fun c6 => ?_)
        · refine aj_run (C := True) (pc' := 55) (la' := [some (.inr (.inr (some (50, 0)))), some (.inl a)]) (st' := [.inl 0]) (M' := (P, g, r0, n)) ok_X11_isAtEnd true 1 rfl trivial ?_
          refine aj_ret (r := some (.inl 0)) (ax_dec2 (i := .ireturn) (n := 1) ok_X11_isAtEnd rfl) ⟨?_, ?_, by decide, by decide⟩ rfl
          · exact ⟨ax_si (by (repeat first | rw [if_pos (by omega)] | rw [if_neg (by omega)] | rw [bI_t (by omega)] | rw [bI_f (by omega)]); try first | rfl | omega), rfl⟩
          · exact ax_ro_b (by first | decide | exact bI_01)
        · refine aj_run (C := (0 ≤ a ∧ a < n 130 0) ∧ True) (pc' := 47) (la' := [some (.inr (.inr (some (50, 0)))), some (.inl a)]) (st' := [.inl (g 130 0 a)]) (M' := (P, g, r0, n)) ok_X11_isAtEnd true 4 rfl (by refine ⟨?_, trivial⟩ <;> (omega)) ?_
          refine aj_if_ne (tgt := 54) (ax_dec2 (i := .ifCond .ne 7) (n := 3) ok_X11_isAtEnd rfl) (by decide) (fun c7 => ?_) (fun c7 => ?_)
          · refine aj_run (C := True) (pc' := 55) (la' := [some (.inr (.inr (some (50, 0)))), some (.inl a)]) (st' := [.inl 0]) (M' := (P, g, r0, n)) ok_X11_isAtEnd true 1 rfl trivial ?_
            refine aj_ret (r := some (.inl 0)) (ax_dec2 (i := .ireturn) (n := 1) ok_X11_isAtEnd rfl) ⟨?_, ?_, by decide, by decide⟩ rfl
            · exact ⟨ax_si (by (repeat first | rw [if_pos (by omega)] | rw [if_neg (by omega)] | rw [bI_t (by omega)] | rw [bI_f (by omega)]); try first | rfl | omega), rfl⟩
            · exact ax_ro_b (by first | decide | exact bI_01)
          · refine aj_run (C := True) (pc' := 55) (la' := [some (.inr (.inr (some (50, 0)))), some (.inl a)]) (st' := [.inl 1]) (M' := (P, g, r0, n)) ok_X11_isAtEnd true 2 rfl trivial ?_
            refine aj_ret (r := some (.inl 1)) (ax_dec2 (i := .ireturn) (n := 1) ok_X11_isAtEnd rfl) ⟨?_, ?_, by decide, by decide⟩ rfl
            · exact ⟨ax_si (by (repeat first | rw [if_pos (by omega)] | rw [if_neg (by omega)] | rw [bI_t (by omega)] | rw [bI_f (by omega)]); try first | rfl | omega), rfl⟩
            · exact ax_ro_b (by first | decide | exact bI_01)

set_option maxRecDepth 100000 in
set_option maxHeartbeats 4000000 in
theorem sp_isSign (c : Int) (P : Nat → Int → Prop) (g : Nat → Int → Int → Int) (r0 : Nat → Int → Int → Option (Nat × Int)) (n : Nat → Int → Int) : ax_S yX11_isSign cX11_isSign 2 (some FieldType.boolean) 0 0 0 [.inr (.inr (some (50, 0))), .inl c] (P, g, r0, n) (fun r M' => r = some (.inl (bI (g 50 0 15 = 4 ∧ g 50 0 16 = c))) ∧ M' = (P, g, r0, n)) := by
  refine ax_S_of (own := 11) (by decide) rfl (fun h => absurd h (by decide)) rfl (Nat.le_of_ble_eq_true rfl) ?_
  change ax_J _ _ _ _ _ _ _ _ _ _ [some (.inr (.inr (some (50, 0)))), some (.inl c)] _ _
  refine aj_run (C := True) (pc' := 5) (la' := [some (.inr (.inr (some (50, 0)))), some (.inl c)]) (st' := [.inl 4, .inl (g 50 0 15)]) (M' := (P, g, r0, n)) ok_X11_isSign true 3 rfl trivial ?_
  refine aj_icmp_ne (tgt := 20) (ax_dec2 (i := .if_icmp .ne 15) (n := 3) ok_X11_isSign rfl) (by decide) (fun c1 => ?_) (fun c1 => ?_)
  · refine aj_run (C := True) (pc' := 21) (la' := [some (.inr (.inr (some (50, 0)))), some (.inl c)]) (st' := [.inl 0]) (M' := (P, g, r0, n)) ok_X11_isSign true 1 rfl trivial ?_
    refine aj_ret (r := some (.inl 0)) (ax_dec2 (i := .ireturn) (n := 1) ok_X11_isSign rfl) ⟨?_, ?_, by decide, by decide⟩ rfl
    · exact ⟨ax_si (by (repeat first | rw [if_pos (by omega)] | rw [if_neg (by omega)] | rw [bI_t (by omega)] | rw [bI_f (by omega)]); try first | rfl | omega), rfl⟩
    · exact ax_ro_b (by first | decide | exact bI_01)
  · refine aj_run (C := True) (pc' := 13) (la' := [some (.inr (.inr (some (50, 0)))), some (.inl c)]) (st' := [.inl c, .inl (g 50 0 16)]) (M' := (P, g, r0, n)) ok_X11_isSign true 3 rfl trivial ?_
    refine aj_icmp_ne (tgt := 20) (ax_dec2 (i := .if_icmp .ne 7) (n := 3) ok_X11_isSign rfl) (by decide) (fun c2 => ?_) (fun c2 => ?_)
    · refine aj_run (C := True) (pc' := 21) (la' := [some (.inr (.inr (some (50, 0)))), some (.inl c)]) (st' := [.inl 0]) (M' := (P, g, r0, n)) ok_X11_isSign true 1 rfl trivial ?_
      refine aj_ret (r := some (.inl 0)) (ax_dec2 (i := .ireturn) (n := 1) ok_X11_isSign rfl) ⟨?_, ?_, by decide, by decide⟩ rfl
      · exact ⟨ax_si (by (repeat first | rw [if_pos (by omega)] | rw [if_neg (by omega)] | rw [bI_t (by omega)] | rw [bI_f (by omega)]); try first | rfl | omega), rfl⟩
      · exact ax_ro_b (by first | decide | exact bI_01)
    · refine aj_run (C := True) (pc' := 21) (la' := [some (.inr (.inr (some (50, 0)))), some (.inl c)]) (st' := [.inl 1]) (M' := (P, g, r0, n)) ok_X11_isSign true 2 rfl trivial ?_
      refine aj_ret (r := some (.inl 1)) (ax_dec2 (i := .ireturn) (n := 1) ok_X11_isSign rfl) ⟨?_, ?_, by decide, by decide⟩ rfl
      · exact ⟨ax_si (by (repeat first | rw [if_pos (by omega)] | rw [if_neg (by omega)] | rw [bI_t (by omega)] | rw [bI_f (by omega)]); try first | rfl | omega), rfl⟩
      · exact ax_ro_b (by first | decide | exact bI_01)

set_option maxRecDepth 100000 in
set_option maxHeartbeats 4000000 in
theorem sp_isKey (c : Int) (P : Nat → Int → Prop) (g : Nat → Int → Int → Int) (r0 : Nat → Int → Int → Option (Nat × Int)) (n : Nat → Int → Int) : ax_S yX11_isKey cX11_isKey 2 (some FieldType.boolean) 0 0 0 [.inr (.inr (some (50, 0))), .inl c] (P, g, r0, n) (fun r M' => r = some (.inl (bI (g 50 0 15 = 3 ∧ g 50 0 16 = c))) ∧ M' = (P, g, r0, n)) := by
  refine ax_S_of (own := 11) (by decide) rfl (fun h => absurd h (by decide)) rfl (Nat.le_of_ble_eq_true rfl) ?_
  change ax_J _ _ _ _ _ _ _ _ _ _ [some (.inr (.inr (some (50, 0)))), some (.inl c)] _ _
  refine aj_run (C := True) (pc' := 5) (la' := [some (.inr (.inr (some (50, 0)))), some (.inl c)]) (st' := [.inl 3, .inl (g 50 0 15)]) (M' := (P, g, r0, n)) ok_X11_isKey true 3 rfl trivial ?_
  refine aj_icmp_ne (tgt := 20) (ax_dec2 (i := .if_icmp .ne 15) (n := 3) ok_X11_isKey rfl) (by decide) (fun c1 => ?_) (fun c1 => ?_)
  · refine aj_run (C := True) (pc' := 21) (la' := [some (.inr (.inr (some (50, 0)))), some (.inl c)]) (st' := [.inl 0]) (M' := (P, g, r0, n)) ok_X11_isKey true 1 rfl trivial ?_
    refine aj_ret (r := some (.inl 0)) (ax_dec2 (i := .ireturn) (n := 1) ok_X11_isKey rfl) ⟨?_, ?_, by decide, by decide⟩ rfl
    · exact ⟨ax_si (by (repeat first | rw [if_pos (by omega)] | rw [if_neg (by omega)] | rw [bI_t (by omega)] | rw [bI_f (by omega)]); try first | rfl | omega), rfl⟩
    · exact ax_ro_b (by first | decide | exact bI_01)
  · refine aj_run (C := True) (pc' := 13) (la' := [some (.inr (.inr (some (50, 0)))), some (.inl c)]) (st' := [.inl c, .inl (g 50 0 16)]) (M' := (P, g, r0, n)) ok_X11_isKey true 3 rfl trivial ?_
    refine aj_icmp_ne (tgt := 20) (ax_dec2 (i := .if_icmp .ne 7) (n := 3) ok_X11_isKey rfl) (by decide) (fun c2 => ?_) (fun c2 => ?_)
    · refine aj_run (C := True) (pc' := 21) (la' := [some (.inr (.inr (some (50, 0)))), some (.inl c)]) (st' := [.inl 0]) (M' := (P, g, r0, n)) ok_X11_isKey true 1 rfl trivial ?_
      refine aj_ret (r := some (.inl 0)) (ax_dec2 (i := .ireturn) (n := 1) ok_X11_isKey rfl) ⟨?_, ?_, by decide, by decide⟩ rfl
      · exact ⟨ax_si (by (repeat first | rw [if_pos (by omega)] | rw [if_neg (by omega)] | rw [bI_t (by omega)] | rw [bI_f (by omega)]); try first | rfl | omega), rfl⟩
      · exact ax_ro_b (by first | decide | exact bI_01)
    · refine aj_run (C := True) (pc' := 21) (la' := [some (.inr (.inr (some (50, 0)))), some (.inl c)]) (st' := [.inl 1]) (M' := (P, g, r0, n)) ok_X11_isKey true 2 rfl trivial ?_
      refine aj_ret (r := some (.inl 1)) (ax_dec2 (i := .ireturn) (n := 1) ok_X11_isKey rfl) ⟨?_, ?_, by decide, by decide⟩ rfl
      · exact ⟨ax_si (by (repeat first | rw [if_pos (by omega)] | rw [if_neg (by omega)] | rw [bI_t (by omega)] | rw [bI_f (by omega)]); try first | rfl | omega), rfl⟩
      · exact ax_ro_b (by first | decide | exact bI_01)

set_option maxRecDepth 100000 in
set_option maxHeartbeats 4000000 in
theorem sp_isLetter (i : Int) (P : Nat → Int → Prop) (g : Nat → Int → Int → Int) (r0 : Nat → Int → Int → Option (Nat × Int)) (n : Nat → Int → Int) (hn : mLen n) (hi : 0 ≤ i) (ht : g 50 0 9 ≤ 160) : ax_S yX11_isLetter cX11_isLetter 2 (some FieldType.boolean) 0 0 0 [.inr (.inr (some (50, 0))), .inl i] (P, g, r0, n) (fun r M' => r = some (.inl (bI (i < g 50 0 9 ∧ 97 ≤ g 108 0 i ∧ g 108 0 i ≤ 122))) ∧ M' = (P, g, r0, n)) := by
  have n108 : n 108 0 = 160 := hn (108, 160) (by decide)
  refine ax_S_of (own := 11) (by decide) rfl (fun h => absurd h (by decide)) rfl (Nat.le_of_ble_eq_true rfl) ?_
  change ax_J _ _ _ _ _ _ _ _ _ _ [some (.inr (.inr (some (50, 0)))), some (.inl i)] _ _
  refine aj_run (C := True) (pc' := 5) (la' := [some (.inr (.inr (some (50, 0)))), some (.inl i)]) (st' := [.inl (g 50 0 9), .inl i]) (M' := (P, g, r0, n)) ok_X11_isLetter true 3 rfl trivial ?_
  refine aj_icmp_ge (tgt := 34) (ax_dec2 (i := .if_icmp .ge 29) (n := 3) ok_X11_isLetter rfl) (by decide) (fun c1 => ?_) (fun c1 => ?_)
  · refine aj_run (C := True) (pc' := 35) (la' := [some (.inr (.inr (some (50, 0)))), some (.inl i)]) (st' := [.inl 0]) (M' := (P, g, r0, n)) ok_X11_isLetter true 1 rfl trivial ?_
    refine aj_ret (r := some (.inl 0)) (ax_dec2 (i := .ireturn) (n := 1) ok_X11_isLetter rfl) ⟨?_, ?_, by decide, by decide⟩ rfl
    · exact ⟨ax_si (by (repeat first | rw [if_pos (by omega)] | rw [if_neg (by omega)] | rw [bI_t (by omega)] | rw [bI_f (by omega)]); try first | rfl | omega), rfl⟩
    · exact ax_ro_b (by first | decide | exact bI_01)
  · refine aj_run (C := (0 ≤ i ∧ i < n 108 0) ∧ True) (pc' := 16) (la' := [some (.inr (.inr (some (50, 0)))), some (.inl i)]) (st' := [.inl 97, .inl (g 108 0 i)]) (M' := (P, g, r0, n)) ok_X11_isLetter true 5 rfl (by refine ⟨?_, trivial⟩ <;> (omega)) ?_
    refine aj_icmp_lt (tgt := 34) (ax_dec2 (i := .if_icmp .lt 18) (n := 3) ok_X11_isLetter rfl) (by decide) (fun c2 => ?_) (fun c2 => ?_)
    · refine aj_run (C := True) (pc' := 35) (la' := [some (.inr (.inr (some (50, 0)))), some (.inl i)]) (st' := [.inl 0]) (M' := (P, g, r0, n)) ok_X11_isLetter true 1 rfl trivial ?_
      refine aj_ret (r := some (.inl 0)) (ax_dec2 (i := .ireturn) (n := 1) ok_X11_isLetter rfl) ⟨?_, ?_, by decide, by decide⟩ rfl
      · exact ⟨ax_si (by (repeat first | rw [if_pos (by omega)] | rw [if_neg (by omega)] | rw [bI_t (by omega)] | rw [bI_f (by omega)]); try first | rfl | omega), rfl⟩
      · exact ax_ro_b (by first | decide | exact bI_01)
    · refine aj_run (C := (0 ≤ i ∧ i < n 108 0) ∧ True) (pc' := 27) (la' := [some (.inr (.inr (some (50, 0)))), some (.inl i)]) (st' := [.inl 122, .inl (g 108 0 i)]) (M' := (P, g, r0, n)) ok_X11_isLetter true 5 rfl (by refine ⟨?_, trivial⟩ <;> (omega)) ?_
      refine aj_icmp_gt (tgt := 34) (ax_dec2 (i := .if_icmp .gt 7) (n := 3) ok_X11_isLetter rfl) (by decide) (fun c3 => ?_) (fun c3 => ?_)
      · refine aj_run (C := True) (pc' := 35) (la' := [some (.inr (.inr (some (50, 0)))), some (.inl i)]) (st' := [.inl 0]) (M' := (P, g, r0, n)) ok_X11_isLetter true 1 rfl trivial ?_
        refine aj_ret (r := some (.inl 0)) (ax_dec2 (i := .ireturn) (n := 1) ok_X11_isLetter rfl) ⟨?_, ?_, by decide, by decide⟩ rfl
        · exact ⟨ax_si (by (repeat first | rw [if_pos (by omega)] | rw [if_neg (by omega)] | rw [bI_t (by omega)] | rw [bI_f (by omega)]); try first | rfl | omega), rfl⟩
        · exact ax_ro_b (by first | decide | exact bI_01)
      · refine aj_run (C := True) (pc' := 35) (la' := [some (.inr (.inr (some (50, 0)))), some (.inl i)]) (st' := [.inl 1]) (M' := (P, g, r0, n)) ok_X11_isLetter true 2 rfl trivial ?_
        refine aj_ret (r := some (.inl 1)) (ax_dec2 (i := .ireturn) (n := 1) ok_X11_isLetter rfl) ⟨?_, ?_, by decide, by decide⟩ rfl
        · exact ⟨ax_si (by (repeat first | rw [if_pos (by omega)] | rw [if_neg (by omega)] | rw [bI_t (by omega)] | rw [bI_f (by omega)]); try first | rfl | omega), rfl⟩
        · exact ax_ro_b (by first | decide | exact bI_01)

set_option maxRecDepth 100000 in
set_option maxHeartbeats 4000000 in
theorem sp_isDigit (i : Int) (P : Nat → Int → Prop) (g : Nat → Int → Int → Int) (r0 : Nat → Int → Int → Option (Nat × Int)) (n : Nat → Int → Int) (hn : mLen n) (hi : 0 ≤ i) (ht : g 50 0 9 ≤ 160) : ax_S yX11_isDigit cX11_isDigit 2 (some FieldType.boolean) 0 0 0 [.inr (.inr (some (50, 0))), .inl i] (P, g, r0, n) (fun r M' => r = some (.inl (bI (i < g 50 0 9 ∧ 48 ≤ g 108 0 i ∧ g 108 0 i ≤ 57))) ∧ M' = (P, g, r0, n)) := by
  have n108 : n 108 0 = 160 := hn (108, 160) (by decide)
  refine ax_S_of (own := 11) (by decide) rfl (fun h => absurd h (by decide)) rfl (Nat.le_of_ble_eq_true rfl) ?_
  change ax_J _ _ _ _ _ _ _ _ _ _ [some (.inr (.inr (some (50, 0)))), some (.inl i)] _ _
  refine aj_run (C := True) (pc' := 5) (la' := [some (.inr (.inr (some (50, 0)))), some (.inl i)]) (st' := [.inl (g 50 0 9), .inl i]) (M' := (P, g, r0, n)) ok_X11_isDigit true 3 rfl trivial ?_
  refine aj_icmp_ge (tgt := 34) (ax_dec2 (i := .if_icmp .ge 29) (n := 3) ok_X11_isDigit rfl) (by decide) (fun c1 => ?_) (fun c1 => ?_)
  · refine aj_run (C := True) (pc' := 35) (la' := [some (.inr (.inr (some (50, 0)))), some (.inl i)]) (st' := [.inl 0]) (M' := (P, g, r0, n)) ok_X11_isDigit true 1 rfl trivial ?_
    refine aj_ret (r := some (.inl 0)) (ax_dec2 (i := .ireturn) (n := 1) ok_X11_isDigit rfl) ⟨?_, ?_, by decide, by decide⟩ rfl
    · exact ⟨ax_si (by (repeat first | rw [if_pos (by omega)] | rw [if_neg (by omega)] | rw [bI_t (by omega)] | rw [bI_f (by omega)]); try first | rfl | omega), rfl⟩
    · exact ax_ro_b (by first | decide | exact bI_01)
  · refine aj_run (C := (0 ≤ i ∧ i < n 108 0) ∧ True) (pc' := 16) (la' := [some (.inr (.inr (some (50, 0)))), some (.inl i)]) (st' := [.inl 48, .inl (g 108 0 i)]) (M' := (P, g, r0, n)) ok_X11_isDigit true 5 rfl (by refine ⟨?_, trivial⟩ <;> (omega)) ?_
    refine aj_icmp_lt (tgt := 34) (ax_dec2 (i := .if_icmp .lt 18) (n := 3) ok_X11_isDigit rfl) (by decide) (fun c2 => ?_) (fun c2 => ?_)
    · refine aj_run (C := True) (pc' := 35) (la' := [some (.inr (.inr (some (50, 0)))), some (.inl i)]) (st' := [.inl 0]) (M' := (P, g, r0, n)) ok_X11_isDigit true 1 rfl trivial ?_
      refine aj_ret (r := some (.inl 0)) (ax_dec2 (i := .ireturn) (n := 1) ok_X11_isDigit rfl) ⟨?_, ?_, by decide, by decide⟩ rfl
      · exact ⟨ax_si (by (repeat first | rw [if_pos (by omega)] | rw [if_neg (by omega)] | rw [bI_t (by omega)] | rw [bI_f (by omega)]); try first | rfl | omega), rfl⟩
      · exact ax_ro_b (by first | decide | exact bI_01)
    · refine aj_run (C := (0 ≤ i ∧ i < n 108 0) ∧ True) (pc' := 27) (la' := [some (.inr (.inr (some (50, 0)))), some (.inl i)]) (st' := [.inl 57, .inl (g 108 0 i)]) (M' := (P, g, r0, n)) ok_X11_isDigit true 5 rfl (by refine ⟨?_, trivial⟩ <;> (omega)) ?_
      refine aj_icmp_gt (tgt := 34) (ax_dec2 (i := .if_icmp .gt 7) (n := 3) ok_X11_isDigit rfl) (by decide) (fun c3 => ?_) (fun c3 => ?_)
      · refine aj_run (C := True) (pc' := 35) (la' := [some (.inr (.inr (some (50, 0)))), some (.inl i)]) (st' := [.inl 0]) (M' := (P, g, r0, n)) ok_X11_isDigit true 1 rfl trivial ?_
        refine aj_ret (r := some (.inl 0)) (ax_dec2 (i := .ireturn) (n := 1) ok_X11_isDigit rfl) ⟨?_, ?_, by decide, by decide⟩ rfl
        · exact ⟨ax_si (by (repeat first | rw [if_pos (by omega)] | rw [if_neg (by omega)] | rw [bI_t (by omega)] | rw [bI_f (by omega)]); try first | rfl | omega), rfl⟩
        · exact ax_ro_b (by first | decide | exact bI_01)
      · refine aj_run (C := True) (pc' := 35) (la' := [some (.inr (.inr (some (50, 0)))), some (.inl i)]) (st' := [.inl 1]) (M' := (P, g, r0, n)) ok_X11_isDigit true 2 rfl trivial ?_
        refine aj_ret (r := some (.inl 1)) (ax_dec2 (i := .ireturn) (n := 1) ok_X11_isDigit rfl) ⟨?_, ?_, by decide, by decide⟩ rfl
        · exact ⟨ax_si (by (repeat first | rw [if_pos (by omega)] | rw [if_neg (by omega)] | rw [bI_t (by omega)] | rw [bI_f (by omega)]); try first | rfl | omega), rfl⟩
        · exact ax_ro_b (by first | decide | exact bI_01)

def wRank (op : Int) : Int := if op = 10 then 1 else if op = 11 then 2 else if op = 12 then 3 else if op = 13 ∨ op = 14 then 4 else if op = 15 ∨ op = 16 then 5 else if op = 17 then 6 else if op = 18 then 7 else 0
set_option maxRecDepth 100000 in
set_option maxHeartbeats 4000000 in
theorem sp_rank (op : Int) (P : Nat → Int → Prop) (g : Nat → Int → Int → Int) (r0 : Nat → Int → Int → Option (Nat × Int)) (n : Nat → Int → Int) : ax_S yX11_rank cX11_rank 1 (some FieldType.int) 0 0 0 [.inl op] (P, g, r0, n) (fun r M' => r = some (.inl (wRank op)) ∧ M' = (P, g, r0, n)) := by
  refine ax_S_of (own := 11) (by decide) rfl (fun h => absurd h (by decide)) rfl (Nat.le_of_ble_eq_true rfl) ?_
  change ax_J _ _ _ _ _ _ _ _ _ _ [some (.inl op)] _ _
  refine aj_run (C := True) (pc' := 3) (la' := [some (.inl op)]) (st' := [.inl 10, .inl op]) (M' := (P, g, r0, n)) ok_X11_rank true 2 rfl trivial ?_
  refine aj_icmp_ne (tgt := 10) (ax_dec2 (i := .if_icmp .ne 7) (n := 3) ok_X11_rank rfl) (by decide) (fun c1 => ?_) (fun c1 => ?_)
  · refine aj_run (C := True) (pc' := 13) (la' := [some (.inl op)]) (st' := [.inl 11, .inl op]) (M' := (P, g, r0, n)) ok_X11_rank true 2 rfl trivial ?_
    refine aj_icmp_ne (tgt := 20) (ax_dec2 (i := .if_icmp .ne 7) (n := 3) ok_X11_rank rfl) (by decide) (fun c2 => ?_) (fun c2 => ?_)
    · refine aj_run (C := True) (pc' := 23) (la' := [some (.inl op)]) (st' := [.inl 12, .inl op]) (M' := (P, g, r0, n)) ok_X11_rank true 2 rfl trivial ?_
      refine aj_icmp_ne (tgt := 30) (ax_dec2 (i := .if_icmp .ne 7) (n := 3) ok_X11_rank rfl) (by decide) (fun c3 => ?_) (fun c3 => ?_)
      · refine aj_run (C := True) (pc' := 33) (la' := [some (.inl op)]) (st' := [.inl 13, .inl op]) (M' := (P, g, r0, n)) ok_X11_rank true 2 rfl trivial ?_
        refine aj_icmp_eq (tgt := 42) (ax_dec2 (i := .if_icmp .eq 9) (n := 3) ok_X11_rank rfl) (by decide) (fun c4 => ?_) (fun c4 => ?_)
        · refine aj_run (C := True) (pc' := 85) (la' := [some (.inl op)]) (st' := [.inl 4]) (M' := (P, g, r0, n)) ok_X11_rank true 2 rfl trivial ?_
          refine aj_ret (r := some (.inl 4)) (ax_dec2 (i := .ireturn) (n := 1) ok_X11_rank rfl) ⟨?_, ?_, by decide, by decide⟩ rfl
          · exact ⟨ax_si (by unfold wRank; (repeat first | rw [if_pos (by omega)] | rw [if_neg (by omega)] | rw [bI_t (by omega)] | rw [bI_f (by omega)]); try first | rfl | omega), rfl⟩
          · exact ax_ro_i
        · refine aj_run (C := True) (pc' := 39) (la' := [some (.inl op)]) (st' := [.inl 14, .inl op]) (M' := (P, g, r0, n)) ok_X11_rank true 2 rfl trivial ?_
          refine aj_icmp_ne (tgt := 46) (ax_dec2 (i := .if_icmp .ne 7) (n := 3) ok_X11_rank rfl) (by decide) (fun c5 => ?_) (fun c5 => ?_)
          · refine aj_run (C := True) (pc' := 49) (la' := [some (.inl op)]) (st' := [.inl 15, .inl op]) (M' := (P, g, r0, n)) ok_X11_rank true 2 rfl trivial ?_
            refine aj_icmp_eq (tgt := 58) (ax_dec2 (i := .if_icmp .eq 9) (n := 3) ok_X11_rank rfl) (by decide) (fun c6 => ?_) (fun c6 => ?_)
            · refine aj_run (C := True) (pc' := 85) (la' := [some (.inl op)]) (st' := [.inl 5]) (M' := (P, g, r0, n)) ok_X11_rank true 2 rfl trivial ?_
              refine aj_ret (r := some (.inl 5)) (ax_dec2 (i := .ireturn) (n := 1) ok_X11_rank rfl) ⟨?_, ?_, by decide, by decide⟩ rfl
              · exact ⟨ax_si (by unfold wRank; (repeat first | rw [if_pos (by omega)] | rw [if_neg (by omega)] | rw [bI_t (by omega)] | rw [bI_f (by omega)]); try first | rfl | omega), rfl⟩
              · exact ax_ro_i
            · refine aj_run (C := True) (pc' := 55) (la' := [some (.inl op)]) (st' := [.inl 16, .inl op]) (M' := (P, g, r0, n)) ok_X11_rank true 2 rfl trivial ?_
              refine aj_icmp_ne (tgt := 62) (ax_dec2 (i := .if_icmp .ne 7) (n := 3) ok_X11_rank rfl) (by decide) (fun c7 => ?_) (fun c7 => ?_)
              · refine aj_run (C := True) (pc' := 65) (la' := [some (.inl op)]) (st' := [.inl 17, .inl op]) (M' := (P, g, r0, n)) ok_X11_rank true 2 rfl trivial ?_
                refine aj_icmp_ne (tgt := 73) (ax_dec2 (i := .if_icmp .ne 8) (n := 3) ok_X11_rank rfl) (by decide) (fun c8 => ?_) (fun c8 => ?_)
                · refine aj_run (C := True) (pc' := 76) (la' := [some (.inl op)]) (st' := [.inl 18, .inl op]) (M' := (P, g, r0, n)) ok_X11_rank true 2 rfl trivial ?_
                  refine aj_icmp_ne (tgt := 84) (ax_dec2 (i := .if_icmp .ne 8) (n := 3) ok_X11_rank rfl) (by decide) (fun c9 => ?_) (fun c9 => ?_)
                  · refine aj_run (C := True) (pc' := 85) (la' := [some (.inl op)]) (st' := [.inl 0]) (M' := (P, g, r0, n)) ok_X11_rank true 1 rfl trivial ?_
                    refine aj_ret (r := some (.inl 0)) (ax_dec2 (i := .ireturn) (n := 1) ok_X11_rank rfl) ⟨?_, ?_, by decide, by decide⟩ rfl
                    · exact ⟨ax_si (by unfold wRank; (repeat first | rw [if_pos (by omega)] | rw [if_neg (by omega)] | rw [bI_t (by omega)] | rw [bI_f (by omega)]); try first | rfl | omega), rfl⟩
                    · exact ax_ro_i
                  · refine aj_run (C := True) (pc' := 85) (la' := [some (.inl op)]) (st' := [.inl 7]) (M' := (P, g, r0, n)) ok_X11_rank true 2 rfl trivial ?_
                    refine aj_ret (r := some (.inl 7)) (ax_dec2 (i := .ireturn) (n := 1) ok_X11_rank rfl) ⟨?_, ?_, by decide, by decide⟩ rfl
                    · exact ⟨ax_si (by unfold wRank; (repeat first | rw [if_pos (by omega)] | rw [if_neg (by omega)] | rw [bI_t (by omega)] | rw [bI_f (by omega)]); try first | rfl | omega), rfl⟩
                    · exact ax_ro_i
                · refine aj_run (C := True) (pc' := 85) (la' := [some (.inl op)]) (st' := [.inl 6]) (M' := (P, g, r0, n)) ok_X11_rank true 2 rfl trivial ?_
                  refine aj_ret (r := some (.inl 6)) (ax_dec2 (i := .ireturn) (n := 1) ok_X11_rank rfl) ⟨?_, ?_, by decide, by decide⟩ rfl
                  · exact ⟨ax_si (by unfold wRank; (repeat first | rw [if_pos (by omega)] | rw [if_neg (by omega)] | rw [bI_t (by omega)] | rw [bI_f (by omega)]); try first | rfl | omega), rfl⟩
                  · exact ax_ro_i
              · refine aj_run (C := True) (pc' := 85) (la' := [some (.inl op)]) (st' := [.inl 5]) (M' := (P, g, r0, n)) ok_X11_rank true 2 rfl trivial ?_
                refine aj_ret (r := some (.inl 5)) (ax_dec2 (i := .ireturn) (n := 1) ok_X11_rank rfl) ⟨?_, ?_, by decide, by decide⟩ rfl
                · exact ⟨ax_si (by unfold wRank; (repeat first | rw [if_pos (by omega)] | rw [if_neg (by omega)] | rw [bI_t (by omega)] | rw [bI_f (by omega)]); try first | rfl | omega), rfl⟩
                · exact ax_ro_i
          · refine aj_run (C := True) (pc' := 85) (la' := [some (.inl op)]) (st' := [.inl 4]) (M' := (P, g, r0, n)) ok_X11_rank true 2 rfl trivial ?_
            refine aj_ret (r := some (.inl 4)) (ax_dec2 (i := .ireturn) (n := 1) ok_X11_rank rfl) ⟨?_, ?_, by decide, by decide⟩ rfl
            · exact ⟨ax_si (by unfold wRank; (repeat first | rw [if_pos (by omega)] | rw [if_neg (by omega)] | rw [bI_t (by omega)] | rw [bI_f (by omega)]); try first | rfl | omega), rfl⟩
            · exact ax_ro_i
      · refine aj_run (C := True) (pc' := 85) (la' := [some (.inl op)]) (st' := [.inl 3]) (M' := (P, g, r0, n)) ok_X11_rank true 2 rfl trivial ?_
        refine aj_ret (r := some (.inl 3)) (ax_dec2 (i := .ireturn) (n := 1) ok_X11_rank rfl) ⟨?_, ?_, by decide, by decide⟩ rfl
        · exact ⟨ax_si (by unfold wRank; (repeat first | rw [if_pos (by omega)] | rw [if_neg (by omega)] | rw [bI_t (by omega)] | rw [bI_f (by omega)]); try first | rfl | omega), rfl⟩
        · exact ax_ro_i
    · refine aj_run (C := True) (pc' := 85) (la' := [some (.inl op)]) (st' := [.inl 2]) (M' := (P, g, r0, n)) ok_X11_rank true 2 rfl trivial ?_
      refine aj_ret (r := some (.inl 2)) (ax_dec2 (i := .ireturn) (n := 1) ok_X11_rank rfl) ⟨?_, ?_, by decide, by decide⟩ rfl
      · exact ⟨ax_si (by unfold wRank; (repeat first | rw [if_pos (by omega)] | rw [if_neg (by omega)] | rw [bI_t (by omega)] | rw [bI_f (by omega)]); try first | rfl | omega), rfl⟩
      · exact ax_ro_i
  · refine aj_run (C := True) (pc' := 85) (la' := [some (.inl op)]) (st' := [.inl 1]) (M' := (P, g, r0, n)) ok_X11_rank true 2 rfl trivial ?_
    refine aj_ret (r := some (.inl 1)) (ax_dec2 (i := .ireturn) (n := 1) ok_X11_rank rfl) ⟨?_, ?_, by decide, by decide⟩ rfl
    · exact ⟨ax_si (by unfold wRank; (repeat first | rw [if_pos (by omega)] | rw [if_neg (by omega)] | rw [bI_t (by omega)] | rw [bI_f (by omega)]); try first | rfl | omega), rfl⟩
    · exact ax_ro_i

