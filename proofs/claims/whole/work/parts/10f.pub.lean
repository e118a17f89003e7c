theorem bI_n0 {p : Prop} [Decidable p] (h : ¬ bI p = 0) : p := by
  by_cases q : p
  · exact q
  · exact absurd (bI_f q) h
theorem bI_e0 {p : Prop} [Decidable p] (h : bI p = 0) : ¬ p := by
  intro q
  rw [bI_t q] at h
  cases h
def mTold (g : Nat → Int → Int → Int) (a w : Int) : Int := if 0 ≤ a ∧ a < g 50 0 2 then (if w = 0 then g 104 0 a else if w = 1 then g 105 0 a else if w = 2 then g 106 0 a else if w = 3 then g 107 0 a else if w = 4 then g 103 0 a else if w = 5 then wWeighs (g 103 0 a) (g 107 0 a) else -2) else -2
set_option maxRecDepth 100000 in
set_option maxHeartbeats 4000000 in
theorem sp_told (a w : Int) (P : Nat → Int → Prop) (g : Nat → Int → Int → Int) (r0 : Nat → Int → Int → Option (Nat × Int)) (n : Nat → Int → Int) (hn : mLen n) (h2 : 0 ≤ g 50 0 2 ∧ g 50 0 2 ≤ 7) (hN : ∀ a, 0 ≤ a → a < g 50 0 2 → 0 ≤ g 107 0 a ∧ g 107 0 a ≤ 9) : ax_S yX11_told cX11_told 3 (some FieldType.int) 2 0 0 [.inr (.inr (some (50, 0))), .inl a, .inl w] (P, g, r0, n) (fun r M' => r = some (.inl (mTold g a w)) ∧ M' = (P, g, r0, n)) := by
  have n104 : n 104 0 = 7 := hn (104, 7) (by decide)
  have n105 : n 105 0 = 7 := hn (105, 7) (by decide)
  have n106 : n 106 0 = 7 := hn (106, 7) (by decide)
  have n107 : n 107 0 = 7 := hn (107, 7) (by decide)
  have n103 : n 103 0 = 7 := hn (103, 7) (by decide)
  refine ax_S_of (own := 11) (by decide) rfl (fun h => absurd h (by decide)) rfl (Nat.le_of_ble_eq_true rfl) ?_
  change ax_J _ _ _ _ _ _ _ _ _ _ [some (.inr (.inr (some (50, 0)))), some (.inl a), some (.inl w)] _ _
  refine aj_run (C := True) (pc' := 2) (la' := [some (.inr (.inr (some (50, 0)))), some (.inl a), some (.inl w)]) (st' := [.inl a, .inr (.inr (some (50, 0)))]) (M' := (P, g, r0, n)) ok_X11_told true 2 rfl trivial ?_
  refine aj_callV (av := [.inl a]) (st := []) (f := 50) (o := 0) (ci := 11) cal_X11_isAnt lk_11_33 ins_X11_isAnt rfl sel_X11_isAnt rfl (fun c9 h9 _ => by simpa [ax_ok] using h9) (sp_isAnt a _ _ _ _ h2) ⟨by decide, by decide, by decide, by decide⟩ (Nat.le_of_ble_eq_true rfl) (ax_dec2 (i := .invokevirtual 33) (n := 3) ok_X11_told rfl) (fun r M' hq => ?_)
  obtain ⟨rfl, rfl⟩ := hq
  change ax_J _ _ _ _ _ _ _ _ _ 5 [some (.inr (.inr (some (50, 0)))), some (.inl a), some (.inl w)] [.inl (bI (0 ≤ a ∧ a < g 50 0 2))] (P, g, r0, n)
  refine aj_if_ne (tgt := 11) (ax_dec2 (i := .ifCond .ne 6) (n := 3) ok_X11_told rfl) (by decide) (fun c1 => ?_) (fun c1 => ?_)
  · replace c1 := bI_n0 c1
    refine aj_run (C := True) (pc' := 12) (la' := [some (.inr (.inr (some (50, 0)))), some (.inl a), some (.inl w)]) (st' := [.inl w]) (M' := (P, g, r0, n)) ok_X11_told true 1 rfl trivial ?_
    by_cases s2 : w = 0
    · refine aj_tsw (tgt := 52) (ax_dec2 (i := .tableswitch 81 0 5 #[40, 47, 54, 61, 68, 75]) (n := 40) ok_X11_told rfl) (by decide) (by rw [s2]; decide) ?_
      refine aj_run (C := (0 ≤ a ∧ a < n 104 0) ∧ True) (pc' := 58) (la' := [some (.inr (.inr (some (50, 0)))), some (.inl a), some (.inl w)]) (st' := [.inl (g 104 0 a)]) (M' := (P, g, r0, n)) ok_X11_told true 4 rfl (by refine ⟨?_, trivial⟩ <;> (omega)) ?_
      refine aj_ret (r := some (.inl (g 104 0 a))) (ax_dec2 (i := .ireturn) (n := 1) ok_X11_told rfl) ⟨?_, ?_, by decide, by decide⟩ rfl
      · (first | (exfalso; omega) | exact ⟨ax_si (by unfold mTold; (repeat first | rw [if_pos (by omega)] | rw [if_neg (by omega)] | rw [bI_t (by omega)] | rw [bI_f (by omega)]); try first | rfl | omega), rfl⟩)
      · exact ax_ro_i
    by_cases s3 : w = 1
    · refine aj_tsw (tgt := 59) (ax_dec2 (i := .tableswitch 81 0 5 #[40, 47, 54, 61, 68, 75]) (n := 40) ok_X11_told rfl) (by decide) (by rw [s3]; decide) ?_
      refine aj_run (C := (0 ≤ a ∧ a < n 105 0) ∧ True) (pc' := 65) (la' := [some (.inr (.inr (some (50, 0)))), some (.inl a), some (.inl w)]) (st' := [.inl (g 105 0 a)]) (M' := (P, g, r0, n)) ok_X11_told true 4 rfl (by refine ⟨?_, trivial⟩ <;> (omega)) ?_
      refine aj_ret (r := some (.inl (g 105 0 a))) (ax_dec2 (i := .ireturn) (n := 1) ok_X11_told rfl) ⟨?_, ?_, by decide, by decide⟩ rfl
      · (first | (exfalso; omega) | exact ⟨ax_si (by unfold mTold; (repeat first | rw [if_pos (by omega)] | rw [if_neg (by omega)] | rw [bI_t (by omega)] | rw [bI_f (by omega)]); try first | rfl | omega), rfl⟩)
      · exact ax_ro_i
    by_cases s4 : w = 2
    · refine aj_tsw (tgt := 66) (ax_dec2 (i := .tableswitch 81 0 5 #[40, 47, 54, 61, 68, 75]) (n := 40) ok_X11_told rfl) (by decide) (by rw [s4]; decide) ?_
      refine aj_run (C := (0 ≤ a ∧ a < n 106 0) ∧ True) (pc' := 72) (la' := [some (.inr (.inr (some (50, 0)))), some (.inl a), some (.inl w)]) (st' := [.inl (g 106 0 a)]) (M' := (P, g, r0, n)) ok_X11_told true 4 rfl (by refine ⟨?_, trivial⟩ <;> (omega)) ?_
      refine aj_ret (r := some (.inl (g 106 0 a))) (ax_dec2 (i := .ireturn) (n := 1) ok_X11_told rfl) ⟨?_, ?_, by decide, by decide⟩ rfl
      · (first | (exfalso; omega) | exact ⟨ax_si (by unfold mTold; (repeat first | rw [if_pos (by omega)] | rw [if_neg (by omega)] | rw [bI_t (by omega)] | rw [bI_f (by omega)]); try first | rfl | omega), rfl⟩)
      · exact ax_ro_i
    by_cases s5 : w = 3
    · refine aj_tsw (tgt := 73) (ax_dec2 (i := .tableswitch 81 0 5 #[40, 47, 54, 61, 68, 75]) (n := 40) ok_X11_told rfl) (by decide) (by rw [s5]; decide) ?_
      refine aj_run (C := (0 ≤ a ∧ a < n 107 0) ∧ True) (pc' := 79) (la' := [some (.inr (.inr (some (50, 0)))), some (.inl a), some (.inl w)]) (st' := [.inl (g 107 0 a)]) (M' := (P, g, r0, n)) ok_X11_told true 4 rfl (by refine ⟨?_, trivial⟩ <;> (omega)) ?_
      refine aj_ret (r := some (.inl (g 107 0 a))) (ax_dec2 (i := .ireturn) (n := 1) ok_X11_told rfl) ⟨?_, ?_, by decide, by decide⟩ rfl
      · (first | (exfalso; omega) | exact ⟨ax_si (by unfold mTold; (repeat first | rw [if_pos (by omega)] | rw [if_neg (by omega)] | rw [bI_t (by omega)] | rw [bI_f (by omega)]); try first | rfl | omega), rfl⟩)
      · exact ax_ro_i
    by_cases s6 : w = 4
    · refine aj_tsw (tgt := 80) (ax_dec2 (i := .tableswitch 81 0 5 #[40, 47, 54, 61, 68, 75]) (n := 40) ok_X11_told rfl) (by decide) (by rw [s6]; decide) ?_
      refine aj_run (C := (0 ≤ a ∧ a < n 103 0) ∧ True) (pc' := 86) (la' := [some (.inr (.inr (some (50, 0)))), some (.inl a), some (.inl w)]) (st' := [.inl (g 103 0 a)]) (M' := (P, g, r0, n)) ok_X11_told true 4 rfl (by refine ⟨?_, trivial⟩ <;> (omega)) ?_
      refine aj_ret (r := some (.inl (g 103 0 a))) (ax_dec2 (i := .ireturn) (n := 1) ok_X11_told rfl) ⟨?_, ?_, by decide, by decide⟩ rfl
      · (first | (exfalso; omega) | exact ⟨ax_si (by unfold mTold; (repeat first | rw [if_pos (by omega)] | rw [if_neg (by omega)] | rw [bI_t (by omega)] | rw [bI_f (by omega)]); try first | rfl | omega), rfl⟩)
      · exact ax_ro_i
    by_cases s7 : w = 5
    · refine aj_tsw (tgt := 87) (ax_dec2 (i := .tableswitch 81 0 5 #[40, 47, 54, 61, 68, 75]) (n := 40) ok_X11_told rfl) (by decide) (by rw [s7]; decide) ?_
      refine aj_run (C := True) (pc' := 89) (la' := [some (.inr (.inr (some (50, 0)))), some (.inl a), some (.inl w)]) (st' := [.inl a, .inr (.inr (some (50, 0)))]) (M' := (P, g, r0, n)) ok_X11_told true 2 rfl trivial ?_
      refine aj_callV (av := [.inl a]) (st := []) (f := 50) (o := 0) (ci := 11) cal_X11_weighs lk_11_41 ins_X11_weighs rfl sel_X11_weighs rfl (fun c9 h9 _ => by simpa [ax_ok] using h9) (sp_weighs a _ _ _ _ hn (by omega) (hN _ (by omega) (by omega))) ⟨by decide, by decide, by decide, by decide⟩ (Nat.le_of_ble_eq_true rfl) (ax_dec2 (i := .invokevirtual 41) (n := 3) ok_X11_told rfl) (fun r M' hq => ?_)
      obtain ⟨rfl, rfl⟩ := hq
      change ax_J _ _ _ _ _ _ _ _ _ 92 [some (.inr (.inr (some (50, 0)))), some (.inl a), some (.inl w)] [.inl (wWeighs (g 103 0 a) (g 107 0 a))] (P, g, r0, n)
      refine aj_ret (r := some (.inl (wWeighs (g 103 0 a) (g 107 0 a)))) (ax_dec2 (i := .ireturn) (n := 1) ok_X11_told rfl) ⟨?_, ?_, by decide, by decide⟩ rfl
      · (first | (exfalso; omega) | exact ⟨ax_si (by unfold mTold; (repeat first | rw [if_pos (by omega)] | rw [if_neg (by omega)] | rw [bI_t (by omega)] | rw [bI_f (by omega)]); try first | rfl | omega), rfl⟩)
      · exact ax_ro_i
    refine aj_tsw (tgt := 93) (ax_dec2 (i := .tableswitch 81 0 5 #[40, 47, 54, 61, 68, 75]) (n := 40) ok_X11_told rfl) (by decide) (by rw [ax_tsw_d w (by decide) (by decide) (by omega)]; decide) ?_
    refine aj_run (C := True) (pc' := 95) (la' := [some (.inr (.inr (some (50, 0)))), some (.inl a), some (.inl w)]) (st' := [.inl (-2)]) (M' := (P, g, r0, n)) ok_X11_told true 1 rfl trivial ?_
    refine aj_ret (r := some (.inl (-2))) (ax_dec2 (i := .ireturn) (n := 1) ok_X11_told rfl) ⟨?_, ?_, by decide, by decide⟩ rfl
    · (first | (exfalso; omega) | exact ⟨ax_si (by unfold mTold; (repeat first | rw [if_pos (by omega)] | rw [if_neg (by omega)] | rw [bI_t (by omega)] | rw [bI_f (by omega)]); try first | rfl | omega), rfl⟩)
    · exact ax_ro_i
  · replace c1 := bI_e0 c1
    refine aj_run (C := True) (pc' := 10) (la' := [some (.inr (.inr (some (50, 0)))), some (.inl a), some (.inl w)]) (st' := [.inl (-2)]) (M' := (P, g, r0, n)) ok_X11_told true 1 rfl trivial ?_
    refine aj_ret (r := some (.inl (-2))) (ax_dec2 (i := .ireturn) (n := 1) ok_X11_told rfl) ⟨?_, ?_, by decide, by decide⟩ rfl
    · (first | (exfalso; omega) | exact ⟨ax_si (by unfold mTold; (repeat first | rw [if_pos (by omega)] | rw [if_neg (by omega)] | rw [bI_t (by omega)] | rw [bI_f (by omega)]); try first | rfl | omega), rfl⟩)
    · exact ax_ro_i

def mCount (g : Nat → Int → Int → Int) (w : Int) : Int := if w = 0 then g 50 0 2 else if w = 1 then g 50 0 0 else if w = 2 then g 50 0 1 else if w = 3 then g 50 0 10 else if w = 4 then g 50 0 9 else if w = 5 then g 50 0 11 else -2
set_option maxRecDepth 100000 in
set_option maxHeartbeats 4000000 in
theorem sp_count (w : Int) (P : Nat → Int → Prop) (g : Nat → Int → Int → Int) (r0 : Nat → Int → Int → Option (Nat × Int)) (n : Nat → Int → Int) : ax_S yX11_count cX11_count 2 (some FieldType.int) 0 0 0 [.inr (.inr (some (50, 0))), .inl w] (P, g, r0, n) (fun r M' => r = some (.inl (mCount g w)) ∧ M' = (P, g, r0, n)) := by
  refine ax_S_of (own := 11) (by decide) rfl (fun h => absurd h (by decide)) rfl (Nat.le_of_ble_eq_true rfl) ?_
  change ax_J _ _ _ _ _ _ _ _ _ _ [some (.inr (.inr (some (50, 0)))), some (.inl w)] _ _
  refine aj_run (C := True) (pc' := 1) (la' := [some (.inr (.inr (some (50, 0)))), some (.inl w)]) (st' := [.inl w]) (M' := (P, g, r0, n)) ok_X11_count true 1 rfl trivial ?_
  by_cases s1 : w = 0
  · refine aj_tsw (tgt := 40) (ax_dec2 (i := .tableswitch 69 0 5 #[39, 44, 49, 54, 59, 64]) (n := 39) ok_X11_count rfl) (by decide) (by rw [s1]; decide) ?_
    refine aj_run (C := True) (pc' := 44) (la' := [some (.inr (.inr (some (50, 0)))), some (.inl w)]) (st' := [.inl (g 50 0 2)]) (M' := (P, g, r0, n)) ok_X11_count true 2 rfl trivial ?_
    refine aj_ret (r := some (.inl (g 50 0 2))) (ax_dec2 (i := .ireturn) (n := 1) ok_X11_count rfl) ⟨?_, ?_, by decide, by decide⟩ rfl
    · exact ⟨ax_si (by unfold mCount; (repeat first | rw [if_pos (by omega)] | rw [if_neg (by omega)] | rw [bI_t (by omega)] | rw [bI_f (by omega)]); try first | rfl | omega), rfl⟩
    · exact ax_ro_i
  by_cases s2 : w = 1
  · refine aj_tsw (tgt := 45) (ax_dec2 (i := .tableswitch 69 0 5 #[39, 44, 49, 54, 59, 64]) (n := 39) ok_X11_count rfl) (by decide) (by rw [s2]; decide) ?_
    refine aj_run (C := True) (pc' := 49) (la' := [some (.inr (.inr (some (50, 0)))), some (.inl w)]) (st' := [.inl (g 50 0 0)]) (M' := (P, g, r0, n)) ok_X11_count true 2 rfl trivial ?_
    refine aj_ret (r := some (.inl (g 50 0 0))) (ax_dec2 (i := .ireturn) (n := 1) ok_X11_count rfl) ⟨?_, ?_, by decide, by decide⟩ rfl
    · exact ⟨ax_si (by unfold mCount; (repeat first | rw [if_pos (by omega)] | rw [if_neg (by omega)] | rw [bI_t (by omega)] | rw [bI_f (by omega)]); try first | rfl | omega), rfl⟩
    · exact ax_ro_i
  by_cases s3 : w = 2
  · refine aj_tsw (tgt := 50) (ax_dec2 (i := .tableswitch 69 0 5 #[39, 44, 49, 54, 59, 64]) (n := 39) ok_X11_count rfl) (by decide) (by rw [s3]; decide) ?_
    refine aj_run (C := True) (pc' := 54) (la' := [some (.inr (.inr (some (50, 0)))), some (.inl w)]) (st' := [.inl (g 50 0 1)]) (M' := (P, g, r0, n)) ok_X11_count true 2 rfl trivial ?_
    refine aj_ret (r := some (.inl (g 50 0 1))) (ax_dec2 (i := .ireturn) (n := 1) ok_X11_count rfl) ⟨?_, ?_, by decide, by decide⟩ rfl
    · exact ⟨ax_si (by unfold mCount; (repeat first | rw [if_pos (by omega)] | rw [if_neg (by omega)] | rw [bI_t (by omega)] | rw [bI_f (by omega)]); try first | rfl | omega), rfl⟩
    · exact ax_ro_i
  by_cases s4 : w = 3
  · refine aj_tsw (tgt := 55) (ax_dec2 (i := .tableswitch 69 0 5 #[39, 44, 49, 54, 59, 64]) (n := 39) ok_X11_count rfl) (by decide) (by rw [s4]; decide) ?_
    refine aj_run (C := True) (pc' := 59) (la' := [some (.inr (.inr (some (50, 0)))), some (.inl w)]) (st' := [.inl (g 50 0 10)]) (M' := (P, g, r0, n)) ok_X11_count true 2 rfl trivial ?_
    refine aj_ret (r := some (.inl (g 50 0 10))) (ax_dec2 (i := .ireturn) (n := 1) ok_X11_count rfl) ⟨?_, ?_, by decide, by decide⟩ rfl
    · exact ⟨ax_si (by unfold mCount; (repeat first | rw [if_pos (by omega)] | rw [if_neg (by omega)] | rw [bI_t (by omega)] | rw [bI_f (by omega)]); try first | rfl | omega), rfl⟩
    · exact ax_ro_i
  by_cases s5 : w = 4
  · refine aj_tsw (tgt := 60) (ax_dec2 (i := .tableswitch 69 0 5 #[39, 44, 49, 54, 59, 64]) (n := 39) ok_X11_count rfl) (by decide) (by rw [s5]; decide) ?_
    refine aj_run (C := True) (pc' := 64) (la' := [some (.inr (.inr (some (50, 0)))), some (.inl w)]) (st' := [.inl (g 50 0 9)]) (M' := (P, g, r0, n)) ok_X11_count true 2 rfl trivial ?_
    refine aj_ret (r := some (.inl (g 50 0 9))) (ax_dec2 (i := .ireturn) (n := 1) ok_X11_count rfl) ⟨?_, ?_, by decide, by decide⟩ rfl
    · exact ⟨ax_si (by unfold mCount; (repeat first | rw [if_pos (by omega)] | rw [if_neg (by omega)] | rw [bI_t (by omega)] | rw [bI_f (by omega)]); try first | rfl | omega), rfl⟩
    · exact ax_ro_i
  by_cases s6 : w = 5
  · refine aj_tsw (tgt := 65) (ax_dec2 (i := .tableswitch 69 0 5 #[39, 44, 49, 54, 59, 64]) (n := 39) ok_X11_count rfl) (by decide) (by rw [s6]; decide) ?_
    refine aj_run (C := True) (pc' := 69) (la' := [some (.inr (.inr (some (50, 0)))), some (.inl w)]) (st' := [.inl (g 50 0 11)]) (M' := (P, g, r0, n)) ok_X11_count true 2 rfl trivial ?_
    refine aj_ret (r := some (.inl (g 50 0 11))) (ax_dec2 (i := .ireturn) (n := 1) ok_X11_count rfl) ⟨?_, ?_, by decide, by decide⟩ rfl
    · exact ⟨ax_si (by unfold mCount; (repeat first | rw [if_pos (by omega)] | rw [if_neg (by omega)] | rw [bI_t (by omega)] | rw [bI_f (by omega)]); try first | rfl | omega), rfl⟩
    · exact ax_ro_i
  refine aj_tsw (tgt := 70) (ax_dec2 (i := .tableswitch 69 0 5 #[39, 44, 49, 54, 59, 64]) (n := 39) ok_X11_count rfl) (by decide) (by rw [ax_tsw_d w (by decide) (by decide) (by omega)]; decide) ?_
  refine aj_run (C := True) (pc' := 72) (la' := [some (.inr (.inr (some (50, 0)))), some (.inl w)]) (st' := [.inl (-2)]) (M' := (P, g, r0, n)) ok_X11_count true 1 rfl trivial ?_
  refine aj_ret (r := some (.inl (-2))) (ax_dec2 (i := .ireturn) (n := 1) ok_X11_count rfl) ⟨?_, ?_, by decide, by decide⟩ rfl
  · exact ⟨ax_si (by unfold mCount; (repeat first | rw [if_pos (by omega)] | rw [if_neg (by omega)] | rw [bI_t (by omega)] | rw [bI_f (by omega)]); try first | rfl | omega), rfl⟩
  · exact ax_ro_i

def mFeed (g : Nat → Int → Int → Int) (x : Int) : Int × (Nat → Int → Int → Int) := if 0 ≤ x ∧ x ≤ 255 then (if g 50 0 9 = 160 then (-4, g) else (g 50 0 9 + 1, ax_u3 (ax_u3 g 108 0 (g 50 0 9) x) 50 0 9 (g 50 0 9 + 1))) else (-2, g)
def mForce (g : Nat → Int → Int → Int) (x : Int) : Int × (Nat → Int → Int → Int) := if 0 ≤ x ∧ x < g 50 0 10 then (g 50 0 11, ax_u3 g 50 0 11 x) else (-2, g)
set_option maxRecDepth 100000 in
set_option maxHeartbeats 4000000 in
theorem sp_feed (x : Int) (P : Nat → Int → Prop) (g : Nat → Int → Int → Int) (r0 : Nat → Int → Int → Option (Nat × Int)) (n : Nat → Int → Int) (hn : mLen n) (ht : 0 ≤ g 50 0 9 ∧ g 50 0 9 ≤ 160) : ax_S yX11_feed cX11_feed 2 (some FieldType.int) 1 0 0 [.inr (.inr (some (50, 0))), .inl x] (P, g, r0, n) (fun r M' => r = some (.inl (mFeed g x).1) ∧ M' = (P, (mFeed g x).2, r0, n)) := by
  have n108 : n 108 0 = 160 := hn (108, 160) (by decide)
  refine ax_S_of (own := 11) (by decide) rfl (fun h => absurd h (by decide)) rfl (Nat.le_of_ble_eq_true rfl) ?_
  change ax_J _ _ _ _ _ _ _ _ _ _ [some (.inr (.inr (some (50, 0)))), some (.inl x)] _ _
  refine aj_run (C := True) (pc' := 5) (la' := [some (.inr (.inr (some (50, 0)))), some (.inl x)]) (st' := [.inl 255, .inl 0, .inl x]) (M' := (P, g, r0, n)) ok_X11_feed true 3 rfl trivial ?_
  refine aj_callS (av := [.inl x, .inl 0, .inl 255]) (st := []) cal_X11_isIn lk_11_7 stc_X11_isIn (sp_isIn x 0 255 _ _ _ _) ⟨by decide, by decide, by decide, by decide⟩ (Nat.le_of_ble_eq_true rfl) (ax_dec2 (i := .invokestatic 7) (n := 3) ok_X11_feed rfl) (fun r M' hq => ?_)
  obtain ⟨rfl, rfl⟩ := hq
  change ax_J _ _ _ _ _ _ _ _ _ 8 [some (.inr (.inr (some (50, 0)))), some (.inl x)] [.inl (bI (0 ≤ x ∧ x ≤ 255))] (P, g, r0, n)
  refine aj_if_ne (tgt := 14) (ax_dec2 (i := .ifCond .ne 6) (n := 3) ok_X11_feed rfl) (by decide) (fun c1 => ?_) (fun c1 => ?_)
  · replace c1 := bI_n0 c1
    refine aj_run (C := True) (pc' := 21) (la' := [some (.inr (.inr (some (50, 0)))), some (.inl x)]) (st' := [.inl 160, .inl (g 50 0 9)]) (M' := (P, g, r0, n)) ok_X11_feed true 3 rfl trivial ?_
    refine aj_icmp_ne (tgt := 27) (ax_dec2 (i := .if_icmp .ne 6) (n := 3) ok_X11_feed rfl) (by decide) (fun c2 => ?_) (fun c2 => ?_)
    · refine aj_run (C := (0 ≤ g 50 0 9 ∧ g 50 0 9 < n 108 0) ∧ (-2147483648 ≤ (g 50 0 9) + 1 ∧ (g 50 0 9) + 1 ≤ 2147483647) ∧ True) (pc' := 51) (la' := [some (.inr (.inr (some (50, 0)))), some (.inl x)]) (st' := [.inl ((g 50 0 9) + 1)]) (M' := (P, ax_u3 (ax_u3 g 108 0 (g 50 0 9) x) 50 0 9 ((g 50 0 9) + 1), r0, n)) ok_X11_feed true 14 rfl (by refine ⟨?_, ?_, trivial⟩ <;> (omega)) ?_
      refine aj_ret (r := some (.inl ((g 50 0 9) + 1))) (ax_dec2 (i := .ireturn) (n := 1) ok_X11_feed rfl) ⟨?_, ?_, by decide, by decide⟩ rfl
      · (exact ⟨ax_si (by unfold mFeed; (repeat first | rw [if_pos (by omega)] | rw [if_neg (by omega)] | rw [bI_t (by omega)] | rw [bI_f (by omega)]); try first | rfl | omega), (by unfold mFeed; (repeat first | rw [if_pos (by omega)] | rw [if_neg (by omega)] | rw [bI_t (by omega)] | rw [bI_f (by omega)]); try rfl)⟩)
      · exact ax_ro_i
    · refine aj_run (C := True) (pc' := 26) (la' := [some (.inr (.inr (some (50, 0)))), some (.inl x)]) (st' := [.inl (-4)]) (M' := (P, g, r0, n)) ok_X11_feed true 1 rfl trivial ?_
      refine aj_ret (r := some (.inl (-4))) (ax_dec2 (i := .ireturn) (n := 1) ok_X11_feed rfl) ⟨?_, ?_, by decide, by decide⟩ rfl
      · (exact ⟨ax_si (by unfold mFeed; (repeat first | rw [if_pos (by omega)] | rw [if_neg (by omega)] | rw [bI_t (by omega)] | rw [bI_f (by omega)]); try first | rfl | omega), (by unfold mFeed; (repeat first | rw [if_pos (by omega)] | rw [if_neg (by omega)] | rw [bI_t (by omega)] | rw [bI_f (by omega)]); try rfl)⟩)
      · exact ax_ro_i
  · replace c1 := bI_e0 c1
    refine aj_run (C := True) (pc' := 13) (la' := [some (.inr (.inr (some (50, 0)))), some (.inl x)]) (st' := [.inl (-2)]) (M' := (P, g, r0, n)) ok_X11_feed true 1 rfl trivial ?_
    refine aj_ret (r := some (.inl (-2))) (ax_dec2 (i := .ireturn) (n := 1) ok_X11_feed rfl) ⟨?_, ?_, by decide, by decide⟩ rfl
    · (exact ⟨ax_si (by unfold mFeed; (repeat first | rw [if_pos (by omega)] | rw [if_neg (by omega)] | rw [bI_t (by omega)] | rw [bI_f (by omega)]); try first | rfl | omega), (by unfold mFeed; (repeat first | rw [if_pos (by omega)] | rw [if_neg (by omega)] | rw [bI_t (by omega)] | rw [bI_f (by omega)]); try rfl)⟩)
    · exact ax_ro_i

set_option maxRecDepth 100000 in
set_option maxHeartbeats 4000000 in
theorem sp_force (x : Int) (P : Nat → Int → Prop) (g : Nat → Int → Int → Int) (r0 : Nat → Int → Int → Option (Nat × Int)) (n : Nat → Int → Int) (ht : 1 ≤ g 50 0 10 ∧ g 50 0 10 ≤ 6) : ax_S yX11_force cX11_force 3 (some FieldType.int) 1 0 0 [.inr (.inr (some (50, 0))), .inl x] (P, g, r0, n) (fun r M' => r = some (.inl (mForce g x).1) ∧ M' = (P, (mForce g x).2, r0, n)) := by
  refine ax_S_of (own := 11) (by decide) rfl (fun h => absurd h (by decide)) rfl (Nat.le_of_ble_eq_true rfl) ?_
  change ax_J _ _ _ _ _ _ _ _ _ _ [some (.inr (.inr (some (50, 0)))), some (.inl x), none] _ _
  refine aj_run (C := (-2147483648 ≤ (g 50 0 10) - 1 ∧ (g 50 0 10) - 1 ≤ 2147483647) ∧ True) (pc' := 8) (la' := [some (.inr (.inr (some (50, 0)))), some (.inl x), none]) (st' := [.inl ((g 50 0 10) - 1), .inl 0, .inl x]) (M' := (P, g, r0, n)) ok_X11_force true 6 rfl (by refine ⟨?_, trivial⟩ <;> (omega)) ?_
  refine aj_callS (av := [.inl x, .inl 0, .inl ((g 50 0 10) - 1)]) (st := []) cal_X11_isIn lk_11_7 stc_X11_isIn (sp_isIn x 0 ((g 50 0 10) - 1) _ _ _ _) ⟨by decide, by decide, by decide, by decide⟩ (Nat.le_of_ble_eq_true rfl) (ax_dec2 (i := .invokestatic 7) (n := 3) ok_X11_force rfl) (fun r M' hq => ?_)
  obtain ⟨rfl, rfl⟩ := hq
  change ax_J _ _ _ _ _ _ _ _ _ 11 [some (.inr (.inr (some (50, 0)))), some (.inl x), none] [.inl (bI (0 ≤ x ∧ x ≤ ((g 50 0 10) - 1)))] (P, g, r0, n)
  refine aj_if_ne (tgt := 17) (ax_dec2 (i := .ifCond .ne 6) (n := 3) ok_X11_force rfl) (by decide) (fun c1 => ?_) (fun c1 => ?_)
  · replace c1 := bI_n0 c1
    refine aj_run (C := True) (pc' := 28) (la' := [some (.inr (.inr (some (50, 0)))), some (.inl x), some (.inl (g 50 0 11))]) (st' := [.inl (g 50 0 11)]) (M' := (P, ax_u3 g 50 0 11 x, r0, n)) ok_X11_force true 7 rfl trivial ?_
    refine aj_ret (r := some (.inl (g 50 0 11))) (ax_dec2 (i := .ireturn) (n := 1) ok_X11_force rfl) ⟨?_, ?_, by decide, by decide⟩ rfl
    · (exact ⟨ax_si (by unfold mForce; (repeat first | rw [if_pos (by omega)] | rw [if_neg (by omega)] | rw [bI_t (by omega)] | rw [bI_f (by omega)]); try first | rfl | omega), (by unfold mForce; (repeat first | rw [if_pos (by omega)] | rw [if_neg (by omega)] | rw [bI_t (by omega)] | rw [bI_f (by omega)]); try rfl)⟩)
    · exact ax_ro_i
  · replace c1 := bI_e0 c1
    refine aj_run (C := True) (pc' := 16) (la' := [some (.inr (.inr (some (50, 0)))), some (.inl x), none]) (st' := [.inl (-2)]) (M' := (P, g, r0, n)) ok_X11_force true 1 rfl trivial ?_
    refine aj_ret (r := some (.inl (-2))) (ax_dec2 (i := .ireturn) (n := 1) ok_X11_force rfl) ⟨?_, ?_, by decide, by decide⟩ rfl
    · (exact ⟨ax_si (by unfold mForce; (repeat first | rw [if_pos (by omega)] | rw [if_neg (by omega)] | rw [bI_t (by omega)] | rw [bI_f (by omega)]); try first | rfl | omega), (by unfold mForce; (repeat first | rw [if_pos (by omega)] | rw [if_neg (by omega)] | rw [bI_t (by omega)] | rw [bI_f (by omega)]); try rfl)⟩)
    · exact ax_ro_i

set_option maxRecDepth 100000 in
set_option maxHeartbeats 4000000 in
theorem sp_isSheet (x : Int) (P : Nat → Int → Prop) (g : Nat → Int → Int → Int) (r0 : Nat → Int → Int → Option (Nat × Int)) (n : Nat → Int → Int) : ax_S yX11_isSheet cX11_isSheet 1 (some FieldType.boolean) 1 0 0 [.inl x] (P, g, r0, n) (fun r M' => r = some (.inl (bI (0 ≤ x ∧ x ≤ 3))) ∧ M' = (P, g, r0, n)) := by
  refine ax_S_of (own := 11) (by decide) rfl (fun h => absurd h (by decide)) rfl (Nat.le_of_ble_eq_true rfl) ?_
  change ax_J _ _ _ _ _ _ _ _ _ _ [some (.inl x)] _ _
  refine aj_run (C := True) (pc' := 3) (la' := [some (.inl x)]) (st' := [.inl 3, .inl 0, .inl x]) (M' := (P, g, r0, n)) ok_X11_isSheet true 3 rfl trivial ?_
  refine aj_callS (av := [.inl x, .inl 0, .inl 3]) (st := []) cal_X11_isIn lk_11_7 stc_X11_isIn (sp_isIn x 0 3 _ _ _ _) ⟨by decide, by decide, by decide, by decide⟩ (Nat.le_of_ble_eq_true rfl) (ax_dec2 (i := .invokestatic 7) (n := 3) ok_X11_isSheet rfl) (fun r M' hq => ?_)
  obtain ⟨rfl, rfl⟩ := hq
  change ax_J _ _ _ _ _ _ _ _ _ 6 [some (.inl x)] [.inl (bI (0 ≤ x ∧ x ≤ 3))] (P, g, r0, n)
  refine aj_ret (r := some (.inl (bI (0 ≤ x ∧ x ≤ 3)))) (ax_dec2 (i := .ireturn) (n := 1) ok_X11_isSheet rfl) ⟨?_, ?_, by decide, by decide⟩ rfl
  · exact ⟨rfl, rfl⟩
  · exact ax_ro_b bI_01

