/-! ===== tokens of the class ===== -/
def cTL (n : Nat → Int → Int) : Prop := n 302 0 = 160 ∧ n 303 0 = 161 ∧ n 304 0 = 161 ∧ n 305 0 = 161 ∧ n 308 0 = 160 ∧ n 309 0 = 160 ∧ n 310 0 = 160 ∧ n 311 0 = 3
def cStr (P : Nat → Int → Prop) : Prop := (∀ k, 0 ≤ k → k < 13 → P 91 k ∧ P 92 k) ∧ P 93 0
def TLx : Nat → Int → Int → Prop := fun f o j => f = 303 ∨ f = 304 ∨ f = 305 ∨ (f = 3 ∧ o = 0 ∧ j = 6)
def aT (g : Nat → Int → Int → Int) (tok f v : Int) : Nat → Int → Int → Int := ax_u3 (ax_u3 (ax_u3 (ax_u3 g 303 0 (g 3 0 6) tok) 304 0 (g 3 0 6) f) 305 0 (g 3 0 6) v) 3 0 6 (g 3 0 6 + 1)
theorem aT_fr {g : Nat → Int → Int → Int} {tok f v : Int} : cFr TLx (aT g tok f v) g := fun F o j z => by
  unfold aT
  unfold TLx at z
  rw [ax_u3_n (by omega), ax_u3_n (by omega), ax_u3_n (by omega), ax_u3_n (by omega)]
theorem aT_6 {g : Nat → Int → Int → Int} {tok f v : Int} : aT g tok f v 3 0 6 = g 3 0 6 + 1 := ax_u3_s
theorem aT_a {g : Nat → Int → Int → Int} {tok f v : Int} : aT g tok f v 303 0 (g 3 0 6) = tok ∧ aT g tok f v 304 0 (g 3 0 6) = f ∧ aT g tok f v 305 0 (g 3 0 6) = v := by
  unfold aT
  refine ⟨?_, ?_, ?_⟩
  · rw [ax_u3_n (by omega), ax_u3_n (by omega), ax_u3_n (by omega), ax_u3_s]
  · rw [ax_u3_n (by omega), ax_u3_n (by omega), ax_u3_s]
  · rw [ax_u3_n (by omega), ax_u3_s]
theorem aT_o {g : Nat → Int → Int → Int} {tok f v j : Int} {F : Nat} (h : j ≠ g 3 0 6) (hF : F ≠ 3) : aT g tok f v F 0 j = g F 0 j := by
  unfold aT
  rw [ax_u3_n (by omega), ax_u3_n (by omega), ax_u3_n (by omega), ax_u3_n (by omega)]
set_option maxRecDepth 100000 in
set_option maxHeartbeats 4000000 in
theorem cp_behind (f lo hi : Int) (P : Nat → Int → Prop) (g : Nat → Int → Int → Int) (r0 : Nat → Int → Int → Option (Nat × Int)) (n : Nat → Int → Int) (hn : cTL n) (hz : 0 ≤ g 3 0 0 ∧ g 3 0 0 ≤ 160) (hf : 0 ≤ f ∧ f ≤ g 3 0 0) : ax_S yX8_behind cX8_behind 5 (some FieldType.int) 0 0 0 [.inr (.inr (some (3, 0))), .inl f, .inl lo, .inl hi] (P, g, r0, n) (fun r M' => r = some (.inl (lx (fun j => decide (j < g 3 0 0 ∧ lo ≤ g 302 0 j ∧ g 302 0 j ≤ hi)) (g 3 0 0) f)) ∧ M' = (P, g, r0, n)) := by
  obtain ⟨n302, n303, n304, n305, n308, n309, n310, n311⟩ := hn
  refine ax_S_of (own := 8) (by decide) rfl (fun h => absurd h (by decide)) rfl (Nat.le_of_ble_eq_true rfl) ?_
  change ax_J _ _ _ _ _ _ _ _ _ _ [some (.inr (.inr (some (3, 0)))), some (.inl f), some (.inl lo), some (.inl hi), none] _ _
  refine aj_run (C := True) (pc' := 3) (la' := [some (.inr (.inr (some (3, 0)))), some (.inl f), some (.inl lo), some (.inl hi), some (.inl f)]) (st' := []) (M' := (P, g, r0, n)) ok_X8_behind true 2 rfl trivial ?_
  refine aj_loop (σ := (Int)) (fun xL => (f ≤ xL ∧ xL ≤ g 3 0 0) ∧ lx (fun j => decide (j < g 3 0 0 ∧ lo ≤ g 302 0 j ∧ g 302 0 j ≤ hi)) (g 3 0 0) f = lx (fun j => decide (j < g 3 0 0 ∧ lo ≤ g 302 0 j ∧ g 302 0 j ≤ hi)) (g 3 0 0) xL) (fun xL => (g 3 0 0 - xL).toNat) (fun xL => [some (.inr (.inr (some (3, 0)))), some (.inl f), some (.inl lo), some (.inl hi), some (.inl xL)]) (fun xL => []) (fun xL => (P, g, r0, n)) ?_ (f) ?_
  rotate_left
  · (try dsimp only); exact ⟨by omega, rfl⟩
  rintro t hI ih3
  try dsimp only at hI ih3
  obtain ⟨i1, i2⟩ := hI
  change ax_J _ _ _ _ _ _ _ _ _ 3 [some (.inr (.inr (some (3, 0)))), some (.inl f), some (.inl lo), some (.inl hi), some (.inl t)] [] (P, g, r0, n)
  refine aj_run (C := True) (pc' := 9) (la' := [some (.inr (.inr (some (3, 0)))), some (.inl f), some (.inl lo), some (.inl hi), some (.inl t)]) (st' := [.inl (g 3 0 0), .inl t]) (M' := (P, g, r0, n)) ok_X8_behind true 3 rfl trivial ?_
  refine aj_icmp_ge (tgt := 40) (ax_dec2 (i := .if_icmp .ge 31) (n := 3) ok_X8_behind rfl) (by decide) (fun c1 => ?_) (fun c1 => ?_)
  · refine aj_run (C := True) (pc' := 42) (la' := [some (.inr (.inr (some (3, 0)))), some (.inl f), some (.inl lo), some (.inl hi), some (.inl t)]) (st' := [.inl t]) (M' := (P, g, r0, n)) ok_X8_behind true 1 rfl trivial ?_
    refine aj_ret (r := some (.inl t)) (ax_dec2 (i := .ireturn) (n := 1) ok_X8_behind rfl) ⟨?_, ?_, by decide, by decide⟩ rfl
    · exact ⟨ax_si (by rw [i2, lx_n (decide_eq_false (by omega))]), rfl⟩
    · exact ax_ro_i
  · refine aj_run (C := (0 ≤ t ∧ t < n 302 0) ∧ True) (pc' := 20) (la' := [some (.inr (.inr (some (3, 0)))), some (.inl f), some (.inl lo), some (.inl hi), some (.inl t)]) (st' := [.inl lo, .inl (g 302 0 t)]) (M' := (P, g, r0, n)) ok_X8_behind true 5 rfl (by refine ⟨?_, trivial⟩ <;> (omega)) ?_
    refine aj_icmp_lt (tgt := 40) (ax_dec2 (i := .if_icmp .lt 20) (n := 3) ok_X8_behind rfl) (by decide) (fun c2 => ?_) (fun c2 => ?_)
    · refine aj_run (C := True) (pc' := 42) (la' := [some (.inr (.inr (some (3, 0)))), some (.inl f), some (.inl lo), some (.inl hi), some (.inl t)]) (st' := [.inl t]) (M' := (P, g, r0, n)) ok_X8_behind true 1 rfl trivial ?_
      refine aj_ret (r := some (.inl t)) (ax_dec2 (i := .ireturn) (n := 1) ok_X8_behind rfl) ⟨?_, ?_, by decide, by decide⟩ rfl
      · exact ⟨ax_si (by rw [i2, lx_n (decide_eq_false (by omega))]), rfl⟩
      · exact ax_ro_i
    · refine aj_run (C := (0 ≤ t ∧ t < n 302 0) ∧ True) (pc' := 31) (la' := [some (.inr (.inr (some (3, 0)))), some (.inl f), some (.inl lo), some (.inl hi), some (.inl t)]) (st' := [.inl hi, .inl (g 302 0 t)]) (M' := (P, g, r0, n)) ok_X8_behind true 5 rfl (by refine ⟨?_, trivial⟩ <;> (omega)) ?_
      refine aj_icmp_gt (tgt := 40) (ax_dec2 (i := .if_icmp .gt 9) (n := 3) ok_X8_behind rfl) (by decide) (fun c3 => ?_) (fun c3 => ?_)
      · refine aj_run (C := True) (pc' := 42) (la' := [some (.inr (.inr (some (3, 0)))), some (.inl f), some (.inl lo), some (.inl hi), some (.inl t)]) (st' := [.inl t]) (M' := (P, g, r0, n)) ok_X8_behind true 1 rfl trivial ?_
        refine aj_ret (r := some (.inl t)) (ax_dec2 (i := .ireturn) (n := 1) ok_X8_behind rfl) ⟨?_, ?_, by decide, by decide⟩ rfl
        · exact ⟨ax_si (by rw [i2, lx_n (decide_eq_false (by omega))]), rfl⟩
        · exact ax_ro_i
      · refine aj_run (C := (-2147483648 ≤ t + 1 ∧ t + 1 ≤ 2147483647) ∧ True) (pc' := 3) (la' := [some (.inr (.inr (some (3, 0)))), some (.inl f), some (.inl lo), some (.inl hi), some (.inl (t + 1))]) (st' := []) (M' := (P, g, r0, n)) ok_X8_behind true 2 rfl (by refine ⟨?_, trivial⟩ <;> (omega)) ?_
        refine ih3 (t + 1) ?_ ?_
        · (try dsimp only); exact ⟨by omega, by rw [i2, lx_y (decide_eq_true (by omega)) (by omega)]⟩
        · omega

set_option maxRecDepth 100000 in
set_option maxHeartbeats 4000000 in
theorem cp_isSgn (c : Int) (P : Nat → Int → Prop) (g : Nat → Int → Int → Int) (r0 : Nat → Int → Int → Option (Nat × Int)) (n : Nat → Int → Int) : ax_S yX8_isSign cX8_isSign 1 (some FieldType.boolean) 0 0 0 [.inl c] (P, g, r0, n) (fun r M' => r = some (.inl (bI (isSgB c = true))) ∧ M' = (P, g, r0, n)) := by
  refine ax_S_of (own := 8) (by decide) rfl (fun h => absurd h (by decide)) rfl (Nat.le_of_ble_eq_true rfl) ?_
  change ax_J _ _ _ _ _ _ _ _ _ _ [some (.inl c)] _ _
  refine aj_run (C := True) (pc' := 1) (la' := [some (.inl c)]) (st' := [.inl c]) (M' := (P, g, r0, n)) ok_X8_isSign true 1 rfl trivial ?_
  by_cases s1 : c = 40
  · refine aj_tsw (tgt := 104) (ax_dec2 (i := .tableswitch 105 40 61 #[103, 103, 103, 103, 105, 103, 105, 105, 105, 105, 105, 105, 105, 105, 105, 105, 105, 105, 105, 103, 103, 103]) (n := 103) ok_X8_isSign rfl) (by decide) (by rw [s1]; decide) ?_
    refine aj_run (C := True) (pc' := 105) (la' := [some (.inl c)]) (st' := [.inl 1]) (M' := (P, g, r0, n)) ok_X8_isSign true 1 rfl trivial ?_
    refine aj_ret (r := some (.inl 1)) (ax_dec2 (i := .ireturn) (n := 1) ok_X8_isSign rfl) ⟨?_, ?_, by decide, by decide⟩ rfl
    · exact ⟨ax_si (by rw [bI_t (isSg_b.mpr (by unfold isSg; omega))]), rfl⟩
    · exact ax_ro_b (by decide)
  by_cases s2 : c = 41
  · refine aj_tsw (tgt := 104) (ax_dec2 (i := .tableswitch 105 40 61 #[103, 103, 103, 103, 105, 103, 105, 105, 105, 105, 105, 105, 105, 105, 105, 105, 105, 105, 105, 103, 103, 103]) (n := 103) ok_X8_isSign rfl) (by decide) (by rw [s2]; decide) ?_
    refine aj_run (C := True) (pc' := 105) (la' := [some (.inl c)]) (st' := [.inl 1]) (M' := (P, g, r0, n)) ok_X8_isSign true 1 rfl trivial ?_
    refine aj_ret (r := some (.inl 1)) (ax_dec2 (i := .ireturn) (n := 1) ok_X8_isSign rfl) ⟨?_, ?_, by decide, by decide⟩ rfl
    · exact ⟨ax_si (by rw [bI_t (isSg_b.mpr (by unfold isSg; omega))]), rfl⟩
    · exact ax_ro_b (by decide)
  by_cases s3 : c = 42
  · refine aj_tsw (tgt := 104) (ax_dec2 (i := .tableswitch 105 40 61 #[103, 103, 103, 103, 105, 103, 105, 105, 105, 105, 105, 105, 105, 105, 105, 105, 105, 105, 105, 103, 103, 103]) (n := 103) ok_X8_isSign rfl) (by decide) (by rw [s3]; decide) ?_
    refine aj_run (C := True) (pc' := 105) (la' := [some (.inl c)]) (st' := [.inl 1]) (M' := (P, g, r0, n)) ok_X8_isSign true 1 rfl trivial ?_
    refine aj_ret (r := some (.inl 1)) (ax_dec2 (i := .ireturn) (n := 1) ok_X8_isSign rfl) ⟨?_, ?_, by decide, by decide⟩ rfl
    · exact ⟨ax_si (by rw [bI_t (isSg_b.mpr (by unfold isSg; omega))]), rfl⟩
    · exact ax_ro_b (by decide)
  by_cases s4 : c = 43
  · refine aj_tsw (tgt := 104) (ax_dec2 (i := .tableswitch 105 40 61 #[103, 103, 103, 103, 105, 103, 105, 105, 105, 105, 105, 105, 105, 105, 105, 105, 105, 105, 105, 103, 103, 103]) (n := 103) ok_X8_isSign rfl) (by decide) (by rw [s4]; decide) ?_
    refine aj_run (C := True) (pc' := 105) (la' := [some (.inl c)]) (st' := [.inl 1]) (M' := (P, g, r0, n)) ok_X8_isSign true 1 rfl trivial ?_
    refine aj_ret (r := some (.inl 1)) (ax_dec2 (i := .ireturn) (n := 1) ok_X8_isSign rfl) ⟨?_, ?_, by decide, by decide⟩ rfl
    · exact ⟨ax_si (by rw [bI_t (isSg_b.mpr (by unfold isSg; omega))]), rfl⟩
    · exact ax_ro_b (by decide)
  by_cases s5 : c = 44
  · refine aj_tsw (tgt := 106) (ax_dec2 (i := .tableswitch 105 40 61 #[103, 103, 103, 103, 105, 103, 105, 105, 105, 105, 105, 105, 105, 105, 105, 105, 105, 105, 105, 103, 103, 103]) (n := 103) ok_X8_isSign rfl) (by decide) (by rw [s5]; decide) ?_
    refine aj_run (C := True) (pc' := 107) (la' := [some (.inl c)]) (st' := [.inl 0]) (M' := (P, g, r0, n)) ok_X8_isSign true 1 rfl trivial ?_
    refine aj_ret (r := some (.inl 0)) (ax_dec2 (i := .ireturn) (n := 1) ok_X8_isSign rfl) ⟨?_, ?_, by decide, by decide⟩ rfl
    · exact ⟨ax_si (by rw [bI_f (fun z => by have := isSg_b.mp z; unfold isSg at this; omega)]), rfl⟩
    · exact ax_ro_b (by decide)
  by_cases s6 : c = 45
  · refine aj_tsw (tgt := 104) (ax_dec2 (i := .tableswitch 105 40 61 #[103, 103, 103, 103, 105, 103, 105, 105, 105, 105, 105, 105, 105, 105, 105, 105, 105, 105, 105, 103, 103, 103]) (n := 103) ok_X8_isSign rfl) (by decide) (by rw [s6]; decide) ?_
    refine aj_run (C := True) (pc' := 105) (la' := [some (.inl c)]) (st' := [.inl 1]) (M' := (P, g, r0, n)) ok_X8_isSign true 1 rfl trivial ?_
    refine aj_ret (r := some (.inl 1)) (ax_dec2 (i := .ireturn) (n := 1) ok_X8_isSign rfl) ⟨?_, ?_, by decide, by decide⟩ rfl
    · exact ⟨ax_si (by rw [bI_t (isSg_b.mpr (by unfold isSg; omega))]), rfl⟩
    · exact ax_ro_b (by decide)
  by_cases s7 : c = 46
  · refine aj_tsw (tgt := 106) (ax_dec2 (i := .tableswitch 105 40 61 #[103, 103, 103, 103, 105, 103, 105, 105, 105, 105, 105, 105, 105, 105, 105, 105, 105, 105, 105, 103, 103, 103]) (n := 103) ok_X8_isSign rfl) (by decide) (by rw [s7]; decide) ?_
    refine aj_run (C := True) (pc' := 107) (la' := [some (.inl c)]) (st' := [.inl 0]) (M' := (P, g, r0, n)) ok_X8_isSign true 1 rfl trivial ?_
    refine aj_ret (r := some (.inl 0)) (ax_dec2 (i := .ireturn) (n := 1) ok_X8_isSign rfl) ⟨?_, ?_, by decide, by decide⟩ rfl
    · exact ⟨ax_si (by rw [bI_f (fun z => by have := isSg_b.mp z; unfold isSg at this; omega)]), rfl⟩
    · exact ax_ro_b (by decide)
  by_cases s8 : c = 47
  · refine aj_tsw (tgt := 106) (ax_dec2 (i := .tableswitch 105 40 61 #[103, 103, 103, 103, 105, 103, 105, 105, 105, 105, 105, 105, 105, 105, 105, 105, 105, 105, 105, 103, 103, 103]) (n := 103) ok_X8_isSign rfl) (by decide) (by rw [s8]; decide) ?_
    refine aj_run (C := True) (pc' := 107) (la' := [some (.inl c)]) (st' := [.inl 0]) (M' := (P, g, r0, n)) ok_X8_isSign true 1 rfl trivial ?_
    refine aj_ret (r := some (.inl 0)) (ax_dec2 (i := .ireturn) (n := 1) ok_X8_isSign rfl) ⟨?_, ?_, by decide, by decide⟩ rfl
    · exact ⟨ax_si (by rw [bI_f (fun z => by have := isSg_b.mp z; unfold isSg at this; omega)]), rfl⟩
    · exact ax_ro_b (by decide)
  by_cases s9 : c = 48
  · refine aj_tsw (tgt := 106) (ax_dec2 (i := .tableswitch 105 40 61 #[103, 103, 103, 103, 105, 103, 105, 105, 105, 105, 105, 105, 105, 105, 105, 105, 105, 105, 105, 103, 103, 103]) (n := 103) ok_X8_isSign rfl) (by decide) (by rw [s9]; decide) ?_
    refine aj_run (C := True) (pc' := 107) (la' := [some (.inl c)]) (st' := [.inl 0]) (M' := (P, g, r0, n)) ok_X8_isSign true 1 rfl trivial ?_
    refine aj_ret (r := some (.inl 0)) (ax_dec2 (i := .ireturn) (n := 1) ok_X8_isSign rfl) ⟨?_, ?_, by decide, by decide⟩ rfl
    · exact ⟨ax_si (by rw [bI_f (fun z => by have := isSg_b.mp z; unfold isSg at this; omega)]), rfl⟩
    · exact ax_ro_b (by decide)
  by_cases s10 : c = 49
  · refine aj_tsw (tgt := 106) (ax_dec2 (i := .tableswitch 105 40 61 #[103, 103, 103, 103, 105, 103, 105, 105, 105, 105, 105, 105, 105, 105, 105, 105, 105, 105, 105, 103, 103, 103]) (n := 103) ok_X8_isSign rfl) (by decide) (by rw [s10]; decide) ?_
    refine aj_run (C := True) (pc' := 107) (la' := [some (.inl c)]) (st' := [.inl 0]) (M' := (P, g, r0, n)) ok_X8_isSign true 1 rfl trivial ?_
    refine aj_ret (r := some (.inl 0)) (ax_dec2 (i := .ireturn) (n := 1) ok_X8_isSign rfl) ⟨?_, ?_, by decide, by decide⟩ rfl
    · exact ⟨ax_si (by rw [bI_f (fun z => by have := isSg_b.mp z; unfold isSg at this; omega)]), rfl⟩
    · exact ax_ro_b (by decide)
  by_cases s11 : c = 50
  · refine aj_tsw (tgt := 106) (ax_dec2 (i := .tableswitch 105 40 61 #[103, 103, 103, 103, 105, 103, 105, 105, 105, 105, 105, 105, 105, 105, 105, 105, 105, 105, 105, 103, 103, 103]) (n := 103) ok_X8_isSign rfl) (by decide) (by rw [s11]; decide) ?_
    refine aj_run (C := True) (pc' := 107) (la' := [some (.inl c)]) (st' := [.inl 0]) (M' := (P, g, r0, n)) ok_X8_isSign true 1 rfl trivial ?_
    refine aj_ret (r := some (.inl 0)) (ax_dec2 (i := .ireturn) (n := 1) ok_X8_isSign rfl) ⟨?_, ?_, by decide, by decide⟩ rfl
    · exact ⟨ax_si (by rw [bI_f (fun z => by have := isSg_b.mp z; unfold isSg at this; omega)]), rfl⟩
    · exact ax_ro_b (by decide)
  by_cases s12 : c = 51
  · refine aj_tsw (tgt := 106) (ax_dec2 (i := .tableswitch 105 40 61 #[103, 103, 103, 103, 105, 103, 105, 105, 105, 105, 105, 105, 105, 105, 105, 105, 105, 105, 105, 103, 103, 103]) (n := 103) ok_X8_isSign rfl) (by decide) (by rw [s12]; decide) ?_
    refine aj_run (C := True) (pc' := 107) (la' := [some (.inl c)]) (st' := [.inl 0]) (M' := (P, g, r0, n)) ok_X8_isSign true 1 rfl trivial ?_
    refine aj_ret (r := some (.inl 0)) (ax_dec2 (i := .ireturn) (n := 1) ok_X8_isSign rfl) ⟨?_, ?_, by decide, by decide⟩ rfl
    · exact ⟨ax_si (by rw [bI_f (fun z => by have := isSg_b.mp z; unfold isSg at this; omega)]), rfl⟩
    · exact ax_ro_b (by decide)
  by_cases s13 : c = 52
  · refine aj_tsw (tgt := 106) (ax_dec2 (i := .tableswitch 105 40 61 #[103, 103, 103, 103, 105, 103, 105, 105, 105, 105, 105, 105, 105, 105, 105, 105, 105, 105, 105, 103, 103, 103]) (n := 103) ok_X8_isSign rfl) (by decide) (by rw [s13]; decide) ?_
    refine aj_run (C := True) (pc' := 107) (la' := [some (.inl c)]) (st' := [.inl 0]) (M' := (P, g, r0, n)) ok_X8_isSign true 1 rfl trivial ?_
    refine aj_ret (r := some (.inl 0)) (ax_dec2 (i := .ireturn) (n := 1) ok_X8_isSign rfl) ⟨?_, ?_, by decide, by decide⟩ rfl
    · exact ⟨ax_si (by rw [bI_f (fun z => by have := isSg_b.mp z; unfold isSg at this; omega)]), rfl⟩
    · exact ax_ro_b (by decide)
  by_cases s14 : c = 53
  · refine aj_tsw (tgt := 106) (ax_dec2 (i := .tableswitch 105 40 61 #[103, 103, 103, 103, 105, 103, 105, 105, 105, 105, 105, 105, 105, 105, 105, 105, 105, 105, 105, 103, 103, 103]) (n := 103) ok_X8_isSign rfl) (by decide) (by rw [s14]; decide) ?_
    refine aj_run (C := True) (pc' := 107) (la' := [some (.inl c)]) (st' := [.inl 0]) (M' := (P, g, r0, n)) ok_X8_isSign true 1 rfl trivial ?_
    refine aj_ret (r := some (.inl 0)) (ax_dec2 (i := .ireturn) (n := 1) ok_X8_isSign rfl) ⟨?_, ?_, by decide, by decide⟩ rfl
    · exact ⟨ax_si (by rw [bI_f (fun z => by have := isSg_b.mp z; unfold isSg at this; omega)]), rfl⟩
    · exact ax_ro_b (by decide)
  by_cases s15 : c = 54
  · refine aj_tsw (tgt := 106) (ax_dec2 (i := .tableswitch 105 40 61 #[103, 103, 103, 103, 105, 103, 105, 105, 105, 105, 105, 105, 105, 105, 105, 105, 105, 105, 105, 103, 103, 103]) (n := 103) ok_X8_isSign rfl) (by decide) (by rw [s15]; decide) ?_
    refine aj_run (C := True) (pc' := 107) (la' := [some (.inl c)]) (st' := [.inl 0]) (M' := (P, g, r0, n)) ok_X8_isSign true 1 rfl trivial ?_
    refine aj_ret (r := some (.inl 0)) (ax_dec2 (i := .ireturn) (n := 1) ok_X8_isSign rfl) ⟨?_, ?_, by decide, by decide⟩ rfl
    · exact ⟨ax_si (by rw [bI_f (fun z => by have := isSg_b.mp z; unfold isSg at this; omega)]), rfl⟩
    · exact ax_ro_b (by decide)
  by_cases s16 : c = 55
  · refine aj_tsw (tgt := 106) (ax_dec2 (i := .tableswitch 105 40 61 #[103, 103, 103, 103, 105, 103, 105, 105, 105, 105, 105, 105, 105, 105, 105, 105, 105, 105, 105, 103, 103, 103]) (n := 103) ok_X8_isSign rfl) (by decide) (by rw [s16]; decide) ?_
    refine aj_run (C := True) (pc' := 107) (la' := [some (.inl c)]) (st' := [.inl 0]) (M' := (P, g, r0, n)) ok_X8_isSign true 1 rfl trivial ?_
    refine aj_ret (r := some (.inl 0)) (ax_dec2 (i := .ireturn) (n := 1) ok_X8_isSign rfl) ⟨?_, ?_, by decide, by decide⟩ rfl
    · exact ⟨ax_si (by rw [bI_f (fun z => by have := isSg_b.mp z; unfold isSg at this; omega)]), rfl⟩
    · exact ax_ro_b (by decide)
  by_cases s17 : c = 56
  · refine aj_tsw (tgt := 106) (ax_dec2 (i := .tableswitch 105 40 61 #[103, 103, 103, 103, 105, 103, 105, 105, 105, 105, 105, 105, 105, 105, 105, 105, 105, 105, 105, 103, 103, 103]) (n := 103) ok_X8_isSign rfl) (by decide) (by rw [s17]; decide) ?_
    refine aj_run (C := True) (pc' := 107) (la' := [some (.inl c)]) (st' := [.inl 0]) (M' := (P, g, r0, n)) ok_X8_isSign true 1 rfl trivial ?_
    refine aj_ret (r := some (.inl 0)) (ax_dec2 (i := .ireturn) (n := 1) ok_X8_isSign rfl) ⟨?_, ?_, by decide, by decide⟩ rfl
    · exact ⟨ax_si (by rw [bI_f (fun z => by have := isSg_b.mp z; unfold isSg at this; omega)]), rfl⟩
    · exact ax_ro_b (by decide)
  by_cases s18 : c = 57
  · refine aj_tsw (tgt := 106) (ax_dec2 (i := .tableswitch 105 40 61 #[103, 103, 103, 103, 105, 103, 105, 105, 105, 105, 105, 105, 105, 105, 105, 105, 105, 105, 105, 103, 103, 103]) (n := 103) ok_X8_isSign rfl) (by decide) (by rw [s18]; decide) ?_
    refine aj_run (C := True) (pc' := 107) (la' := [some (.inl c)]) (st' := [.inl 0]) (M' := (P, g, r0, n)) ok_X8_isSign true 1 rfl trivial ?_
    refine aj_ret (r := some (.inl 0)) (ax_dec2 (i := .ireturn) (n := 1) ok_X8_isSign rfl) ⟨?_, ?_, by decide, by decide⟩ rfl
    · exact ⟨ax_si (by rw [bI_f (fun z => by have := isSg_b.mp z; unfold isSg at this; omega)]), rfl⟩
    · exact ax_ro_b (by decide)
  by_cases s19 : c = 58
  · refine aj_tsw (tgt := 106) (ax_dec2 (i := .tableswitch 105 40 61 #[103, 103, 103, 103, 105, 103, 105, 105, 105, 105, 105, 105, 105, 105, 105, 105, 105, 105, 105, 103, 103, 103]) (n := 103) ok_X8_isSign rfl) (by decide) (by rw [s19]; decide) ?_
    refine aj_run (C := True) (pc' := 107) (la' := [some (.inl c)]) (st' := [.inl 0]) (M' := (P, g, r0, n)) ok_X8_isSign true 1 rfl trivial ?_
    refine aj_ret (r := some (.inl 0)) (ax_dec2 (i := .ireturn) (n := 1) ok_X8_isSign rfl) ⟨?_, ?_, by decide, by decide⟩ rfl
    · exact ⟨ax_si (by rw [bI_f (fun z => by have := isSg_b.mp z; unfold isSg at this; omega)]), rfl⟩
    · exact ax_ro_b (by decide)
  by_cases s20 : c = 59
  · refine aj_tsw (tgt := 104) (ax_dec2 (i := .tableswitch 105 40 61 #[103, 103, 103, 103, 105, 103, 105, 105, 105, 105, 105, 105, 105, 105, 105, 105, 105, 105, 105, 103, 103, 103]) (n := 103) ok_X8_isSign rfl) (by decide) (by rw [s20]; decide) ?_
    refine aj_run (C := True) (pc' := 105) (la' := [some (.inl c)]) (st' := [.inl 1]) (M' := (P, g, r0, n)) ok_X8_isSign true 1 rfl trivial ?_
    refine aj_ret (r := some (.inl 1)) (ax_dec2 (i := .ireturn) (n := 1) ok_X8_isSign rfl) ⟨?_, ?_, by decide, by decide⟩ rfl
    · exact ⟨ax_si (by rw [bI_t (isSg_b.mpr (by unfold isSg; omega))]), rfl⟩
    · exact ax_ro_b (by decide)
  by_cases s21 : c = 60
  · refine aj_tsw (tgt := 104) (ax_dec2 (i := .tableswitch 105 40 61 #[103, 103, 103, 103, 105, 103, 105, 105, 105, 105, 105, 105, 105, 105, 105, 105, 105, 105, 105, 103, 103, 103]) (n := 103) ok_X8_isSign rfl) (by decide) (by rw [s21]; decide) ?_
    refine aj_run (C := True) (pc' := 105) (la' := [some (.inl c)]) (st' := [.inl 1]) (M' := (P, g, r0, n)) ok_X8_isSign true 1 rfl trivial ?_
    refine aj_ret (r := some (.inl 1)) (ax_dec2 (i := .ireturn) (n := 1) ok_X8_isSign rfl) ⟨?_, ?_, by decide, by decide⟩ rfl
    · exact ⟨ax_si (by rw [bI_t (isSg_b.mpr (by unfold isSg; omega))]), rfl⟩
    · exact ax_ro_b (by decide)
  by_cases s22 : c = 61
  · refine aj_tsw (tgt := 104) (ax_dec2 (i := .tableswitch 105 40 61 #[103, 103, 103, 103, 105, 103, 105, 105, 105, 105, 105, 105, 105, 105, 105, 105, 105, 105, 105, 103, 103, 103]) (n := 103) ok_X8_isSign rfl) (by decide) (by rw [s22]; decide) ?_
    refine aj_run (C := True) (pc' := 105) (la' := [some (.inl c)]) (st' := [.inl 1]) (M' := (P, g, r0, n)) ok_X8_isSign true 1 rfl trivial ?_
    refine aj_ret (r := some (.inl 1)) (ax_dec2 (i := .ireturn) (n := 1) ok_X8_isSign rfl) ⟨?_, ?_, by decide, by decide⟩ rfl
    · exact ⟨ax_si (by rw [bI_t (isSg_b.mpr (by unfold isSg; omega))]), rfl⟩
    · exact ax_ro_b (by decide)
  refine aj_tsw (tgt := 106) (ax_dec2 (i := .tableswitch 105 40 61 #[103, 103, 103, 103, 105, 103, 105, 105, 105, 105, 105, 105, 105, 105, 105, 105, 105, 105, 105, 103, 103, 103]) (n := 103) ok_X8_isSign rfl) (by decide) (by rw [ax_tsw_d c (by decide) (by decide) (by omega)]; decide) ?_
  refine aj_run (C := True) (pc' := 107) (la' := [some (.inl c)]) (st' := [.inl 0]) (M' := (P, g, r0, n)) ok_X8_isSign true 1 rfl trivial ?_
  refine aj_ret (r := some (.inl 0)) (ax_dec2 (i := .ireturn) (n := 1) ok_X8_isSign rfl) ⟨?_, ?_, by decide, by decide⟩ rfl
  · exact ⟨ax_si (by rw [bI_f (fun z => by have := isSg_b.mp z; unfold isSg at this; omega)]), rfl⟩
  · exact ax_ro_b (by decide)

set_option maxRecDepth 100000 in
set_option maxHeartbeats 4000000 in
theorem cp_word (w : Int) (P : Nat → Int → Prop) (g : Nat → Int → Int → Int) (r0 : Nat → Int → Int → Option (Nat × Int)) (n : Nat → Int → Int) (hS : cStr P) (hw : 0 ≤ w ∧ w < 12) : ax_S yX8_word cX8_word 1 (some (FieldType.object "java/lang/String")) 0 0 0 [.inl w] (P, g, r0, n) (fun r M' => r = some (.inr (.inr (some (91, w + 1)))) ∧ M' = (P, g, r0, n)) := by
  refine ax_S_of (own := 8) (by decide) rfl (fun h => absurd h (by decide)) rfl (Nat.le_of_ble_eq_true rfl) ?_
  change ax_J _ _ _ _ _ _ _ _ _ _ [some (.inl w)] _ _
  refine aj_run (C := True) (pc' := 1) (la' := [some (.inl w)]) (st' := [.inl w]) (M' := (P, g, r0, n)) ok_X8_word true 1 rfl trivial ?_
  by_cases s1 : w = 0
  · refine aj_tsw (tgt := 60) (ax_dec2 (i := .tableswitch 92 0 10 #[59, 62, 65, 68, 71, 74, 77, 80, 83, 86, 89]) (n := 59) ok_X8_word rfl) (by decide) (by rw [s1]; decide) ?_
    refine aj_ldcS (k := 1) rfl rfl rfl (hS.1 1 (by decide) (by decide)).1 (ax_dec2 (i := .ldc 107) (n := 2) ok_X8_word rfl) ?_
    refine aj_ret (r := some (.inr (.inr (some (91, 1))))) (ax_dec2 (i := .areturn) (n := 1) ok_X8_word rfl) ⟨?_, ?_, by decide, by decide⟩ rfl
    · exact ⟨(by rw [show w = 0 by omega]; rfl), rfl⟩
    · exact trivial
  by_cases s2 : w = 1
  · refine aj_tsw (tgt := 63) (ax_dec2 (i := .tableswitch 92 0 10 #[59, 62, 65, 68, 71, 74, 77, 80, 83, 86, 89]) (n := 59) ok_X8_word rfl) (by decide) (by rw [s2]; decide) ?_
    refine aj_ldcS (k := 2) rfl rfl rfl (hS.1 2 (by decide) (by decide)).1 (ax_dec2 (i := .ldc 109) (n := 2) ok_X8_word rfl) ?_
    refine aj_ret (r := some (.inr (.inr (some (91, 2))))) (ax_dec2 (i := .areturn) (n := 1) ok_X8_word rfl) ⟨?_, ?_, by decide, by decide⟩ rfl
    · exact ⟨(by rw [show w = 1 by omega]; rfl), rfl⟩
    · exact trivial
  by_cases s3 : w = 2
  · refine aj_tsw (tgt := 66) (ax_dec2 (i := .tableswitch 92 0 10 #[59, 62, 65, 68, 71, 74, 77, 80, 83, 86, 89]) (n := 59) ok_X8_word rfl) (by decide) (by rw [s3]; decide) ?_
    refine aj_ldcS (k := 3) rfl rfl rfl (hS.1 3 (by decide) (by decide)).1 (ax_dec2 (i := .ldc 111) (n := 2) ok_X8_word rfl) ?_
    refine aj_ret (r := some (.inr (.inr (some (91, 3))))) (ax_dec2 (i := .areturn) (n := 1) ok_X8_word rfl) ⟨?_, ?_, by decide, by decide⟩ rfl
    · exact ⟨(by rw [show w = 2 by omega]; rfl), rfl⟩
    · exact trivial
  by_cases s4 : w = 3
  · refine aj_tsw (tgt := 69) (ax_dec2 (i := .tableswitch 92 0 10 #[59, 62, 65, 68, 71, 74, 77, 80, 83, 86, 89]) (n := 59) ok_X8_word rfl) (by decide) (by rw [s4]; decide) ?_
    refine aj_ldcS (k := 4) rfl rfl rfl (hS.1 4 (by decide) (by decide)).1 (ax_dec2 (i := .ldc 113) (n := 2) ok_X8_word rfl) ?_
    refine aj_ret (r := some (.inr (.inr (some (91, 4))))) (ax_dec2 (i := .areturn) (n := 1) ok_X8_word rfl) ⟨?_, ?_, by decide, by decide⟩ rfl
    · exact ⟨(by rw [show w = 3 by omega]; rfl), rfl⟩
    · exact trivial
  by_cases s5 : w = 4
  · refine aj_tsw (tgt := 72) (ax_dec2 (i := .tableswitch 92 0 10 #[59, 62, 65, 68, 71, 74, 77, 80, 83, 86, 89]) (n := 59) ok_X8_word rfl) (by decide) (by rw [s5]; decide) ?_
    refine aj_ldcS (k := 5) rfl rfl rfl (hS.1 5 (by decide) (by decide)).1 (ax_dec2 (i := .ldc 115) (n := 2) ok_X8_word rfl) ?_
    refine aj_ret (r := some (.inr (.inr (some (91, 5))))) (ax_dec2 (i := .areturn) (n := 1) ok_X8_word rfl) ⟨?_, ?_, by decide, by decide⟩ rfl
    · exact ⟨(by rw [show w = 4 by omega]; rfl), rfl⟩
    · exact trivial
  by_cases s6 : w = 5
  · refine aj_tsw (tgt := 75) (ax_dec2 (i := .tableswitch 92 0 10 #[59, 62, 65, 68, 71, 74, 77, 80, 83, 86, 89]) (n := 59) ok_X8_word rfl) (by decide) (by rw [s6]; decide) ?_
    refine aj_ldcS (k := 6) rfl rfl rfl (hS.1 6 (by decide) (by decide)).1 (ax_dec2 (i := .ldc 117) (n := 2) ok_X8_word rfl) ?_
    refine aj_ret (r := some (.inr (.inr (some (91, 6))))) (ax_dec2 (i := .areturn) (n := 1) ok_X8_word rfl) ⟨?_, ?_, by decide, by decide⟩ rfl
    · exact ⟨(by rw [show w = 5 by omega]; rfl), rfl⟩
    · exact trivial
  by_cases s7 : w = 6
  · refine aj_tsw (tgt := 78) (ax_dec2 (i := .tableswitch 92 0 10 #[59, 62, 65, 68, 71, 74, 77, 80, 83, 86, 89]) (n := 59) ok_X8_word rfl) (by decide) (by rw [s7]; decide) ?_
    refine aj_ldcS (k := 7) rfl rfl rfl (hS.1 7 (by decide) (by decide)).1 (ax_dec2 (i := .ldc 119) (n := 2) ok_X8_word rfl) ?_
    refine aj_ret (r := some (.inr (.inr (some (91, 7))))) (ax_dec2 (i := .areturn) (n := 1) ok_X8_word rfl) ⟨?_, ?_, by decide, by decide⟩ rfl
    · exact ⟨(by rw [show w = 6 by omega]; rfl), rfl⟩
    · exact trivial
  by_cases s8 : w = 7
  · refine aj_tsw (tgt := 81) (ax_dec2 (i := .tableswitch 92 0 10 #[59, 62, 65, 68, 71, 74, 77, 80, 83, 86, 89]) (n := 59) ok_X8_word rfl) (by decide) (by rw [s8]; decide) ?_
    refine aj_ldcS (k := 8) rfl rfl rfl (hS.1 8 (by decide) (by decide)).1 (ax_dec2 (i := .ldc 121) (n := 2) ok_X8_word rfl) ?_
    refine aj_ret (r := some (.inr (.inr (some (91, 8))))) (ax_dec2 (i := .areturn) (n := 1) ok_X8_word rfl) ⟨?_, ?_, by decide, by decide⟩ rfl
    · exact ⟨(by rw [show w = 7 by omega]; rfl), rfl⟩
    · exact trivial
  by_cases s9 : w = 8
  · refine aj_tsw (tgt := 84) (ax_dec2 (i := .tableswitch 92 0 10 #[59, 62, 65, 68, 71, 74, 77, 80, 83, 86, 89]) (n := 59) ok_X8_word rfl) (by decide) (by rw [s9]; decide) ?_
    refine aj_ldcS (k := 9) rfl rfl rfl (hS.1 9 (by decide) (by decide)).1 (ax_dec2 (i := .ldc 123) (n := 2) ok_X8_word rfl) ?_
    refine aj_ret (r := some (.inr (.inr (some (91, 9))))) (ax_dec2 (i := .areturn) (n := 1) ok_X8_word rfl) ⟨?_, ?_, by decide, by decide⟩ rfl
    · exact ⟨(by rw [show w = 8 by omega]; rfl), rfl⟩
    · exact trivial
  by_cases s10 : w = 9
  · refine aj_tsw (tgt := 87) (ax_dec2 (i := .tableswitch 92 0 10 #[59, 62, 65, 68, 71, 74, 77, 80, 83, 86, 89]) (n := 59) ok_X8_word rfl) (by decide) (by rw [s10]; decide) ?_
    refine aj_ldcS (k := 10) rfl rfl rfl (hS.1 10 (by decide) (by decide)).1 (ax_dec2 (i := .ldc 125) (n := 2) ok_X8_word rfl) ?_
    refine aj_ret (r := some (.inr (.inr (some (91, 10))))) (ax_dec2 (i := .areturn) (n := 1) ok_X8_word rfl) ⟨?_, ?_, by decide, by decide⟩ rfl
    · exact ⟨(by rw [show w = 9 by omega]; rfl), rfl⟩
    · exact trivial
  by_cases s11 : w = 10
  · refine aj_tsw (tgt := 90) (ax_dec2 (i := .tableswitch 92 0 10 #[59, 62, 65, 68, 71, 74, 77, 80, 83, 86, 89]) (n := 59) ok_X8_word rfl) (by decide) (by rw [s11]; decide) ?_
    refine aj_ldcS (k := 11) rfl rfl rfl (hS.1 11 (by decide) (by decide)).1 (ax_dec2 (i := .ldc 127) (n := 2) ok_X8_word rfl) ?_
    refine aj_ret (r := some (.inr (.inr (some (91, 11))))) (ax_dec2 (i := .areturn) (n := 1) ok_X8_word rfl) ⟨?_, ?_, by decide, by decide⟩ rfl
    · exact ⟨(by rw [show w = 10 by omega]; rfl), rfl⟩
    · exact trivial
  refine aj_tsw (tgt := 93) (ax_dec2 (i := .tableswitch 92 0 10 #[59, 62, 65, 68, 71, 74, 77, 80, 83, 86, 89]) (n := 59) ok_X8_word rfl) (by decide) (by rw [ax_tsw_d w (by decide) (by decide) (by omega)]; decide) ?_
  refine aj_ldcS (k := 12) rfl rfl rfl (hS.1 12 (by decide) (by decide)).1 (ax_dec2 (i := .ldc 129) (n := 2) ok_X8_word rfl) ?_
  refine aj_ret (r := some (.inr (.inr (some (91, 12))))) (ax_dec2 (i := .areturn) (n := 1) ok_X8_word rfl) ⟨?_, ?_, by decide, by decide⟩ rfl
  · exact ⟨(by rw [show w = 11 by omega]; rfl), rfl⟩
  · exact trivial

set_option maxRecDepth 100000 in
set_option maxHeartbeats 4000000 in
theorem cp_stands (w f t : Int) (P : Nat → Int → Prop) (g : Nat → Int → Int → Int) (r0 : Nat → Int → Int → Option (Nat × Int)) (n : Nat → Int → Int) (hn : cTL n) (hz : 0 ≤ g 3 0 0 ∧ g 3 0 0 ≤ 160) (hS : cStr P) (hw : 0 ≤ w ∧ w < 12) (hf : 0 ≤ f ∧ f ≤ t ∧ t ≤ g 3 0 0) : ax_S yX8_stands cX8_stands 5 (some FieldType.boolean) 4 0 0 [.inr (.inr (some (3, 0))), .inr (.inr (some (91, (w + 1)))), .inl f, .inl t] (P, g, r0, n) (fun r M' => r = some (.inl (bI (wMb (g 302 0) f t w = true))) ∧ M' = (P, g, r0, n)) := by
  obtain ⟨n302, n303, n304, n305, n308, n309, n310, n311⟩ := hn
  have hkb := kL_b (o := w + 1) (by omega)
  refine ax_S_of (own := 8) (by decide) rfl (fun h => absurd h (by decide)) rfl (Nat.le_of_ble_eq_true rfl) ?_
  change ax_J _ _ _ _ _ _ _ _ _ _ [some (.inr (.inr (some (3, 0)))), some (.inr (.inr (some (91, (w + 1))))), some (.inl f), some (.inl t), none] _ _
  refine aj_run (C := True) (pc' := 1) (la' := [some (.inr (.inr (some (3, 0)))), some (.inr (.inr (some (91, (w + 1))))), some (.inl f), some (.inl t), none]) (st' := [.inr (.inr (some (91, (w + 1))))]) (M' := (P, g, r0, n)) ok_X8_stands true 1 rfl trivial ?_
  refine aj_callK (av := []) (st := []) (o := (w + 1)) cal_J0_length_8abf5 lk_8_98 ins_J0_length_8abf5 sel_J0_length_8abf5 (by omega) (cp_len (w + 1) _ _ _ _ (by omega) (hS.1 (w + 1) (by omega) (by omega)).2) ⟨by decide, by decide, by decide, by decide⟩ (Nat.le_of_ble_eq_true rfl) (ax_dec2 (i := .invokevirtual 98) (n := 3) ok_X8_stands rfl) (fun r M' hq => ?_)
  obtain ⟨rfl, rfl⟩ := hq
  change ax_J _ _ _ _ _ _ _ _ _ 4 [some (.inr (.inr (some (3, 0)))), some (.inr (.inr (some (91, (w + 1))))), some (.inl f), some (.inl t), none] [.inl (kL (w + 1))] (P, g, r0, n)
  refine aj_run (C := (-2147483648 ≤ t - f ∧ t - f ≤ 2147483647) ∧ True) (pc' := 7) (la' := [some (.inr (.inr (some (3, 0)))), some (.inr (.inr (some (91, (w + 1))))), some (.inl f), some (.inl t), none]) (st' := [.inl (t - f), .inl (kL (w + 1))]) (M' := (P, g, r0, n)) ok_X8_stands true 3 rfl (by refine ⟨?_, trivial⟩ <;> (omega)) ?_
  refine aj_icmp_eq (tgt := 12) (ax_dec2 (i := .if_icmp .eq 5) (n := 3) ok_X8_stands rfl) (by decide) (fun c1 => ?_) (fun c1 => ?_)
  · refine aj_run (C := True) (pc' := 15) (la' := [some (.inr (.inr (some (3, 0)))), some (.inr (.inr (some (91, (w + 1))))), some (.inl f), some (.inl t), some (.inl f)]) (st' := []) (M' := (P, g, r0, n)) ok_X8_stands true 2 rfl trivial ?_
    refine aj_loop (σ := (Int)) (fun xL => f ≤ xL ∧ xL ≤ t ∧ ∀ j, f ≤ j → j < xL → g 302 0 j = kB (w + 1) (j - f)) (fun xL => (t - xL).toNat) (fun xL => [some (.inr (.inr (some (3, 0)))), some (.inr (.inr (some (91, (w + 1))))), some (.inl f), some (.inl t), some (.inl xL)]) (fun xL => []) (fun xL => (P, g, r0, n)) ?_ (f) ?_
    rotate_left
    · (try dsimp only); exact ⟨by omega, by omega, fun j z1 z2 => by omega⟩
    rintro i hI ih15
    try dsimp only at hI ih15
    obtain ⟨i1, i2, i3⟩ := hI
    change ax_J _ _ _ _ _ _ _ _ _ 15 [some (.inr (.inr (some (3, 0)))), some (.inr (.inr (some (91, (w + 1))))), some (.inl f), some (.inl t), some (.inl i)] [] (P, g, r0, n)
    refine aj_run (C := True) (pc' := 18) (la' := [some (.inr (.inr (some (3, 0)))), some (.inr (.inr (some (91, (w + 1))))), some (.inl f), some (.inl t), some (.inl i)]) (st' := [.inl t, .inl i]) (M' := (P, g, r0, n)) ok_X8_stands true 2 rfl trivial ?_
    refine aj_icmp_ge (tgt := 47) (ax_dec2 (i := .if_icmp .ge 29) (n := 3) ok_X8_stands rfl) (by decide) (fun c2 => ?_) (fun c2 => ?_)
    · refine aj_run (C := True) (pc' := 48) (la' := [some (.inr (.inr (some (3, 0)))), some (.inr (.inr (some (91, (w + 1))))), some (.inl f), some (.inl t), some (.inl i)]) (st' := [.inl 1]) (M' := (P, g, r0, n)) ok_X8_stands true 1 rfl trivial ?_
      refine aj_ret (r := some (.inl 1)) (ax_dec2 (i := .ireturn) (n := 1) ok_X8_stands rfl) ⟨?_, ?_, by decide, by decide⟩ rfl
      · exact ⟨ax_si (by rw [bI_t (wMb_i.mpr ⟨by omega, fun j z1 z2 => by rw [i3 (f + j) (by omega) (by omega), show f + j - f = j by omega]⟩)]), rfl⟩
      · exact ax_ro_b (Or.inr rfl)
    · refine aj_run (C := (0 ≤ i ∧ i < n 302 0) ∧ (-2147483648 ≤ i - f ∧ i - f ≤ 2147483647) ∧ True) (pc' := 33) (la' := [some (.inr (.inr (some (3, 0)))), some (.inr (.inr (some (91, (w + 1))))), some (.inl f), some (.inl t), some (.inl i)]) (st' := [.inl (i - f), .inr (.inr (some (91, (w + 1)))), .inl (g 302 0 i)]) (M' := (P, g, r0, n)) ok_X8_stands true 8 rfl (by refine ⟨?_, ?_, trivial⟩ <;> (omega)) ?_
      refine aj_callK (av := [.inl (i - f)]) (st := [.inl (g 302 0 i)]) (o := (w + 1)) cal_J0_charAt_5068e lk_8_103 ins_J0_charAt_5068e sel_J0_charAt_5068e (by omega) (cp_chr (w + 1) (i - f) _ _ _ _ (by omega) (hS.1 (w + 1) (by omega) (by omega)).2 hS.2 (by omega)) ⟨by decide, by decide, by decide, by decide⟩ (Nat.le_of_ble_eq_true rfl) (ax_dec2 (i := .invokevirtual 103) (n := 3) ok_X8_stands rfl) (fun r M' hq => ?_)
      obtain ⟨rfl, rfl⟩ := hq
      change ax_J _ _ _ _ _ _ _ _ _ 36 [some (.inr (.inr (some (3, 0)))), some (.inr (.inr (some (91, (w + 1))))), some (.inl f), some (.inl t), some (.inl i)] [.inl (kB (w + 1) (i - f)), .inl (g 302 0 i)] (P, g, r0, n)
      refine aj_icmp_eq (tgt := 41) (ax_dec2 (i := .if_icmp .eq 5) (n := 3) ok_X8_stands rfl) (by decide) (fun c3 => ?_) (fun c3 => ?_)
      · refine aj_run (C := (-2147483648 ≤ i + 1 ∧ i + 1 ≤ 2147483647) ∧ True) (pc' := 15) (la' := [some (.inr (.inr (some (3, 0)))), some (.inr (.inr (some (91, (w + 1))))), some (.inl f), some (.inl t), some (.inl (i + 1))]) (st' := []) (M' := (P, g, r0, n)) ok_X8_stands true 2 rfl (by refine ⟨?_, trivial⟩ <;> (omega)) ?_
        refine ih15 (i + 1) ?_ ?_
        · (try dsimp only); exact ⟨by omega, by omega, fun j z1 z2 => (by by_cases c : j = i; (rw [c]; omega); exact i3 j z1 (by omega))⟩
        · omega
      · refine aj_run (C := True) (pc' := 40) (la' := [some (.inr (.inr (some (3, 0)))), some (.inr (.inr (some (91, (w + 1))))), some (.inl f), some (.inl t), some (.inl i)]) (st' := [.inl 0]) (M' := (P, g, r0, n)) ok_X8_stands true 1 rfl trivial ?_
        refine aj_ret (r := some (.inl 0)) (ax_dec2 (i := .ireturn) (n := 1) ok_X8_stands rfl) ⟨?_, ?_, by decide, by decide⟩ rfl
        · first | exact ⟨ax_si (by rw [bI_f (fun z => by have := (wMb_i.mp z).1; omega)]), rfl⟩ | exact ⟨ax_si (by rw [bI_f (fun z => by have := (wMb_i.mp z).2 (i - f) (by omega) (by omega); rw [show f + (i - f) = i by omega] at this; omega)]), rfl⟩
        · exact ax_ro_b (Or.inl rfl)
  · refine aj_run (C := True) (pc' := 11) (la' := [some (.inr (.inr (some (3, 0)))), some (.inr (.inr (some (91, (w + 1))))), some (.inl f), some (.inl t), none]) (st' := [.inl 0]) (M' := (P, g, r0, n)) ok_X8_stands true 1 rfl trivial ?_
    refine aj_ret (r := some (.inl 0)) (ax_dec2 (i := .ireturn) (n := 1) ok_X8_stands rfl) ⟨?_, ?_, by decide, by decide⟩ rfl
    · first | exact ⟨ax_si (by rw [bI_f (fun z => by have := (wMb_i.mp z).1; omega)]), rfl⟩ | exact ⟨ax_si (by rw [bI_f (fun z => by have := (wMb_i.mp z).2 (i - f) (by omega) (by omega); rw [show f + (i - f) = i by omega] at this; omega)]), rfl⟩
    · exact ax_ro_b (Or.inl rfl)

set_option maxRecDepth 100000 in
set_option maxHeartbeats 4000000 in
theorem cp_addTok (tok f v : Int) (P : Nat → Int → Prop) (g : Nat → Int → Int → Int) (r0 : Nat → Int → Int → Option (Nat × Int)) (n : Nat → Int → Int) (hn : cTL n) (h6 : 0 ≤ g 3 0 6 ∧ g 3 0 6 < 161) : ax_S yX8_addToken cX8_addToken 4 none 0 0 0 [.inr (.inr (some (3, 0))), .inl tok, .inl f, .inl v] (P, g, r0, n) (fun r M' => r = none ∧ M' = (P, aT g tok f v, r0, n)) := by
  obtain ⟨n302, n303, n304, n305, n308, n309, n310, n311⟩ := hn
  refine ax_S_of (own := 8) (by decide) rfl (fun h => absurd h (by decide)) rfl (Nat.le_of_ble_eq_true rfl) ?_
  change ax_J _ _ _ _ _ _ _ _ _ _ [some (.inr (.inr (some (3, 0)))), some (.inl tok), some (.inl f), some (.inl v)] _ _
  refine aj_run (C := True) (pc' := 9) (la' := [some (.inr (.inr (some (3, 0)))), some (.inl tok), some (.inl f), some (.inl v)]) (st' := [.inl (n 303 0), .inl (g 3 0 6)]) (M' := (P, g, r0, n)) ok_X8_addToken true 5 rfl trivial ?_
  refine aj_icmp_ge (tgt := 52) (ax_dec2 (i := .if_icmp .ge 43) (n := 3) ok_X8_addToken rfl) (by decide) (fun c1 => ?_) (fun c1 => ?_)
  · exact absurd c1 (by omega)
  · refine aj_run (C := (0 ≤ g 3 0 6 ∧ g 3 0 6 < n 303 0) ∧ (0 ≤ g 3 0 6 ∧ g 3 0 6 < n 304 0) ∧ (0 ≤ g 3 0 6 ∧ g 3 0 6 < n 305 0) ∧ (-2147483648 ≤ (g 3 0 6) + 1 ∧ (g 3 0 6) + 1 ≤ 2147483647) ∧ True) (pc' := 52) (la' := [some (.inr (.inr (some (3, 0)))), some (.inl tok), some (.inl f), some (.inl v)]) (st' := []) (M' := (P, ax_u3 (ax_u3 (ax_u3 (ax_u3 g 303 0 (g 3 0 6) tok) 304 0 (g 3 0 6) f) 305 0 (g 3 0 6) v) 3 0 6 ((g 3 0 6) + 1), r0, n)) ok_X8_addToken true 24 rfl (by refine ⟨?_, ?_, ?_, ?_, trivial⟩ <;> (omega)) ?_
    refine aj_ret (r := none) (ax_dec2 (i := .return_) (n := 1) ok_X8_addToken rfl) ⟨?_, ?_, by decide, by decide⟩ rfl
    · exact ⟨rfl, rfl⟩
    · exact trivial

set_option maxRecDepth 100000 in
set_option maxHeartbeats 4000000 in
theorem cp_addWord (f t : Int) (P : Nat → Int → Prop) (g : Nat → Int → Int → Int) (r0 : Nat → Int → Int → Option (Nat × Int)) (n : Nat → Int → Int) (hn : cTL n) (hz : 0 ≤ g 3 0 0 ∧ g 3 0 0 ≤ 160) (hS : cStr P) (hf : 0 ≤ f ∧ f ≤ t ∧ t ≤ g 3 0 0) (h6 : 0 ≤ g 3 0 6 ∧ g 3 0 6 < 161) : ax_S yX8_addWord cX8_addWord 4 none 5 0 0 [.inr (.inr (some (3, 0))), .inl f, .inl t] (P, g, r0, n) (fun r M' => r = none ∧ ∃ v, M' = (P, aT g (if tkW (g 302 0) f t < 6 then 5 + tkW (g 302 0) f t else if tkW (g 302 0) f t < 12 then 3 else 1) f v, r0, n) ∧ (tkW (g 302 0) f t < 12 → v = tkW (g 302 0) f t - 6)) := by
  refine ax_S_of (own := 8) (by decide) rfl (fun h => absurd h (by decide)) rfl (Nat.le_of_ble_eq_true rfl) ?_
  change ax_J _ _ _ _ _ _ _ _ _ _ [some (.inr (.inr (some (3, 0)))), some (.inl f), some (.inl t), none] _ _
  refine aj_run (C := True) (pc' := 2) (la' := [some (.inr (.inr (some (3, 0)))), some (.inl f), some (.inl t), some (.inl 0)]) (st' := []) (M' := (P, g, r0, n)) ok_X8_addWord true 2 rfl trivial ?_
  refine aj_loop (σ := (Int)) (fun xL => 0 ≤ xL ∧ xL ≤ 12 ∧ ∀ v, 0 ≤ v → v < xL → wMb (g 302 0) f t v = false) (fun xL => (12 - xL).toNat) (fun xL => [some (.inr (.inr (some (3, 0)))), some (.inl f), some (.inl t), some (.inl xL)]) (fun xL => []) (fun xL => (P, g, r0, n)) ?_ (0) ?_
  rotate_left
  · (try dsimp only); exact ⟨by omega, by omega, fun v z1 z2 => by omega⟩
  rintro w hI ih2
  try dsimp only at hI ih2
  obtain ⟨i1, i2, i3⟩ := hI
  change ax_J _ _ _ _ _ _ _ _ _ 2 [some (.inr (.inr (some (3, 0)))), some (.inl f), some (.inl t), some (.inl w)] [] (P, g, r0, n)
  refine aj_run (C := True) (pc' := 5) (la' := [some (.inr (.inr (some (3, 0)))), some (.inl f), some (.inl t), some (.inl w)]) (st' := [.inl 12, .inl w]) (M' := (P, g, r0, n)) ok_X8_addWord true 2 rfl trivial ?_
  refine aj_icmp_ge (tgt := 50) (ax_dec2 (i := .if_icmp .ge 45) (n := 3) ok_X8_addWord rfl) (by decide) (fun c1 => ?_) (fun c1 => ?_)
  · refine aj_run (C := True) (pc' := 54) (la' := [some (.inr (.inr (some (3, 0)))), some (.inl f), some (.inl t), some (.inl w)]) (st' := [.inl 0, .inl f, .inl 1, .inr (.inr (some (3, 0)))]) (M' := (P, g, r0, n)) ok_X8_addWord true 4 rfl trivial ?_
    refine aj_callV (av := [.inl 1, .inl f, .inl 0]) (st := []) (f := 3) (o := 0) (ci := 8) cal_X8_addToken lk_8_72 ins_X8_addToken rfl sel_X8_addToken rfl (fun c9 h9 _ => by simpa [ax_ok] using h9) (cp_addTok 1 f 0 _ _ _ _ hn h6) ⟨by decide, by decide, by decide, by decide⟩ (Nat.le_of_ble_eq_true rfl) (ax_dec2 (i := .invokevirtual 72) (n := 3) ok_X8_addWord rfl) (fun r M' hq => ?_)
    obtain ⟨rfl, rfl⟩ := hq
    change ax_J _ _ _ _ _ _ _ _ _ 57 [some (.inr (.inr (some (3, 0)))), some (.inl f), some (.inl t), some (.inl w)] [] (P, aT g 1 f 0, r0, n)
    refine aj_ret (r := none) (ax_dec2 (i := .return_) (n := 1) ok_X8_addWord rfl) ⟨?_, ?_, by decide, by decide⟩ rfl
    · (have hnw : tkW (g 302 0) f t = 12 := (by have hi := tkW_in (B := g 302 0) (f := f) (t := t); by_cases c : tkW (g 302 0) f t < 12; exact absurd rfl (tkW_n (w := tkW (g 302 0) f t) (by omega) (i3 _ (by omega) (by omega))); omega); exact ⟨rfl, 0, by rw [if_neg (by omega), if_neg (by omega)], fun z => by omega⟩)
    · exact trivial
  · refine aj_run (C := True) (pc' := 10) (la' := [some (.inr (.inr (some (3, 0)))), some (.inl f), some (.inl t), some (.inl w)]) (st' := [.inl w, .inr (.inr (some (3, 0)))]) (M' := (P, g, r0, n)) ok_X8_addWord true 2 rfl trivial ?_
    refine aj_callS (av := [.inl w]) (st := [.inr (.inr (some (3, 0)))]) cal_X8_word lk_8_90 stc_X8_word (cp_word w _ _ _ _ hS (by omega)) ⟨by decide, by decide, by decide, by decide⟩ (Nat.le_of_ble_eq_true rfl) (ax_dec2 (i := .invokestatic 90) (n := 3) ok_X8_addWord rfl) (fun r M' hq => ?_)
    obtain ⟨rfl, rfl⟩ := hq
    change ax_J _ _ _ _ _ _ _ _ _ 13 [some (.inr (.inr (some (3, 0)))), some (.inl f), some (.inl t), some (.inl w)] [.inr (.inr (some (91, (w + 1)))), .inr (.inr (some (3, 0)))] (P, g, r0, n)
    refine aj_run (C := True) (pc' := 15) (la' := [some (.inr (.inr (some (3, 0)))), some (.inl f), some (.inl t), some (.inl w)]) (st' := [.inl t, .inl f, .inr (.inr (some (91, (w + 1)))), .inr (.inr (some (3, 0)))]) (M' := (P, g, r0, n)) ok_X8_addWord true 2 rfl trivial ?_
    refine aj_callV (av := [.inr (.inr (some (91, (w + 1)))), .inl f, .inl t]) (st := []) (f := 3) (o := 0) (ci := 8) cal_X8_stands lk_8_94 ins_X8_stands rfl sel_X8_stands rfl (fun c9 h9 _ => by simpa [ax_ok] using h9) (cp_stands w f t _ _ _ _ hn hz hS (by omega) hf) ⟨by decide, by decide, by decide, by decide⟩ (Nat.le_of_ble_eq_true rfl) (ax_dec2 (i := .invokevirtual 94) (n := 3) ok_X8_addWord rfl) (fun r M' hq => ?_)
    obtain ⟨rfl, rfl⟩ := hq
    change ax_J _ _ _ _ _ _ _ _ _ 18 [some (.inr (.inr (some (3, 0)))), some (.inl f), some (.inl t), some (.inl w)] [.inl (bI (wMb (g 302 0) f t w = true))] (P, g, r0, n)
    refine aj_if_eq (tgt := 44) (ax_dec2 (i := .ifCond .eq 26) (n := 3) ok_X8_addWord rfl) (by decide) (fun c2 => ?_) (fun c2 => ?_)
    · replace c2 := bI_e0 c2
      have hno : wMb (g 302 0) f t w = false := by simpa using c2
      refine aj_run (C := (-2147483648 ≤ w + 1 ∧ w + 1 ≤ 2147483647) ∧ True) (pc' := 2) (la' := [some (.inr (.inr (some (3, 0)))), some (.inl f), some (.inl t), some (.inl (w + 1))]) (st' := []) (M' := (P, g, r0, n)) ok_X8_addWord true 2 rfl (by refine ⟨?_, trivial⟩ <;> (omega)) ?_
      refine ih2 (w + 1) ?_ ?_
      · (try dsimp only); exact ⟨by omega, by omega, fun v z1 z2 => (by by_cases c : v = w; (rw [c]; exact hno); exact i3 v z1 (by omega))⟩
      · omega
    · replace c2 := bI_n0 c2
      have hyw := tkW_y (B := g 302 0) (f := f) (t := t) (w := w) (by omega) c2
      refine aj_run (C := True) (pc' := 25) (la' := [some (.inr (.inr (some (3, 0)))), some (.inl f), some (.inl t), some (.inl w)]) (st' := [.inl 6, .inl w, .inr (.inr (some (3, 0)))]) (M' := (P, g, r0, n)) ok_X8_addWord true 3 rfl trivial ?_
      refine aj_icmp_ge (tgt := 34) (ax_dec2 (i := .if_icmp .ge 9) (n := 3) ok_X8_addWord rfl) (by decide) (fun c3 => ?_) (fun c3 => ?_)
      · refine aj_run (C := (-2147483648 ≤ w - 6 ∧ w - 6 ≤ 2147483647) ∧ True) (pc' := 40) (la' := [some (.inr (.inr (some (3, 0)))), some (.inl f), some (.inl t), some (.inl w)]) (st' := [.inl (w - 6), .inl f, .inl 3, .inr (.inr (some (3, 0)))]) (M' := (P, g, r0, n)) ok_X8_addWord true 5 rfl (by refine ⟨?_, trivial⟩ <;> (omega)) ?_
        refine aj_callV (av := [.inl 3, .inl f, .inl (w - 6)]) (st := []) (f := 3) (o := 0) (ci := 8) cal_X8_addToken lk_8_72 ins_X8_addToken rfl sel_X8_addToken rfl (fun c9 h9 _ => by simpa [ax_ok] using h9) (cp_addTok 3 f (w - 6) _ _ _ _ hn h6) ⟨by decide, by decide, by decide, by decide⟩ (Nat.le_of_ble_eq_true rfl) (ax_dec2 (i := .invokevirtual 72) (n := 3) ok_X8_addWord rfl) (fun r M' hq => ?_)
        obtain ⟨rfl, rfl⟩ := hq
        change ax_J _ _ _ _ _ _ _ _ _ 43 [some (.inr (.inr (some (3, 0)))), some (.inl f), some (.inl t), some (.inl w)] [] (P, aT g 3 f (w - 6), r0, n)
        refine aj_ret (r := none) (ax_dec2 (i := .return_) (n := 1) ok_X8_addWord rfl) ⟨?_, ?_, by decide, by decide⟩ rfl
        · first | (exfalso; omega) | exact ⟨rfl, w - 6, by rw [hyw]; first | rw [if_pos (by omega)] | rw [if_neg (by omega), if_pos (by omega)], fun _ => by rw [hyw]⟩
        · exact trivial
      · refine aj_run (C := (-2147483648 ≤ 5 + w ∧ 5 + w ≤ 2147483647) ∧ (-2147483648 ≤ w - 6 ∧ w - 6 ≤ 2147483647) ∧ True) (pc' := 40) (la' := [some (.inr (.inr (some (3, 0)))), some (.inl f), some (.inl t), some (.inl w)]) (st' := [.inl (w - 6), .inl f, .inl (5 + w), .inr (.inr (some (3, 0)))]) (M' := (P, g, r0, n)) ok_X8_addWord true 8 rfl (by refine ⟨?_, ?_, trivial⟩ <;> (omega)) ?_
        refine aj_callV (av := [.inl (5 + w), .inl f, .inl (w - 6)]) (st := []) (f := 3) (o := 0) (ci := 8) cal_X8_addToken lk_8_72 ins_X8_addToken rfl sel_X8_addToken rfl (fun c9 h9 _ => by simpa [ax_ok] using h9) (cp_addTok (5 + w) f (w - 6) _ _ _ _ hn h6) ⟨by decide, by decide, by decide, by decide⟩ (Nat.le_of_ble_eq_true rfl) (ax_dec2 (i := .invokevirtual 72) (n := 3) ok_X8_addWord rfl) (fun r M' hq => ?_)
        obtain ⟨rfl, rfl⟩ := hq
        change ax_J _ _ _ _ _ _ _ _ _ 43 [some (.inr (.inr (some (3, 0)))), some (.inl f), some (.inl t), some (.inl w)] [] (P, aT g (5 + w) f (w - 6), r0, n)
        refine aj_ret (r := none) (ax_dec2 (i := .return_) (n := 1) ok_X8_addWord rfl) ⟨?_, ?_, by decide, by decide⟩ rfl
        · first | (exfalso; omega) | exact ⟨rfl, w - 6, by rw [hyw]; first | rw [if_pos (by omega)] | rw [if_neg (by omega), if_pos (by omega)], fun _ => by rw [hyw]⟩
        · exact trivial

set_option maxRecDepth 100000 in
set_option maxHeartbeats 4000000 in
theorem cp_addNum (f t : Int) (P : Nat → Int → Prop) (g : Nat → Int → Int → Int) (r0 : Nat → Int → Int → Option (Nat × Int)) (n : Nat → Int → Int) (hn : cTL n) (hz : 0 ≤ g 3 0 0 ∧ g 3 0 0 ≤ 160) (hf : 0 ≤ f ∧ f ≤ t ∧ t ≤ g 3 0 0) (hd : ∀ j, f ≤ j → j < t → 48 ≤ g 302 0 j ∧ g 302 0 j ≤ 57) (h6 : 0 ≤ g 3 0 6 ∧ g 3 0 6 < 161) : ax_S yX8_addNumber cX8_addNumber 5 none 1 0 0 [.inr (.inr (some (3, 0))), .inl f, .inl t] (P, g, r0, n) (fun r M' => r = none ∧ ∃ v, M' = (P, aT g (if 4 < t - f then 1 else 2) f v, r0, n) ∧ (t - f ≤ 4 → v = tkD (g 302 0) f (t - f))) := by
  obtain ⟨n302, -⟩ := id hn
  refine ax_S_of (own := 8) (by decide) rfl (fun h => absurd h (by decide)) rfl (Nat.le_of_ble_eq_true rfl) ?_
  change ax_J _ _ _ _ _ _ _ _ _ _ [some (.inr (.inr (some (3, 0)))), some (.inl f), some (.inl t), none, none] _ _
  refine aj_run (C := True) (pc' := 5) (la' := [some (.inr (.inr (some (3, 0)))), some (.inl f), some (.inl t), some (.inl 0), some (.inl f)]) (st' := []) (M' := (P, g, r0, n)) ok_X8_addNumber true 4 rfl trivial ?_
  refine aj_loop (σ := (Int) × (Int)) (fun xL => f ≤ xL.1 ∧ xL.1 ≤ t ∧ (xL.1 - f ≤ 4 → xL.2 = tkD (g 302 0) f (xL.1 - f))) (fun xL => (t - xL.1).toNat) (fun xL => [some (.inr (.inr (some (3, 0)))), some (.inl f), some (.inl t), some (.inl xL.2), some (.inl xL.1)]) (fun xL => []) (fun xL => (P, g, r0, n)) ?_ (f, 0) ?_
  rotate_left
  · (try dsimp only); exact ⟨by omega, by omega, fun _ => by rw [show f - f = 0 by omega]; rfl⟩
  rintro ⟨i, v⟩ hI ih5
  try dsimp only at hI ih5
  obtain ⟨i1, i2, i3⟩ := hI
  change ax_J _ _ _ _ _ _ _ _ _ 5 [some (.inr (.inr (some (3, 0)))), some (.inl f), some (.inl t), some (.inl v), some (.inl i)] [] (P, g, r0, n)
  refine aj_run (C := True) (pc' := 8) (la' := [some (.inr (.inr (some (3, 0)))), some (.inl f), some (.inl t), some (.inl v), some (.inl i)]) (st' := [.inl t, .inl i]) (M' := (P, g, r0, n)) ok_X8_addNumber true 2 rfl trivial ?_
  refine aj_icmp_ge (tgt := 33) (ax_dec2 (i := .if_icmp .ge 25) (n := 3) ok_X8_addNumber rfl) (by decide) (fun c1 => ?_) (fun c1 => ?_)
  · refine aj_run (C := (-2147483648 ≤ t - f ∧ t - f ≤ 2147483647) ∧ True) (pc' := 38) (la' := [some (.inr (.inr (some (3, 0)))), some (.inl f), some (.inl t), some (.inl v), some (.inl i)]) (st' := [.inl 4, .inl (t - f), .inr (.inr (some (3, 0)))]) (M' := (P, g, r0, n)) ok_X8_addNumber true 5 rfl (by refine ⟨?_, trivial⟩ <;> (omega)) ?_
    refine aj_icmp_le (tgt := 45) (ax_dec2 (i := .if_icmp .le 7) (n := 3) ok_X8_addNumber rfl) (by decide) (fun c2 => ?_) (fun c2 => ?_)
    · refine aj_run (C := True) (pc' := 48) (la' := [some (.inr (.inr (some (3, 0)))), some (.inl f), some (.inl t), some (.inl v), some (.inl i)]) (st' := [.inl v, .inl f, .inl 2, .inr (.inr (some (3, 0)))]) (M' := (P, g, r0, n)) ok_X8_addNumber true 3 rfl trivial ?_
      refine aj_callV (av := [.inl 2, .inl f, .inl v]) (st := []) (f := 3) (o := 0) (ci := 8) cal_X8_addToken lk_8_72 ins_X8_addToken rfl sel_X8_addToken rfl (fun c9 h9 _ => by simpa [ax_ok] using h9) (cp_addTok 2 f v _ _ _ _ hn h6) ⟨by decide, by decide, by decide, by decide⟩ (Nat.le_of_ble_eq_true rfl) (ax_dec2 (i := .invokevirtual 72) (n := 3) ok_X8_addNumber rfl) (fun r M' hq => ?_)
      obtain ⟨rfl, rfl⟩ := hq
      change ax_J _ _ _ _ _ _ _ _ _ 51 [some (.inr (.inr (some (3, 0)))), some (.inl f), some (.inl t), some (.inl v), some (.inl i)] [] (P, aT g 2 f v, r0, n)
      refine aj_ret (r := none) (ax_dec2 (i := .return_) (n := 1) ok_X8_addNumber rfl) ⟨?_, ?_, by decide, by decide⟩ rfl
      · exact ⟨rfl, v, by first | rw [if_pos (by omega)] | rw [if_neg (by omega)], fun z => by rw [i3 (by omega), show i = t by omega]⟩
      · exact trivial
    · refine aj_run (C := True) (pc' := 48) (la' := [some (.inr (.inr (some (3, 0)))), some (.inl f), some (.inl t), some (.inl v), some (.inl i)]) (st' := [.inl v, .inl f, .inl 1, .inr (.inr (some (3, 0)))]) (M' := (P, g, r0, n)) ok_X8_addNumber true 4 rfl trivial ?_
      refine aj_callV (av := [.inl 1, .inl f, .inl v]) (st := []) (f := 3) (o := 0) (ci := 8) cal_X8_addToken lk_8_72 ins_X8_addToken rfl sel_X8_addToken rfl (fun c9 h9 _ => by simpa [ax_ok] using h9) (cp_addTok 1 f v _ _ _ _ hn h6) ⟨by decide, by decide, by decide, by decide⟩ (Nat.le_of_ble_eq_true rfl) (ax_dec2 (i := .invokevirtual 72) (n := 3) ok_X8_addNumber rfl) (fun r M' hq => ?_)
      obtain ⟨rfl, rfl⟩ := hq
      change ax_J _ _ _ _ _ _ _ _ _ 51 [some (.inr (.inr (some (3, 0)))), some (.inl f), some (.inl t), some (.inl v), some (.inl i)] [] (P, aT g 1 f v, r0, n)
      refine aj_ret (r := none) (ax_dec2 (i := .return_) (n := 1) ok_X8_addNumber rfl) ⟨?_, ?_, by decide, by decide⟩ rfl
      · exact ⟨rfl, v, by first | rw [if_pos (by omega)] | rw [if_neg (by omega)], fun z => by rw [i3 (by omega), show i = t by omega]⟩
      · exact trivial
  · refine aj_run (C := (0 ≤ i ∧ i < n 302 0) ∧ True) (pc' := 26) (la' := [some (.inr (.inr (some (3, 0)))), some (.inl f), some (.inl t), some (.inl v), some (.inl i)]) (st' := [.inl (Int.bmod ((Int.bmod ((Int.bmod (v * 10) 4294967296) + (g 302 0 i)) 4294967296) - 48) 4294967296)]) (M' := (P, g, r0, n)) ok_X8_addNumber false 10 rfl (by refine ⟨?_, trivial⟩ <;> (omega)) ?_
    refine aj_run (C := (-2147483648 ≤ i + 1 ∧ i + 1 ≤ 2147483647) ∧ True) (pc' := 5) (la' := [some (.inr (.inr (some (3, 0)))), some (.inl f), some (.inl t), some (.inl (Int.bmod ((Int.bmod ((Int.bmod (v * 10) 4294967296) + (g 302 0 i)) 4294967296) - 48) 4294967296)), some (.inl (i + 1))]) (st' := []) (M' := (P, g, r0, n)) ok_X8_addNumber true 3 rfl (by refine ⟨?_, trivial⟩ <;> (omega)) ?_
    refine ih5 (i + 1, Int.bmod ((Int.bmod ((Int.bmod (v * 10) 4294967296) + (g 302 0 i)) 4294967296) - 48) 4294967296) ?_ ?_
    · (try dsimp only); exact ⟨by omega, by omega, fun z => (by
        have hv := i3 (by omega)
        have hb := hd i i1 (by omega)
        have hdi := tkD_in (B := g 302 0) (f := f) (n := i - f) (by omega) (by omega) (fun j z1 z2 => hd (f + j) (by omega) (by omega))
        have h9 := hdi.2.2 (by omega)
        rw [show i + 1 - f = (i - f) + 1 by omega, tkD_s (by omega), show f + (i - f) = i by omega, ← hv]
        rw [← hv] at hdi h9
        rw [ax_bm (x := v * 10) (by omega), ax_bm (x := v * 10 + g 302 0 i) (by omega), ax_bm (by omega)]
        omega)⟩
    · omega

