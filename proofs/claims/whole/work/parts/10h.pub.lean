/-- the first m numbers of a row, put into another -/
def wMv (g : Nat → Int → Int → Int) (A B : Nat) (m : Int) : Nat → Int → Int → Int := fun f o j => if f = B ∧ o = 0 ∧ 0 ≤ j ∧ j < m then g A 0 j else g f o j
theorem wMv_0 {g : Nat → Int → Int → Int} {A B : Nat} : g = wMv g A B 0 := by
  funext f o j
  unfold wMv
  rw [if_neg (by omega)]
theorem wMv_s {g : Nat → Int → Int → Int} {A B : Nat} {k : Int} (h : 0 ≤ k) : ax_u3 (wMv g A B k) B 0 k (g A 0 k) = wMv g A B (k + 1) := by
  funext f o j
  by_cases q : f = B ∧ o = 0 ∧ j = k
  · obtain ⟨rfl, rfl, rfl⟩ := q
    rw [ax_u3_s]
    unfold wMv
    rw [if_pos (by omega)]
  · rw [ax_u3_n q]
    unfold wMv
    by_cases q2 : f = B ∧ o = 0 ∧ 0 ≤ j ∧ j < k
    · rw [if_pos q2, if_pos (by omega)]
    · rw [if_neg q2, if_neg (by omega)]
set_option maxRecDepth 100000 in
set_option maxHeartbeats 4000000 in
theorem sp_move_104_151 (P : Nat → Int → Prop) (g : Nat → Int → Int → Int) (r0 : Nat → Int → Int → Option (Nat × Int)) (n : Nat → Int → Int) (hn : mLen n) : ax_S yX11_move cX11_move 3 none 0 0 0 [.inr (.inr (some (104, 0))), .inr (.inr (some (151, 0)))] (P, g, r0, n) (fun r M' => r = none ∧ M' = (P, wMv g 104 151 7, r0, n)) := by
  have n1 : n 104 0 = 7 := hn (104, 7) (by decide)
  have n2 : n 151 0 = 7 := hn (151, 7) (by decide)
  refine ax_S_of (own := 11) (by decide) rfl (fun h => absurd h (by decide)) rfl (Nat.le_of_ble_eq_true rfl) ?_
  change ax_J _ _ _ _ _ _ _ _ _ _ [some (.inr (.inr (some (104, 0)))), some (.inr (.inr (some (151, 0)))), none] _ _
  refine aj_run (C := True) (pc' := 2) (la' := [some (.inr (.inr (some (104, 0)))), some (.inr (.inr (some (151, 0)))), some (.inl 0)]) (st' := []) (M' := (P, g, r0, n)) ok_X11_move true 2 rfl trivial ?_
  refine aj_cast rfl rfl (congrArg (fun z9 => ((P, z9, r0, n) : ax_Mm)) (show g = wMv g 104 151 0 from by exact wMv_0)) ?_
  refine aj_loop (σ := (Int)) (fun x => 0 ≤ x ∧ x ≤ 7) (fun x => (7 - x).toNat) (fun x => [some (.inr (.inr (some (104, 0)))), some (.inr (.inr (some (151, 0)))), some (.inl x)]) (fun x => []) (fun x => (P, wMv g 104 151 x, r0, n)) ?_ (0) ?_
  rotate_left
  · omega
  rintro k hI ih2
  dsimp only at hI ih2
  obtain ⟨i1, i2⟩ := hI
  change ax_J _ _ _ _ _ _ _ _ _ 2 [some (.inr (.inr (some (104, 0)))), some (.inr (.inr (some (151, 0)))), some (.inl k)] [] (P, wMv g 104 151 k, r0, n)
  refine aj_run (C := True) (pc' := 5) (la' := [some (.inr (.inr (some (104, 0)))), some (.inr (.inr (some (151, 0)))), some (.inl k)]) (st' := [.inl (n 104 0), .inl k]) (M' := (P, wMv g 104 151 k, r0, n)) ok_X11_move true 3 rfl trivial ?_
  refine aj_icmp_ge (tgt := 20) (ax_dec2 (i := .if_icmp .ge 15) (n := 3) ok_X11_move rfl) (by decide) (fun c1 => ?_) (fun c1 => ?_)
  · refine aj_ret (r := none) (ax_dec2 (i := .return_) (n := 1) ok_X11_move rfl) ⟨?_, ?_, by decide, by decide⟩ rfl
    · exact ⟨rfl, by rw [show k = 7 by omega]⟩
    · exact trivial
  · refine aj_run (C := (0 ≤ k ∧ k < n 104 0) ∧ (0 ≤ k ∧ k < n 151 0) ∧ (-2147483648 ≤ k + 1 ∧ k + 1 ≤ 2147483647) ∧ True) (pc' := 2) (la' := [some (.inr (.inr (some (104, 0)))), some (.inr (.inr (some (151, 0)))), some (.inl (k + 1))]) (st' := []) (M' := (P, ax_u3 (wMv g 104 151 k) 151 0 k (g 104 0 k), r0, n)) ok_X11_move true 8 rfl (by refine ⟨?_, ?_, ?_, trivial⟩ <;> (omega)) ?_
    refine aj_cast rfl rfl (congrArg (fun z9 => ((P, z9, r0, n) : ax_Mm)) (show ax_u3 (wMv g 104 151 k) 151 0 k (g 104 0 k) = wMv g 104 151 (k + 1) from by exact wMv_s i1)) ?_
    refine ih2 (k + 1) ?_ ?_
    · omega
    · omega

set_option maxRecDepth 100000 in
set_option maxHeartbeats 4000000 in
theorem sp_move_105_152 (P : Nat → Int → Prop) (g : Nat → Int → Int → Int) (r0 : Nat → Int → Int → Option (Nat × Int)) (n : Nat → Int → Int) (hn : mLen n) : ax_S yX11_move cX11_move 3 none 0 0 0 [.inr (.inr (some (105, 0))), .inr (.inr (some (152, 0)))] (P, g, r0, n) (fun r M' => r = none ∧ M' = (P, wMv g 105 152 7, r0, n)) := by
  have n1 : n 105 0 = 7 := hn (105, 7) (by decide)
  have n2 : n 152 0 = 7 := hn (152, 7) (by decide)
  refine ax_S_of (own := 11) (by decide) rfl (fun h => absurd h (by decide)) rfl (Nat.le_of_ble_eq_true rfl) ?_
  change ax_J _ _ _ _ _ _ _ _ _ _ [some (.inr (.inr (some (105, 0)))), some (.inr (.inr (some (152, 0)))), none] _ _
  refine aj_run (C := True) (pc' := 2) (la' := [some (.inr (.inr (some (105, 0)))), some (.inr (.inr (some (152, 0)))), some (.inl 0)]) (st' := []) (M' := (P, g, r0, n)) ok_X11_move true 2 rfl trivial ?_
  refine aj_cast rfl rfl (congrArg (fun z9 => ((P, z9, r0, n) : ax_Mm)) (show g = wMv g 105 152 0 from by exact wMv_0)) ?_
  refine aj_loop (σ := (Int)) (fun x => 0 ≤ x ∧ x ≤ 7) (fun x => (7 - x).toNat) (fun x => [some (.inr (.inr (some (105, 0)))), some (.inr (.inr (some (152, 0)))), some (.inl x)]) (fun x => []) (fun x => (P, wMv g 105 152 x, r0, n)) ?_ (0) ?_
  rotate_left
  · omega
  rintro k hI ih2
  dsimp only at hI ih2
  obtain ⟨i1, i2⟩ := hI
  change ax_J _ _ _ _ _ _ _ _ _ 2 [some (.inr (.inr (some (105, 0)))), some (.inr (.inr (some (152, 0)))), some (.inl k)] [] (P, wMv g 105 152 k, r0, n)
  refine aj_run (C := True) (pc' := 5) (la' := [some (.inr (.inr (some (105, 0)))), some (.inr (.inr (some (152, 0)))), some (.inl k)]) (st' := [.inl (n 105 0), .inl k]) (M' := (P, wMv g 105 152 k, r0, n)) ok_X11_move true 3 rfl trivial ?_
  refine aj_icmp_ge (tgt := 20) (ax_dec2 (i := .if_icmp .ge 15) (n := 3) ok_X11_move rfl) (by decide) (fun c1 => ?_) (fun c1 => ?_)
  · refine aj_ret (r := none) (ax_dec2 (i := .return_) (n := 1) ok_X11_move rfl) ⟨?_, ?_, by decide, by decide⟩ rfl
    · exact ⟨rfl, by rw [show k = 7 by omega]⟩
    · exact trivial
  · refine aj_run (C := (0 ≤ k ∧ k < n 105 0) ∧ (0 ≤ k ∧ k < n 152 0) ∧ (-2147483648 ≤ k + 1 ∧ k + 1 ≤ 2147483647) ∧ True) (pc' := 2) (la' := [some (.inr (.inr (some (105, 0)))), some (.inr (.inr (some (152, 0)))), some (.inl (k + 1))]) (st' := []) (M' := (P, ax_u3 (wMv g 105 152 k) 152 0 k (g 105 0 k), r0, n)) ok_X11_move true 8 rfl (by refine ⟨?_, ?_, ?_, trivial⟩ <;> (omega)) ?_
    refine aj_cast rfl rfl (congrArg (fun z9 => ((P, z9, r0, n) : ax_Mm)) (show ax_u3 (wMv g 105 152 k) 152 0 k (g 105 0 k) = wMv g 105 152 (k + 1) from by exact wMv_s i1)) ?_
    refine ih2 (k + 1) ?_ ?_
    · omega
    · omega

set_option maxRecDepth 100000 in
set_option maxHeartbeats 4000000 in
theorem sp_move_106_153 (P : Nat → Int → Prop) (g : Nat → Int → Int → Int) (r0 : Nat → Int → Int → Option (Nat × Int)) (n : Nat → Int → Int) (hn : mLen n) : ax_S yX11_move cX11_move 3 none 0 0 0 [.inr (.inr (some (106, 0))), .inr (.inr (some (153, 0)))] (P, g, r0, n) (fun r M' => r = none ∧ M' = (P, wMv g 106 153 7, r0, n)) := by
  have n1 : n 106 0 = 7 := hn (106, 7) (by decide)
  have n2 : n 153 0 = 7 := hn (153, 7) (by decide)
  refine ax_S_of (own := 11) (by decide) rfl (fun h => absurd h (by decide)) rfl (Nat.le_of_ble_eq_true rfl) ?_
  change ax_J _ _ _ _ _ _ _ _ _ _ [some (.inr (.inr (some (106, 0)))), some (.inr (.inr (some (153, 0)))), none] _ _
  refine aj_run (C := True) (pc' := 2) (la' := [some (.inr (.inr (some (106, 0)))), some (.inr (.inr (some (153, 0)))), some (.inl 0)]) (st' := []) (M' := (P, g, r0, n)) ok_X11_move true 2 rfl trivial ?_
  refine aj_cast rfl rfl (congrArg (fun z9 => ((P, z9, r0, n) : ax_Mm)) (show g = wMv g 106 153 0 from by exact wMv_0)) ?_
  refine aj_loop (σ := (Int)) (fun x => 0 ≤ x ∧ x ≤ 7) (fun x => (7 - x).toNat) (fun x => [some (.inr (.inr (some (106, 0)))), some (.inr (.inr (some (153, 0)))), some (.inl x)]) (fun x => []) (fun x => (P, wMv g 106 153 x, r0, n)) ?_ (0) ?_
  rotate_left
  · omega
  rintro k hI ih2
  dsimp only at hI ih2
  obtain ⟨i1, i2⟩ := hI
  change ax_J _ _ _ _ _ _ _ _ _ 2 [some (.inr (.inr (some (106, 0)))), some (.inr (.inr (some (153, 0)))), some (.inl k)] [] (P, wMv g 106 153 k, r0, n)
  refine aj_run (C := True) (pc' := 5) (la' := [some (.inr (.inr (some (106, 0)))), some (.inr (.inr (some (153, 0)))), some (.inl k)]) (st' := [.inl (n 106 0), .inl k]) (M' := (P, wMv g 106 153 k, r0, n)) ok_X11_move true 3 rfl trivial ?_
  refine aj_icmp_ge (tgt := 20) (ax_dec2 (i := .if_icmp .ge 15) (n := 3) ok_X11_move rfl) (by decide) (fun c1 => ?_) (fun c1 => ?_)
  · refine aj_ret (r := none) (ax_dec2 (i := .return_) (n := 1) ok_X11_move rfl) ⟨?_, ?_, by decide, by decide⟩ rfl
    · exact ⟨rfl, by rw [show k = 7 by omega]⟩
    · exact trivial
  · refine aj_run (C := (0 ≤ k ∧ k < n 106 0) ∧ (0 ≤ k ∧ k < n 153 0) ∧ (-2147483648 ≤ k + 1 ∧ k + 1 ≤ 2147483647) ∧ True) (pc' := 2) (la' := [some (.inr (.inr (some (106, 0)))), some (.inr (.inr (some (153, 0)))), some (.inl (k + 1))]) (st' := []) (M' := (P, ax_u3 (wMv g 106 153 k) 153 0 k (g 106 0 k), r0, n)) ok_X11_move true 8 rfl (by refine ⟨?_, ?_, ?_, trivial⟩ <;> (omega)) ?_
    refine aj_cast rfl rfl (congrArg (fun z9 => ((P, z9, r0, n) : ax_Mm)) (show ax_u3 (wMv g 106 153 k) 153 0 k (g 106 0 k) = wMv g 106 153 (k + 1) from by exact wMv_s i1)) ?_
    refine ih2 (k + 1) ?_ ?_
    · omega
    · omega

set_option maxRecDepth 100000 in
set_option maxHeartbeats 4000000 in
theorem sp_move_107_154 (P : Nat → Int → Prop) (g : Nat → Int → Int → Int) (r0 : Nat → Int → Int → Option (Nat × Int)) (n : Nat → Int → Int) (hn : mLen n) : ax_S yX11_move cX11_move 3 none 0 0 0 [.inr (.inr (some (107, 0))), .inr (.inr (some (154, 0)))] (P, g, r0, n) (fun r M' => r = none ∧ M' = (P, wMv g 107 154 7, r0, n)) := by
  have n1 : n 107 0 = 7 := hn (107, 7) (by decide)
  have n2 : n 154 0 = 7 := hn (154, 7) (by decide)
  refine ax_S_of (own := 11) (by decide) rfl (fun h => absurd h (by decide)) rfl (Nat.le_of_ble_eq_true rfl) ?_
  change ax_J _ _ _ _ _ _ _ _ _ _ [some (.inr (.inr (some (107, 0)))), some (.inr (.inr (some (154, 0)))), none] _ _
  refine aj_run (C := True) (pc' := 2) (la' := [some (.inr (.inr (some (107, 0)))), some (.inr (.inr (some (154, 0)))), some (.inl 0)]) (st' := []) (M' := (P, g, r0, n)) ok_X11_move true 2 rfl trivial ?_
  refine aj_cast rfl rfl (congrArg (fun z9 => ((P, z9, r0, n) : ax_Mm)) (show g = wMv g 107 154 0 from by exact wMv_0)) ?_
  refine aj_loop (σ := (Int)) (fun x => 0 ≤ x ∧ x ≤ 7) (fun x => (7 - x).toNat) (fun x => [some (.inr (.inr (some (107, 0)))), some (.inr (.inr (some (154, 0)))), some (.inl x)]) (fun x => []) (fun x => (P, wMv g 107 154 x, r0, n)) ?_ (0) ?_
  rotate_left
  · omega
  rintro k hI ih2
  dsimp only at hI ih2
  obtain ⟨i1, i2⟩ := hI
  change ax_J _ _ _ _ _ _ _ _ _ 2 [some (.inr (.inr (some (107, 0)))), some (.inr (.inr (some (154, 0)))), some (.inl k)] [] (P, wMv g 107 154 k, r0, n)
  refine aj_run (C := True) (pc' := 5) (la' := [some (.inr (.inr (some (107, 0)))), some (.inr (.inr (some (154, 0)))), some (.inl k)]) (st' := [.inl (n 107 0), .inl k]) (M' := (P, wMv g 107 154 k, r0, n)) ok_X11_move true 3 rfl trivial ?_
  refine aj_icmp_ge (tgt := 20) (ax_dec2 (i := .if_icmp .ge 15) (n := 3) ok_X11_move rfl) (by decide) (fun c1 => ?_) (fun c1 => ?_)
  · refine aj_ret (r := none) (ax_dec2 (i := .return_) (n := 1) ok_X11_move rfl) ⟨?_, ?_, by decide, by decide⟩ rfl
    · exact ⟨rfl, by rw [show k = 7 by omega]⟩
    · exact trivial
  · refine aj_run (C := (0 ≤ k ∧ k < n 107 0) ∧ (0 ≤ k ∧ k < n 154 0) ∧ (-2147483648 ≤ k + 1 ∧ k + 1 ≤ 2147483647) ∧ True) (pc' := 2) (la' := [some (.inr (.inr (some (107, 0)))), some (.inr (.inr (some (154, 0)))), some (.inl (k + 1))]) (st' := []) (M' := (P, ax_u3 (wMv g 107 154 k) 154 0 k (g 107 0 k), r0, n)) ok_X11_move true 8 rfl (by refine ⟨?_, ?_, ?_, trivial⟩ <;> (omega)) ?_
    refine aj_cast rfl rfl (congrArg (fun z9 => ((P, z9, r0, n) : ax_Mm)) (show ax_u3 (wMv g 107 154 k) 154 0 k (g 107 0 k) = wMv g 107 154 (k + 1) from by exact wMv_s i1)) ?_
    refine ih2 (k + 1) ?_ ?_
    · omega
    · omega

set_option maxRecDepth 100000 in
set_option maxHeartbeats 4000000 in
theorem sp_move_151_104 (P : Nat → Int → Prop) (g : Nat → Int → Int → Int) (r0 : Nat → Int → Int → Option (Nat × Int)) (n : Nat → Int → Int) (hn : mLen n) : ax_S yX11_move cX11_move 3 none 0 0 0 [.inr (.inr (some (151, 0))), .inr (.inr (some (104, 0)))] (P, g, r0, n) (fun r M' => r = none ∧ M' = (P, wMv g 151 104 7, r0, n)) := by
  have n1 : n 151 0 = 7 := hn (151, 7) (by decide)
  have n2 : n 104 0 = 7 := hn (104, 7) (by decide)
  refine ax_S_of (own := 11) (by decide) rfl (fun h => absurd h (by decide)) rfl (Nat.le_of_ble_eq_true rfl) ?_
  change ax_J _ _ _ _ _ _ _ _ _ _ [some (.inr (.inr (some (151, 0)))), some (.inr (.inr (some (104, 0)))), none] _ _
  refine aj_run (C := True) (pc' := 2) (la' := [some (.inr (.inr (some (151, 0)))), some (.inr (.inr (some (104, 0)))), some (.inl 0)]) (st' := []) (M' := (P, g, r0, n)) ok_X11_move true 2 rfl trivial ?_
  refine aj_cast rfl rfl (congrArg (fun z9 => ((P, z9, r0, n) : ax_Mm)) (show g = wMv g 151 104 0 from by exact wMv_0)) ?_
  refine aj_loop (σ := (Int)) (fun x => 0 ≤ x ∧ x ≤ 7) (fun x => (7 - x).toNat) (fun x => [some (.inr (.inr (some (151, 0)))), some (.inr (.inr (some (104, 0)))), some (.inl x)]) (fun x => []) (fun x => (P, wMv g 151 104 x, r0, n)) ?_ (0) ?_
  rotate_left
  · omega
  rintro k hI ih2
  dsimp only at hI ih2
  obtain ⟨i1, i2⟩ := hI
  change ax_J _ _ _ _ _ _ _ _ _ 2 [some (.inr (.inr (some (151, 0)))), some (.inr (.inr (some (104, 0)))), some (.inl k)] [] (P, wMv g 151 104 k, r0, n)
  refine aj_run (C := True) (pc' := 5) (la' := [some (.inr (.inr (some (151, 0)))), some (.inr (.inr (some (104, 0)))), some (.inl k)]) (st' := [.inl (n 151 0), .inl k]) (M' := (P, wMv g 151 104 k, r0, n)) ok_X11_move true 3 rfl trivial ?_
  refine aj_icmp_ge (tgt := 20) (ax_dec2 (i := .if_icmp .ge 15) (n := 3) ok_X11_move rfl) (by decide) (fun c1 => ?_) (fun c1 => ?_)
  · refine aj_ret (r := none) (ax_dec2 (i := .return_) (n := 1) ok_X11_move rfl) ⟨?_, ?_, by decide, by decide⟩ rfl
    · exact ⟨rfl, by rw [show k = 7 by omega]⟩
    · exact trivial
  · refine aj_run (C := (0 ≤ k ∧ k < n 151 0) ∧ (0 ≤ k ∧ k < n 104 0) ∧ (-2147483648 ≤ k + 1 ∧ k + 1 ≤ 2147483647) ∧ True) (pc' := 2) (la' := [some (.inr (.inr (some (151, 0)))), some (.inr (.inr (some (104, 0)))), some (.inl (k + 1))]) (st' := []) (M' := (P, ax_u3 (wMv g 151 104 k) 104 0 k (g 151 0 k), r0, n)) ok_X11_move true 8 rfl (by refine ⟨?_, ?_, ?_, trivial⟩ <;> (omega)) ?_
    refine aj_cast rfl rfl (congrArg (fun z9 => ((P, z9, r0, n) : ax_Mm)) (show ax_u3 (wMv g 151 104 k) 104 0 k (g 151 0 k) = wMv g 151 104 (k + 1) from by exact wMv_s i1)) ?_
    refine ih2 (k + 1) ?_ ?_
    · omega
    · omega

set_option maxRecDepth 100000 in
set_option maxHeartbeats 4000000 in
theorem sp_move_152_105 (P : Nat → Int → Prop) (g : Nat → Int → Int → Int) (r0 : Nat → Int → Int → Option (Nat × Int)) (n : Nat → Int → Int) (hn : mLen n) : ax_S yX11_move cX11_move 3 none 0 0 0 [.inr (.inr (some (152, 0))), .inr (.inr (some (105, 0)))] (P, g, r0, n) (fun r M' => r = none ∧ M' = (P, wMv g 152 105 7, r0, n)) := by
  have n1 : n 152 0 = 7 := hn (152, 7) (by decide)
  have n2 : n 105 0 = 7 := hn (105, 7) (by decide)
  refine ax_S_of (own := 11) (by decide) rfl (fun h => absurd h (by decide)) rfl (Nat.le_of_ble_eq_true rfl) ?_
  change ax_J _ _ _ _ _ _ _ _ _ _ [some (.inr (.inr (some (152, 0)))), some (.inr (.inr (some (105, 0)))), none] _ _
  refine aj_run (C := True) (pc' := 2) (la' := [some (.inr (.inr (some (152, 0)))), some (.inr (.inr (some (105, 0)))), some (.inl 0)]) (st' := []) (M' := (P, g, r0, n)) ok_X11_move true 2 rfl trivial ?_
  refine aj_cast rfl rfl (congrArg (fun z9 => ((P, z9, r0, n) : ax_Mm)) (show g = wMv g 152 105 0 from by exact wMv_0)) ?_
  refine aj_loop (σ := (Int)) (fun x => 0 ≤ x ∧ x ≤ 7) (fun x => (7 - x).toNat) (fun x => [some (.inr (.inr (some (152, 0)))), some (.inr (.inr (some (105, 0)))), some (.inl x)]) (fun x => []) (fun x => (P, wMv g 152 105 x, r0, n)) ?_ (0) ?_
  rotate_left
  · omega
  rintro k hI ih2
  dsimp only at hI ih2
  obtain ⟨i1, i2⟩ := hI
  change ax_J _ _ _ _ _ _ _ _ _ 2 [some (.inr (.inr (some (152, 0)))), some (.inr (.inr (some (105, 0)))), some (.inl k)] [] (P, wMv g 152 105 k, r0, n)
  refine aj_run (C := True) (pc' := 5) (la' := [some (.inr (.inr (some (152, 0)))), some (.inr (.inr (some (105, 0)))), some (.inl k)]) (st' := [.inl (n 152 0), .inl k]) (M' := (P, wMv g 152 105 k, r0, n)) ok_X11_move true 3 rfl trivial ?_
  refine aj_icmp_ge (tgt := 20) (ax_dec2 (i := .if_icmp .ge 15) (n := 3) ok_X11_move rfl) (by decide) (fun c1 => ?_) (fun c1 => ?_)
  · refine aj_ret (r := none) (ax_dec2 (i := .return_) (n := 1) ok_X11_move rfl) ⟨?_, ?_, by decide, by decide⟩ rfl
    · exact ⟨rfl, by rw [show k = 7 by omega]⟩
    · exact trivial
  · refine aj_run (C := (0 ≤ k ∧ k < n 152 0) ∧ (0 ≤ k ∧ k < n 105 0) ∧ (-2147483648 ≤ k + 1 ∧ k + 1 ≤ 2147483647) ∧ True) (pc' := 2) (la' := [some (.inr (.inr (some (152, 0)))), some (.inr (.inr (some (105, 0)))), some (.inl (k + 1))]) (st' := []) (M' := (P, ax_u3 (wMv g 152 105 k) 105 0 k (g 152 0 k), r0, n)) ok_X11_move true 8 rfl (by refine ⟨?_, ?_, ?_, trivial⟩ <;> (omega)) ?_
    refine aj_cast rfl rfl (congrArg (fun z9 => ((P, z9, r0, n) : ax_Mm)) (show ax_u3 (wMv g 152 105 k) 105 0 k (g 152 0 k) = wMv g 152 105 (k + 1) from by exact wMv_s i1)) ?_
    refine ih2 (k + 1) ?_ ?_
    · omega
    · omega

set_option maxRecDepth 100000 in
set_option maxHeartbeats 4000000 in
theorem sp_move_153_106 (P : Nat → Int → Prop) (g : Nat → Int → Int → Int) (r0 : Nat → Int → Int → Option (Nat × Int)) (n : Nat → Int → Int) (hn : mLen n) : ax_S yX11_move cX11_move 3 none 0 0 0 [.inr (.inr (some (153, 0))), .inr (.inr (some (106, 0)))] (P, g, r0, n) (fun r M' => r = none ∧ M' = (P, wMv g 153 106 7, r0, n)) := by
  have n1 : n 153 0 = 7 := hn (153, 7) (by decide)
  have n2 : n 106 0 = 7 := hn (106, 7) (by decide)
  refine ax_S_of (own := 11) (by decide) rfl (fun h => absurd h (by decide)) rfl (Nat.le_of_ble_eq_true rfl) ?_
  change ax_J _ _ _ _ _ _ _ _ _ _ [some (.inr (.inr (some (153, 0)))), some (.inr (.inr (some (106, 0)))), none] _ _
  refine aj_run (C := True) (pc' := 2) (la' := [some (.inr (.inr (some (153, 0)))), some (.inr (.inr (some (106, 0)))), some (.inl 0)]) (st' := []) (M' := (P, g, r0, n)) ok_X11_move true 2 rfl trivial ?_
  refine aj_cast rfl rfl (congrArg (fun z9 => ((P, z9, r0, n) : ax_Mm)) (show g = wMv g 153 106 0 from by exact wMv_0)) ?_
  refine aj_loop (σ := (Int)) (fun x => 0 ≤ x ∧ x ≤ 7) (fun x => (7 - x).toNat) (fun x => [some (.inr (.inr (some (153, 0)))), some (.inr (.inr (some (106, 0)))), some (.inl x)]) (fun x => []) (fun x => (P, wMv g 153 106 x, r0, n)) ?_ (0) ?_
  rotate_left
  · omega
  rintro k hI ih2
  dsimp only at hI ih2
  obtain ⟨i1, i2⟩ := hI
  change ax_J _ _ _ _ _ _ _ _ _ 2 [some (.inr (.inr (some (153, 0)))), some (.inr (.inr (some (106, 0)))), some (.inl k)] [] (P, wMv g 153 106 k, r0, n)
  refine aj_run (C := True) (pc' := 5) (la' := [some (.inr (.inr (some (153, 0)))), some (.inr (.inr (some (106, 0)))), some (.inl k)]) (st' := [.inl (n 153 0), .inl k]) (M' := (P, wMv g 153 106 k, r0, n)) ok_X11_move true 3 rfl trivial ?_
  refine aj_icmp_ge (tgt := 20) (ax_dec2 (i := .if_icmp .ge 15) (n := 3) ok_X11_move rfl) (by decide) (fun c1 => ?_) (fun c1 => ?_)
  · refine aj_ret (r := none) (ax_dec2 (i := .return_) (n := 1) ok_X11_move rfl) ⟨?_, ?_, by decide, by decide⟩ rfl
    · exact ⟨rfl, by rw [show k = 7 by omega]⟩
    · exact trivial
  · refine aj_run (C := (0 ≤ k ∧ k < n 153 0) ∧ (0 ≤ k ∧ k < n 106 0) ∧ (-2147483648 ≤ k + 1 ∧ k + 1 ≤ 2147483647) ∧ True) (pc' := 2) (la' := [some (.inr (.inr (some (153, 0)))), some (.inr (.inr (some (106, 0)))), some (.inl (k + 1))]) (st' := []) (M' := (P, ax_u3 (wMv g 153 106 k) 106 0 k (g 153 0 k), r0, n)) ok_X11_move true 8 rfl (by refine ⟨?_, ?_, ?_, trivial⟩ <;> (omega)) ?_
    refine aj_cast rfl rfl (congrArg (fun z9 => ((P, z9, r0, n) : ax_Mm)) (show ax_u3 (wMv g 153 106 k) 106 0 k (g 153 0 k) = wMv g 153 106 (k + 1) from by exact wMv_s i1)) ?_
    refine ih2 (k + 1) ?_ ?_
    · omega
    · omega

set_option maxRecDepth 100000 in
set_option maxHeartbeats 4000000 in
theorem sp_move_154_107 (P : Nat → Int → Prop) (g : Nat → Int → Int → Int) (r0 : Nat → Int → Int → Option (Nat × Int)) (n : Nat → Int → Int) (hn : mLen n) : ax_S yX11_move cX11_move 3 none 0 0 0 [.inr (.inr (some (154, 0))), .inr (.inr (some (107, 0)))] (P, g, r0, n) (fun r M' => r = none ∧ M' = (P, wMv g 154 107 7, r0, n)) := by
  have n1 : n 154 0 = 7 := hn (154, 7) (by decide)
  have n2 : n 107 0 = 7 := hn (107, 7) (by decide)
  refine ax_S_of (own := 11) (by decide) rfl (fun h => absurd h (by decide)) rfl (Nat.le_of_ble_eq_true rfl) ?_
  change ax_J _ _ _ _ _ _ _ _ _ _ [some (.inr (.inr (some (154, 0)))), some (.inr (.inr (some (107, 0)))), none] _ _
  refine aj_run (C := True) (pc' := 2) (la' := [some (.inr (.inr (some (154, 0)))), some (.inr (.inr (some (107, 0)))), some (.inl 0)]) (st' := []) (M' := (P, g, r0, n)) ok_X11_move true 2 rfl trivial ?_
  refine aj_cast rfl rfl (congrArg (fun z9 => ((P, z9, r0, n) : ax_Mm)) (show g = wMv g 154 107 0 from by exact wMv_0)) ?_
  refine aj_loop (σ := (Int)) (fun x => 0 ≤ x ∧ x ≤ 7) (fun x => (7 - x).toNat) (fun x => [some (.inr (.inr (some (154, 0)))), some (.inr (.inr (some (107, 0)))), some (.inl x)]) (fun x => []) (fun x => (P, wMv g 154 107 x, r0, n)) ?_ (0) ?_
  rotate_left
  · omega
  rintro k hI ih2
  dsimp only at hI ih2
  obtain ⟨i1, i2⟩ := hI
  change ax_J _ _ _ _ _ _ _ _ _ 2 [some (.inr (.inr (some (154, 0)))), some (.inr (.inr (some (107, 0)))), some (.inl k)] [] (P, wMv g 154 107 k, r0, n)
  refine aj_run (C := True) (pc' := 5) (la' := [some (.inr (.inr (some (154, 0)))), some (.inr (.inr (some (107, 0)))), some (.inl k)]) (st' := [.inl (n 154 0), .inl k]) (M' := (P, wMv g 154 107 k, r0, n)) ok_X11_move true 3 rfl trivial ?_
  refine aj_icmp_ge (tgt := 20) (ax_dec2 (i := .if_icmp .ge 15) (n := 3) ok_X11_move rfl) (by decide) (fun c1 => ?_) (fun c1 => ?_)
  · refine aj_ret (r := none) (ax_dec2 (i := .return_) (n := 1) ok_X11_move rfl) ⟨?_, ?_, by decide, by decide⟩ rfl
    · exact ⟨rfl, by rw [show k = 7 by omega]⟩
    · exact trivial
  · refine aj_run (C := (0 ≤ k ∧ k < n 154 0) ∧ (0 ≤ k ∧ k < n 107 0) ∧ (-2147483648 ≤ k + 1 ∧ k + 1 ≤ 2147483647) ∧ True) (pc' := 2) (la' := [some (.inr (.inr (some (154, 0)))), some (.inr (.inr (some (107, 0)))), some (.inl (k + 1))]) (st' := []) (M' := (P, ax_u3 (wMv g 154 107 k) 107 0 k (g 154 0 k), r0, n)) ok_X11_move true 8 rfl (by refine ⟨?_, ?_, ?_, trivial⟩ <;> (omega)) ?_
    refine aj_cast rfl rfl (congrArg (fun z9 => ((P, z9, r0, n) : ax_Mm)) (show ax_u3 (wMv g 154 107 k) 107 0 k (g 154 0 k) = wMv g 154 107 (k + 1) from by exact wMv_s i1)) ?_
    refine ih2 (k + 1) ?_ ?_
    · omega
    · omega

def mImage (g : Nat → Int → Int → Int) : Nat → Int → Int → Int := wMv (wMv (wMv (wMv (ax_u3 (ax_u3 (ax_u3 (ax_u3 (ax_u3 g 50 0 46 1) 50 0 47 (g 50 0 2)) 50 0 48 (g 50 0 0)) 50 0 49 (g 50 0 1)) 50 0 50 (g 50 0 11)) 104 151 7) 105 152 7) 106 153 7) 107 154 7
def mBackM (g : Nat → Int → Int → Int) : Nat → Int → Int → Int := wMv (wMv (wMv (wMv (ax_u3 (ax_u3 (ax_u3 (ax_u3 g 50 0 2 (g 50 0 47)) 50 0 0 (g 50 0 48)) 50 0 1 (g 50 0 49)) 50 0 11 (g 50 0 50)) 151 104 7) 152 105 7) 153 106 7) 154 107 7
def mBack (g : Nat → Int → Int → Int) : Int × (Nat → Int → Int → Int) := if g 50 0 46 = 0 then (-3, g) else (g 50 0 47, mBackM g)
set_option maxRecDepth 100000 in
set_option maxHeartbeats 4000000 in
theorem sp_image (P : Nat → Int → Prop) (g : Nat → Int → Int → Int) (r0 : Nat → Int → Int → Option (Nat × Int)) (n : Nat → Int → Int) (hn : mLen n) : ax_S yX11_image cX11_image 1 (some FieldType.int) 1 0 0 [.inr (.inr (some (50, 0)))] (P, g, r0, n) (fun r M' => r = some (.inl (g 50 0 2)) ∧ M' = (P, mImage g, r0, n)) := by
  have n104 : n 104 0 = 7 := hn (104, 7) (by decide)
  have n151 : n 151 0 = 7 := hn (151, 7) (by decide)
  have n105 : n 105 0 = 7 := hn (105, 7) (by decide)
  have n152 : n 152 0 = 7 := hn (152, 7) (by decide)
  have n106 : n 106 0 = 7 := hn (106, 7) (by decide)
  have n153 : n 153 0 = 7 := hn (153, 7) (by decide)
  have n107 : n 107 0 = 7 := hn (107, 7) (by decide)
  have n154 : n 154 0 = 7 := hn (154, 7) (by decide)
  refine ax_S_of (own := 11) (by decide) rfl (fun h => absurd h (by decide)) rfl (Nat.le_of_ble_eq_true rfl) ?_
  change ax_J _ _ _ _ _ _ _ _ _ _ [some (.inr (.inr (some (50, 0))))] _ _
  refine aj_run (C := (1 = 0 ∨ 1 = 1) ∧ True) (pc' := 45) (la' := [some (.inr (.inr (some (50, 0))))]) (st' := [.inr (.inr (some (151, 0))), .inr (.inr (some (104, 0)))]) (M' := (P, ax_u3 (ax_u3 (ax_u3 (ax_u3 (ax_u3 g 50 0 46 1) 50 0 47 (g 50 0 2)) 50 0 48 (g 50 0 0)) 50 0 49 (g 50 0 1)) 50 0 50 (g 50 0 11), r0, n)) ok_X11_image true 23 rfl (by refine ⟨?_, trivial⟩ <;> (omega)) ?_
  refine aj_callS (av := [.inr (.inr (some (104, 0))), .inr (.inr (some (151, 0)))]) (st := []) cal_X11_move lk_11_326 stc_X11_move (sp_move_104_151 _ _ _ _ hn) ⟨by decide, by decide, by decide, by decide⟩ (Nat.le_of_ble_eq_true rfl) (ax_dec2 (i := .invokestatic 326) (n := 3) ok_X11_image rfl) (fun r M' hq => ?_)
  obtain ⟨rfl, rfl⟩ := hq
  change ax_J _ _ _ _ _ _ _ _ _ 48 [some (.inr (.inr (some (50, 0))))] [] (P, wMv (ax_u3 (ax_u3 (ax_u3 (ax_u3 (ax_u3 g 50 0 46 1) 50 0 47 (g 50 0 2)) 50 0 48 (g 50 0 0)) 50 0 49 (g 50 0 1)) 50 0 50 (g 50 0 11)) 104 151 7, r0, n)
  refine aj_run (C := True) (pc' := 56) (la' := [some (.inr (.inr (some (50, 0))))]) (st' := [.inr (.inr (some (152, 0))), .inr (.inr (some (105, 0)))]) (M' := (P, wMv (ax_u3 (ax_u3 (ax_u3 (ax_u3 (ax_u3 g 50 0 46 1) 50 0 47 (g 50 0 2)) 50 0 48 (g 50 0 0)) 50 0 49 (g 50 0 1)) 50 0 50 (g 50 0 11)) 104 151 7, r0, n)) ok_X11_image true 4 rfl trivial ?_
  refine aj_callS (av := [.inr (.inr (some (105, 0))), .inr (.inr (some (152, 0)))]) (st := []) cal_X11_move lk_11_326 stc_X11_move (sp_move_105_152 _ _ _ _ hn) ⟨by decide, by decide, by decide, by decide⟩ (Nat.le_of_ble_eq_true rfl) (ax_dec2 (i := .invokestatic 326) (n := 3) ok_X11_image rfl) (fun r M' hq => ?_)
  obtain ⟨rfl, rfl⟩ := hq
  change ax_J _ _ _ _ _ _ _ _ _ 59 [some (.inr (.inr (some (50, 0))))] [] (P, wMv (wMv (ax_u3 (ax_u3 (ax_u3 (ax_u3 (ax_u3 g 50 0 46 1) 50 0 47 (g 50 0 2)) 50 0 48 (g 50 0 0)) 50 0 49 (g 50 0 1)) 50 0 50 (g 50 0 11)) 104 151 7) 105 152 7, r0, n)
  refine aj_run (C := True) (pc' := 67) (la' := [some (.inr (.inr (some (50, 0))))]) (st' := [.inr (.inr (some (153, 0))), .inr (.inr (some (106, 0)))]) (M' := (P, wMv (wMv (ax_u3 (ax_u3 (ax_u3 (ax_u3 (ax_u3 g 50 0 46 1) 50 0 47 (g 50 0 2)) 50 0 48 (g 50 0 0)) 50 0 49 (g 50 0 1)) 50 0 50 (g 50 0 11)) 104 151 7) 105 152 7, r0, n)) ok_X11_image true 4 rfl trivial ?_
  refine aj_callS (av := [.inr (.inr (some (106, 0))), .inr (.inr (some (153, 0)))]) (st := []) cal_X11_move lk_11_326 stc_X11_move (sp_move_106_153 _ _ _ _ hn) ⟨by decide, by decide, by decide, by decide⟩ (Nat.le_of_ble_eq_true rfl) (ax_dec2 (i := .invokestatic 326) (n := 3) ok_X11_image rfl) (fun r M' hq => ?_)
  obtain ⟨rfl, rfl⟩ := hq
  change ax_J _ _ _ _ _ _ _ _ _ 70 [some (.inr (.inr (some (50, 0))))] [] (P, wMv (wMv (wMv (ax_u3 (ax_u3 (ax_u3 (ax_u3 (ax_u3 g 50 0 46 1) 50 0 47 (g 50 0 2)) 50 0 48 (g 50 0 0)) 50 0 49 (g 50 0 1)) 50 0 50 (g 50 0 11)) 104 151 7) 105 152 7) 106 153 7, r0, n)
  refine aj_run (C := True) (pc' := 78) (la' := [some (.inr (.inr (some (50, 0))))]) (st' := [.inr (.inr (some (154, 0))), .inr (.inr (some (107, 0)))]) (M' := (P, wMv (wMv (wMv (ax_u3 (ax_u3 (ax_u3 (ax_u3 (ax_u3 g 50 0 46 1) 50 0 47 (g 50 0 2)) 50 0 48 (g 50 0 0)) 50 0 49 (g 50 0 1)) 50 0 50 (g 50 0 11)) 104 151 7) 105 152 7) 106 153 7, r0, n)) ok_X11_image true 4 rfl trivial ?_
  refine aj_callS (av := [.inr (.inr (some (107, 0))), .inr (.inr (some (154, 0)))]) (st := []) cal_X11_move lk_11_326 stc_X11_move (sp_move_107_154 _ _ _ _ hn) ⟨by decide, by decide, by decide, by decide⟩ (Nat.le_of_ble_eq_true rfl) (ax_dec2 (i := .invokestatic 326) (n := 3) ok_X11_image rfl) (fun r M' hq => ?_)
  obtain ⟨rfl, rfl⟩ := hq
  change ax_J _ _ _ _ _ _ _ _ _ 81 [some (.inr (.inr (some (50, 0))))] [] (P, wMv (wMv (wMv (wMv (ax_u3 (ax_u3 (ax_u3 (ax_u3 (ax_u3 g 50 0 46 1) 50 0 47 (g 50 0 2)) 50 0 48 (g 50 0 0)) 50 0 49 (g 50 0 1)) 50 0 50 (g 50 0 11)) 104 151 7) 105 152 7) 106 153 7) 107 154 7, r0, n)
  refine aj_run (C := True) (pc' := 85) (la' := [some (.inr (.inr (some (50, 0))))]) (st' := [.inl (g 50 0 2)]) (M' := (P, wMv (wMv (wMv (wMv (ax_u3 (ax_u3 (ax_u3 (ax_u3 (ax_u3 g 50 0 46 1) 50 0 47 (g 50 0 2)) 50 0 48 (g 50 0 0)) 50 0 49 (g 50 0 1)) 50 0 50 (g 50 0 11)) 104 151 7) 105 152 7) 106 153 7) 107 154 7, r0, n)) ok_X11_image true 2 rfl trivial ?_
  refine aj_ret (r := some (.inl (g 50 0 2))) (ax_dec2 (i := .ireturn) (n := 1) ok_X11_image rfl) ⟨?_, ?_, by decide, by decide⟩ rfl
  · exact ⟨rfl, rfl⟩
  · exact ax_ro_i

set_option maxRecDepth 100000 in
set_option maxHeartbeats 4000000 in
theorem sp_back (P : Nat → Int → Prop) (g : Nat → Int → Int → Int) (r0 : Nat → Int → Int → Option (Nat × Int)) (n : Nat → Int → Int) (hn : mLen n) : ax_S yX11_back cX11_back 1 (some FieldType.int) 1 0 0 [.inr (.inr (some (50, 0)))] (P, g, r0, n) (fun r M' => r = some (.inl (mBack g).1) ∧ M' = (P, (mBack g).2, r0, n)) := by
  have n151 : n 151 0 = 7 := hn (151, 7) (by decide)
  have n104 : n 104 0 = 7 := hn (104, 7) (by decide)
  have n152 : n 152 0 = 7 := hn (152, 7) (by decide)
  have n105 : n 105 0 = 7 := hn (105, 7) (by decide)
  have n153 : n 153 0 = 7 := hn (153, 7) (by decide)
  have n106 : n 106 0 = 7 := hn (106, 7) (by decide)
  have n154 : n 154 0 = 7 := hn (154, 7) (by decide)
  have n107 : n 107 0 = 7 := hn (107, 7) (by decide)
  refine ax_S_of (own := 11) (by decide) rfl (fun h => absurd h (by decide)) rfl (Nat.le_of_ble_eq_true rfl) ?_
  change ax_J _ _ _ _ _ _ _ _ _ _ [some (.inr (.inr (some (50, 0))))] _ _
  refine aj_run (C := True) (pc' := 4) (la' := [some (.inr (.inr (some (50, 0))))]) (st' := [.inl (g 50 0 46)]) (M' := (P, g, r0, n)) ok_X11_back true 2 rfl trivial ?_
  refine aj_if_ne (tgt := 10) (ax_dec2 (i := .ifCond .ne 6) (n := 3) ok_X11_back rfl) (by decide) (fun c1 => ?_) (fun c1 => ?_)
  · refine aj_run (C := True) (pc' := 50) (la' := [some (.inr (.inr (some (50, 0))))]) (st' := [.inr (.inr (some (104, 0))), .inr (.inr (some (151, 0)))]) (M' := (P, ax_u3 (ax_u3 (ax_u3 (ax_u3 g 50 0 2 (g 50 0 47)) 50 0 0 (g 50 0 48)) 50 0 1 (g 50 0 49)) 50 0 11 (g 50 0 50), r0, n)) ok_X11_back true 20 rfl trivial ?_
    refine aj_callS (av := [.inr (.inr (some (151, 0))), .inr (.inr (some (104, 0)))]) (st := []) cal_X11_move lk_11_326 stc_X11_move (sp_move_151_104 _ _ _ _ hn) ⟨by decide, by decide, by decide, by decide⟩ (Nat.le_of_ble_eq_true rfl) (ax_dec2 (i := .invokestatic 326) (n := 3) ok_X11_back rfl) (fun r M' hq => ?_)
    obtain ⟨rfl, rfl⟩ := hq
    change ax_J _ _ _ _ _ _ _ _ _ 53 [some (.inr (.inr (some (50, 0))))] [] (P, wMv (ax_u3 (ax_u3 (ax_u3 (ax_u3 g 50 0 2 (g 50 0 47)) 50 0 0 (g 50 0 48)) 50 0 1 (g 50 0 49)) 50 0 11 (g 50 0 50)) 151 104 7, r0, n)
    refine aj_run (C := True) (pc' := 61) (la' := [some (.inr (.inr (some (50, 0))))]) (st' := [.inr (.inr (some (105, 0))), .inr (.inr (some (152, 0)))]) (M' := (P, wMv (ax_u3 (ax_u3 (ax_u3 (ax_u3 g 50 0 2 (g 50 0 47)) 50 0 0 (g 50 0 48)) 50 0 1 (g 50 0 49)) 50 0 11 (g 50 0 50)) 151 104 7, r0, n)) ok_X11_back true 4 rfl trivial ?_
    refine aj_callS (av := [.inr (.inr (some (152, 0))), .inr (.inr (some (105, 0)))]) (st := []) cal_X11_move lk_11_326 stc_X11_move (sp_move_152_105 _ _ _ _ hn) ⟨by decide, by decide, by decide, by decide⟩ (Nat.le_of_ble_eq_true rfl) (ax_dec2 (i := .invokestatic 326) (n := 3) ok_X11_back rfl) (fun r M' hq => ?_)
    obtain ⟨rfl, rfl⟩ := hq
    change ax_J _ _ _ _ _ _ _ _ _ 64 [some (.inr (.inr (some (50, 0))))] [] (P, wMv (wMv (ax_u3 (ax_u3 (ax_u3 (ax_u3 g 50 0 2 (g 50 0 47)) 50 0 0 (g 50 0 48)) 50 0 1 (g 50 0 49)) 50 0 11 (g 50 0 50)) 151 104 7) 152 105 7, r0, n)
    refine aj_run (C := True) (pc' := 72) (la' := [some (.inr (.inr (some (50, 0))))]) (st' := [.inr (.inr (some (106, 0))), .inr (.inr (some (153, 0)))]) (M' := (P, wMv (wMv (ax_u3 (ax_u3 (ax_u3 (ax_u3 g 50 0 2 (g 50 0 47)) 50 0 0 (g 50 0 48)) 50 0 1 (g 50 0 49)) 50 0 11 (g 50 0 50)) 151 104 7) 152 105 7, r0, n)) ok_X11_back true 4 rfl trivial ?_
    refine aj_callS (av := [.inr (.inr (some (153, 0))), .inr (.inr (some (106, 0)))]) (st := []) cal_X11_move lk_11_326 stc_X11_move (sp_move_153_106 _ _ _ _ hn) ⟨by decide, by decide, by decide, by decide⟩ (Nat.le_of_ble_eq_true rfl) (ax_dec2 (i := .invokestatic 326) (n := 3) ok_X11_back rfl) (fun r M' hq => ?_)
    obtain ⟨rfl, rfl⟩ := hq
    change ax_J _ _ _ _ _ _ _ _ _ 75 [some (.inr (.inr (some (50, 0))))] [] (P, wMv (wMv (wMv (ax_u3 (ax_u3 (ax_u3 (ax_u3 g 50 0 2 (g 50 0 47)) 50 0 0 (g 50 0 48)) 50 0 1 (g 50 0 49)) 50 0 11 (g 50 0 50)) 151 104 7) 152 105 7) 153 106 7, r0, n)
    refine aj_run (C := True) (pc' := 83) (la' := [some (.inr (.inr (some (50, 0))))]) (st' := [.inr (.inr (some (107, 0))), .inr (.inr (some (154, 0)))]) (M' := (P, wMv (wMv (wMv (ax_u3 (ax_u3 (ax_u3 (ax_u3 g 50 0 2 (g 50 0 47)) 50 0 0 (g 50 0 48)) 50 0 1 (g 50 0 49)) 50 0 11 (g 50 0 50)) 151 104 7) 152 105 7) 153 106 7, r0, n)) ok_X11_back true 4 rfl trivial ?_
    refine aj_callS (av := [.inr (.inr (some (154, 0))), .inr (.inr (some (107, 0)))]) (st := []) cal_X11_move lk_11_326 stc_X11_move (sp_move_154_107 _ _ _ _ hn) ⟨by decide, by decide, by decide, by decide⟩ (Nat.le_of_ble_eq_true rfl) (ax_dec2 (i := .invokestatic 326) (n := 3) ok_X11_back rfl) (fun r M' hq => ?_)
    obtain ⟨rfl, rfl⟩ := hq
    change ax_J _ _ _ _ _ _ _ _ _ 86 [some (.inr (.inr (some (50, 0))))] [] (P, wMv (wMv (wMv (wMv (ax_u3 (ax_u3 (ax_u3 (ax_u3 g 50 0 2 (g 50 0 47)) 50 0 0 (g 50 0 48)) 50 0 1 (g 50 0 49)) 50 0 11 (g 50 0 50)) 151 104 7) 152 105 7) 153 106 7) 154 107 7, r0, n)
    refine aj_run (C := True) (pc' := 90) (la' := [some (.inr (.inr (some (50, 0))))]) (st' := [.inl (g 50 0 47)]) (M' := (P, wMv (wMv (wMv (wMv (ax_u3 (ax_u3 (ax_u3 (ax_u3 g 50 0 2 (g 50 0 47)) 50 0 0 (g 50 0 48)) 50 0 1 (g 50 0 49)) 50 0 11 (g 50 0 50)) 151 104 7) 152 105 7) 153 106 7) 154 107 7, r0, n)) ok_X11_back true 2 rfl trivial ?_
    refine aj_ret (r := some (.inl (g 50 0 47))) (ax_dec2 (i := .ireturn) (n := 1) ok_X11_back rfl) ⟨?_, ?_, by decide, by decide⟩ rfl
    · exact ⟨ax_si (by unfold mBack; (repeat first | rw [if_pos (by omega)] | rw [if_neg (by omega)] | rw [bI_t (by omega)] | rw [bI_f (by omega)]); try rfl), (by unfold mBack; (repeat first | rw [if_pos (by omega)] | rw [if_neg (by omega)] | rw [bI_t (by omega)] | rw [bI_f (by omega)]); try rfl)⟩
    · exact ax_ro_i
  · refine aj_run (C := True) (pc' := 9) (la' := [some (.inr (.inr (some (50, 0))))]) (st' := [.inl (-3)]) (M' := (P, g, r0, n)) ok_X11_back true 1 rfl trivial ?_
    refine aj_ret (r := some (.inl (-3))) (ax_dec2 (i := .ireturn) (n := 1) ok_X11_back rfl) ⟨?_, ?_, by decide, by decide⟩ rfl
    · exact ⟨ax_si (by unfold mBack; (repeat first | rw [if_pos (by omega)] | rw [if_neg (by omega)] | rw [bI_t (by omega)] | rw [bI_f (by omega)]); try rfl), (by unfold mBack; (repeat first | rw [if_pos (by omega)] | rw [if_neg (by omega)] | rw [bI_t (by omega)] | rw [bI_f (by omega)]); try rfl)⟩
    · exact ax_ro_i

def wZr (g : Nat → Int → Int → Int) (s m : Int) : Nat → Int → Int → Int := fun f o j => if f = 157 ∧ o = 0 ∧ 40 * s ≤ j ∧ j < 40 * s + m then 0 else g f o j
theorem wZr_0 {g : Nat → Int → Int → Int} {s : Int} : g = wZr g s 0 := by
  funext f o j
  unfold wZr
  rw [if_neg (by omega)]
theorem wZr_s {g : Nat → Int → Int → Int} {s k : Int} (h : 0 ≤ k) : ax_u3 (wZr g s k) 157 0 (40 * s + k) 0 = wZr g s (k + 1) := by
  funext f o j
  by_cases q : f = 157 ∧ o = 0 ∧ j = 40 * s + k
  · obtain ⟨rfl, rfl, rfl⟩ := q
    rw [ax_u3_s]
    unfold wZr
    rw [if_pos (by omega)]
  · rw [ax_u3_n q]
    unfold wZr
    by_cases q2 : f = 157 ∧ o = 0 ∧ 40 * s ≤ j ∧ j < 40 * s + k
    · rw [if_pos q2, if_pos (by omega)]
    · rw [if_neg q2, if_neg (by omega)]
def mSheet (g : Nat → Int → Int → Int) (s t m : Int) : Int × (Nat → Int → Int → Int) := if (0 ≤ s ∧ s ≤ 3) ∧ (-1 ≤ t ∧ t ≤ 2) ∧ (0 ≤ t → m ≤ 40) then (if 0 ≤ t ∧ m < 0 then (-14, g) else (1, wZr (ax_u3 (ax_u3 g 155 0 s t) 156 0 s (if t < 0 then 0 else m)) s 40)) else (-2, g)
set_option maxRecDepth 100000 in
set_option maxHeartbeats 4000000 in
theorem sp_sheet (s t m : Int) (P : Nat → Int → Prop) (g : Nat → Int → Int → Int) (r0 : Nat → Int → Int → Option (Nat × Int)) (n : Nat → Int → Int) (hn : mLen n) : ax_S yX11_sheet cX11_sheet 5 (some FieldType.int) 2 0 0 [.inr (.inr (some (50, 0))), .inl s, .inl t, .inl m] (P, g, r0, n) (fun r M' => r = some (.inl (mSheet g s t m).1) ∧ M' = (P, (mSheet g s t m).2, r0, n)) := by
  have n155 : n 155 0 = 4 := hn (155, 4) (by decide)
  have n156 : n 156 0 = 4 := hn (156, 4) (by decide)
  have n157 : n 157 0 = 160 := hn (157, 160) (by decide)
  refine ax_S_of (own := 11) (by decide) rfl (fun h => absurd h (by decide)) rfl (Nat.le_of_ble_eq_true rfl) ?_
  change ax_J _ _ _ _ _ _ _ _ _ _ [some (.inr (.inr (some (50, 0)))), some (.inl s), some (.inl t), some (.inl m), none] _ _
  refine aj_run (C := True) (pc' := 1) (la' := [some (.inr (.inr (some (50, 0)))), some (.inl s), some (.inl t), some (.inl m), none]) (st' := [.inl s]) (M' := (P, g, r0, n)) ok_X11_sheet true 1 rfl trivial ?_
  refine aj_callS (av := [.inl s]) (st := []) cal_X11_isSheet lk_11_298 stc_X11_isSheet (sp_isSheet s _ _ _ _) ⟨by decide, by decide, by decide, by decide⟩ (Nat.le_of_ble_eq_true rfl) (ax_dec2 (i := .invokestatic 298) (n := 3) ok_X11_sheet rfl) (fun r M' hq => ?_)
  obtain ⟨rfl, rfl⟩ := hq
  change ax_J _ _ _ _ _ _ _ _ _ 4 [some (.inr (.inr (some (50, 0)))), some (.inl s), some (.inl t), some (.inl m), none] [.inl (bI (0 ≤ s ∧ s ≤ 3))] (P, g, r0, n)
  refine aj_if_eq (tgt := 26) (ax_dec2 (i := .ifCond .eq 22) (n := 3) ok_X11_sheet rfl) (by decide) (fun c1 => ?_) (fun c1 => ?_)
  · replace c1 := bI_e0 c1
    refine aj_run (C := True) (pc' := 28) (la' := [some (.inr (.inr (some (50, 0)))), some (.inl s), some (.inl t), some (.inl m), none]) (st' := [.inl (-2)]) (M' := (P, g, r0, n)) ok_X11_sheet true 1 rfl trivial ?_
    refine aj_ret (r := some (.inl (-2))) (ax_dec2 (i := .ireturn) (n := 1) ok_X11_sheet rfl) ⟨?_, ?_, by decide, by decide⟩ rfl
    · (try have ek : k = 40 := by omega); (try subst ek); first | (exfalso; omega) | exact ⟨ax_si (by unfold mSheet; (repeat first | rw [if_pos (by omega)] | rw [if_neg (by omega)] | rw [bI_t (by omega)] | rw [bI_f (by omega)]); try first | rfl | omega), (by unfold mSheet; (repeat first | rw [if_pos (by omega)] | rw [if_neg (by omega)] | rw [bI_t (by omega)] | rw [bI_f (by omega)]); try rfl)⟩
    · exact ax_ro_i
  · replace c1 := bI_n0 c1
    refine aj_run (C := True) (pc' := 10) (la' := [some (.inr (.inr (some (50, 0)))), some (.inl s), some (.inl t), some (.inl m), none]) (st' := [.inl 2, .inl (-1), .inl t]) (M' := (P, g, r0, n)) ok_X11_sheet true 3 rfl trivial ?_
    refine aj_callS (av := [.inl t, .inl (-1), .inl 2]) (st := []) cal_X11_isIn lk_11_7 stc_X11_isIn (sp_isIn t (-1) 2 _ _ _ _) ⟨by decide, by decide, by decide, by decide⟩ (Nat.le_of_ble_eq_true rfl) (ax_dec2 (i := .invokestatic 7) (n := 3) ok_X11_sheet rfl) (fun r M' hq => ?_)
    obtain ⟨rfl, rfl⟩ := hq
    change ax_J _ _ _ _ _ _ _ _ _ 13 [some (.inr (.inr (some (50, 0)))), some (.inl s), some (.inl t), some (.inl m), none] [.inl (bI ((-1) ≤ t ∧ t ≤ 2))] (P, g, r0, n)
    refine aj_if_eq (tgt := 26) (ax_dec2 (i := .ifCond .eq 13) (n := 3) ok_X11_sheet rfl) (by decide) (fun c2 => ?_) (fun c2 => ?_)
    · replace c2 := bI_e0 c2
      refine aj_run (C := True) (pc' := 28) (la' := [some (.inr (.inr (some (50, 0)))), some (.inl s), some (.inl t), some (.inl m), none]) (st' := [.inl (-2)]) (M' := (P, g, r0, n)) ok_X11_sheet true 1 rfl trivial ?_
      refine aj_ret (r := some (.inl (-2))) (ax_dec2 (i := .ireturn) (n := 1) ok_X11_sheet rfl) ⟨?_, ?_, by decide, by decide⟩ rfl
      · (try have ek : k = 40 := by omega); (try subst ek); first | (exfalso; omega) | exact ⟨ax_si (by unfold mSheet; (repeat first | rw [if_pos (by omega)] | rw [if_neg (by omega)] | rw [bI_t (by omega)] | rw [bI_f (by omega)]); try first | rfl | omega), (by unfold mSheet; (repeat first | rw [if_pos (by omega)] | rw [if_neg (by omega)] | rw [bI_t (by omega)] | rw [bI_f (by omega)]); try rfl)⟩
      · exact ax_ro_i
    · replace c2 := bI_n0 c2
      refine aj_run (C := True) (pc' := 17) (la' := [some (.inr (.inr (some (50, 0)))), some (.inl s), some (.inl t), some (.inl m), none]) (st' := [.inl t]) (M' := (P, g, r0, n)) ok_X11_sheet true 1 rfl trivial ?_
      refine aj_if_lt (tgt := 29) (ax_dec2 (i := .ifCond .lt 12) (n := 3) ok_X11_sheet rfl) (by decide) (fun c3 => ?_) (fun c3 => ?_)
      · refine aj_run (C := True) (pc' := 30) (la' := [some (.inr (.inr (some (50, 0)))), some (.inl s), some (.inl t), some (.inl m), none]) (st' := [.inl t]) (M' := (P, g, r0, n)) ok_X11_sheet true 1 rfl trivial ?_
        refine aj_if_lt (tgt := 40) (ax_dec2 (i := .ifCond .lt 10) (n := 3) ok_X11_sheet rfl) (by decide) (fun c4 => ?_) (fun c4 => ?_)
        · refine aj_run (C := (0 ≤ s ∧ s < n 155 0) ∧ True) (pc' := 53) (la' := [some (.inr (.inr (some (50, 0)))), some (.inl s), some (.inl t), some (.inl m), none]) (st' := [.inl t, .inl s, .inr (.inr (some (156, 0)))]) (M' := (P, ax_u3 g 155 0 s t, r0, n)) ok_X11_sheet true 9 rfl (by refine ⟨?_, trivial⟩ <;> (omega)) ?_
          refine aj_if_ge (tgt := 60) (ax_dec2 (i := .ifCond .ge 7) (n := 3) ok_X11_sheet rfl) (by decide) (fun c5 => ?_) (fun c5 => ?_)
          · exact absurd c5 (by omega)
          · refine aj_run (C := (0 ≤ s ∧ s < n 156 0) ∧ True) (pc' := 65) (la' := [some (.inr (.inr (some (50, 0)))), some (.inl s), some (.inl t), some (.inl m), some (.inl 0)]) (st' := []) (M' := (P, ax_u3 (ax_u3 g 155 0 s t) 156 0 s 0, r0, n)) ok_X11_sheet true 5 rfl (by refine ⟨?_, trivial⟩ <;> (omega)) ?_
            refine aj_cast rfl rfl (congrArg (fun z9 => ((P, z9, r0, n) : ax_Mm)) (show ax_u3 (ax_u3 g 155 0 s t) 156 0 s 0 = wZr (ax_u3 (ax_u3 g 155 0 s t) 156 0 s 0) s 0 from by exact wZr_0)) ?_
            refine aj_loop (σ := (Int)) (fun x => 0 ≤ x ∧ x ≤ 40) (fun x => (40 - x).toNat) (fun x => [some (.inr (.inr (some (50, 0)))), some (.inl s), some (.inl t), some (.inl m), some (.inl x)]) (fun x => []) (fun x => (P, wZr (ax_u3 (ax_u3 g 155 0 s t) 156 0 s 0) s x, r0, n)) ?_ (0) ?_
            rotate_left
            · omega
            rintro k hI ih65
            dsimp only at hI ih65
            obtain ⟨i1, i2⟩ := hI
            change ax_J _ _ _ _ _ _ _ _ _ 65 [some (.inr (.inr (some (50, 0)))), some (.inl s), some (.inl t), some (.inl m), some (.inl k)] [] (P, wZr (ax_u3 (ax_u3 g 155 0 s t) 156 0 s 0) s k, r0, n)
            refine aj_run (C := True) (pc' := 69) (la' := [some (.inr (.inr (some (50, 0)))), some (.inl s), some (.inl t), some (.inl m), some (.inl k)]) (st' := [.inl 40, .inl k]) (M' := (P, wZr (ax_u3 (ax_u3 g 155 0 s t) 156 0 s 0) s k, r0, n)) ok_X11_sheet true 2 rfl trivial ?_
            refine aj_icmp_ge (tgt := 91) (ax_dec2 (i := .if_icmp .ge 22) (n := 3) ok_X11_sheet rfl) (by decide) (fun c6 => ?_) (fun c6 => ?_)
            · refine aj_run (C := True) (pc' := 92) (la' := [some (.inr (.inr (some (50, 0)))), some (.inl s), some (.inl t), some (.inl m), some (.inl k)]) (st' := [.inl 1]) (M' := (P, wZr (ax_u3 (ax_u3 g 155 0 s t) 156 0 s 0) s k, r0, n)) ok_X11_sheet true 1 rfl trivial ?_
              refine aj_ret (r := some (.inl 1)) (ax_dec2 (i := .ireturn) (n := 1) ok_X11_sheet rfl) ⟨?_, ?_, by decide, by decide⟩ rfl
              · (try have ek : k = 40 := by omega); (try subst ek); first | (exfalso; omega) | exact ⟨ax_si (by unfold mSheet; (repeat first | rw [if_pos (by omega)] | rw [if_neg (by omega)] | rw [bI_t (by omega)] | rw [bI_f (by omega)]); try first | rfl | omega), (by unfold mSheet; (repeat first | rw [if_pos (by omega)] | rw [if_neg (by omega)] | rw [bI_t (by omega)] | rw [bI_f (by omega)]); try rfl)⟩
              · exact ax_ro_i
            · refine aj_run (C := (-2147483648 ≤ 40 * s ∧ 40 * s ≤ 2147483647) ∧ (-2147483648 ≤ (40 * s) + k ∧ (40 * s) + k ≤ 2147483647) ∧ (0 ≤ (40 * s) + k ∧ (40 * s) + k < n 157 0) ∧ (-2147483648 ≤ k + 1 ∧ k + 1 ≤ 2147483647) ∧ True) (pc' := 65) (la' := [some (.inr (.inr (some (50, 0)))), some (.inl s), some (.inl t), some (.inl m), some (.inl (k + 1))]) (st' := []) (M' := (P, ax_u3 (wZr (ax_u3 (ax_u3 g 155 0 s t) 156 0 s 0) s k) 157 0 ((40 * s) + k) 0, r0, n)) ok_X11_sheet true 11 rfl (by refine ⟨?_, ?_, ?_, ?_, trivial⟩ <;> (omega)) ?_
              refine aj_cast rfl rfl (congrArg (fun z9 => ((P, z9, r0, n) : ax_Mm)) (show ax_u3 (wZr (ax_u3 (ax_u3 g 155 0 s t) 156 0 s 0) s k) 157 0 ((40 * s) + k) 0 = wZr (ax_u3 (ax_u3 g 155 0 s t) 156 0 s 0) s (k + 1) from by exact wZr_s i1)) ?_
              refine ih65 (k + 1) ?_ ?_
              · omega
              · omega
        · exact absurd c4 (by omega)
      · refine aj_run (C := True) (pc' := 23) (la' := [some (.inr (.inr (some (50, 0)))), some (.inl s), some (.inl t), some (.inl m), none]) (st' := [.inl 40, .inl m]) (M' := (P, g, r0, n)) ok_X11_sheet true 2 rfl trivial ?_
        refine aj_icmp_le (tgt := 29) (ax_dec2 (i := .if_icmp .le 6) (n := 3) ok_X11_sheet rfl) (by decide) (fun c7 => ?_) (fun c7 => ?_)
        · refine aj_run (C := True) (pc' := 30) (la' := [some (.inr (.inr (some (50, 0)))), some (.inl s), some (.inl t), some (.inl m), none]) (st' := [.inl t]) (M' := (P, g, r0, n)) ok_X11_sheet true 1 rfl trivial ?_
          refine aj_if_lt (tgt := 40) (ax_dec2 (i := .ifCond .lt 10) (n := 3) ok_X11_sheet rfl) (by decide) (fun c8 => ?_) (fun c8 => ?_)
          · exact absurd c8 (by omega)
          · refine aj_run (C := True) (pc' := 34) (la' := [some (.inr (.inr (some (50, 0)))), some (.inl s), some (.inl t), some (.inl m), none]) (st' := [.inl m]) (M' := (P, g, r0, n)) ok_X11_sheet true 1 rfl trivial ?_
            refine aj_if_ge (tgt := 40) (ax_dec2 (i := .ifCond .ge 6) (n := 3) ok_X11_sheet rfl) (by decide) (fun c9 => ?_) (fun c9 => ?_)
            · refine aj_run (C := (0 ≤ s ∧ s < n 155 0) ∧ True) (pc' := 53) (la' := [some (.inr (.inr (some (50, 0)))), some (.inl s), some (.inl t), some (.inl m), none]) (st' := [.inl t, .inl s, .inr (.inr (some (156, 0)))]) (M' := (P, ax_u3 g 155 0 s t, r0, n)) ok_X11_sheet true 9 rfl (by refine ⟨?_, trivial⟩ <;> (omega)) ?_
              refine aj_if_ge (tgt := 60) (ax_dec2 (i := .ifCond .ge 7) (n := 3) ok_X11_sheet rfl) (by decide) (fun c10 => ?_) (fun c10 => ?_)
              · refine aj_run (C := (0 ≤ s ∧ s < n 156 0) ∧ True) (pc' := 65) (la' := [some (.inr (.inr (some (50, 0)))), some (.inl s), some (.inl t), some (.inl m), some (.inl 0)]) (st' := []) (M' := (P, ax_u3 (ax_u3 g 155 0 s t) 156 0 s m, r0, n)) ok_X11_sheet true 4 rfl (by refine ⟨?_, trivial⟩ <;> (omega)) ?_
                refine aj_cast rfl rfl (congrArg (fun z9 => ((P, z9, r0, n) : ax_Mm)) (show ax_u3 (ax_u3 g 155 0 s t) 156 0 s m = wZr (ax_u3 (ax_u3 g 155 0 s t) 156 0 s m) s 0 from by exact wZr_0)) ?_
                refine aj_loop (σ := (Int)) (fun x => 0 ≤ x ∧ x ≤ 40) (fun x => (40 - x).toNat) (fun x => [some (.inr (.inr (some (50, 0)))), some (.inl s), some (.inl t), some (.inl m), some (.inl x)]) (fun x => []) (fun x => (P, wZr (ax_u3 (ax_u3 g 155 0 s t) 156 0 s m) s x, r0, n)) ?_ (0) ?_
                rotate_left
                · omega
                rintro k hI ih65
                dsimp only at hI ih65
                obtain ⟨i1, i2⟩ := hI
                change ax_J _ _ _ _ _ _ _ _ _ 65 [some (.inr (.inr (some (50, 0)))), some (.inl s), some (.inl t), some (.inl m), some (.inl k)] [] (P, wZr (ax_u3 (ax_u3 g 155 0 s t) 156 0 s m) s k, r0, n)
                refine aj_run (C := True) (pc' := 69) (la' := [some (.inr (.inr (some (50, 0)))), some (.inl s), some (.inl t), some (.inl m), some (.inl k)]) (st' := [.inl 40, .inl k]) (M' := (P, wZr (ax_u3 (ax_u3 g 155 0 s t) 156 0 s m) s k, r0, n)) ok_X11_sheet true 2 rfl trivial ?_
                refine aj_icmp_ge (tgt := 91) (ax_dec2 (i := .if_icmp .ge 22) (n := 3) ok_X11_sheet rfl) (by decide) (fun c11 => ?_) (fun c11 => ?_)
                · refine aj_run (C := True) (pc' := 92) (la' := [some (.inr (.inr (some (50, 0)))), some (.inl s), some (.inl t), some (.inl m), some (.inl k)]) (st' := [.inl 1]) (M' := (P, wZr (ax_u3 (ax_u3 g 155 0 s t) 156 0 s m) s k, r0, n)) ok_X11_sheet true 1 rfl trivial ?_
                  refine aj_ret (r := some (.inl 1)) (ax_dec2 (i := .ireturn) (n := 1) ok_X11_sheet rfl) ⟨?_, ?_, by decide, by decide⟩ rfl
                  · (try have ek : k = 40 := by omega); (try subst ek); first | (exfalso; omega) | exact ⟨ax_si (by unfold mSheet; (repeat first | rw [if_pos (by omega)] | rw [if_neg (by omega)] | rw [bI_t (by omega)] | rw [bI_f (by omega)]); try first | rfl | omega), (by unfold mSheet; (repeat first | rw [if_pos (by omega)] | rw [if_neg (by omega)] | rw [bI_t (by omega)] | rw [bI_f (by omega)]); try rfl)⟩
                  · exact ax_ro_i
                · refine aj_run (C := (-2147483648 ≤ 40 * s ∧ 40 * s ≤ 2147483647) ∧ (-2147483648 ≤ (40 * s) + k ∧ (40 * s) + k ≤ 2147483647) ∧ (0 ≤ (40 * s) + k ∧ (40 * s) + k < n 157 0) ∧ (-2147483648 ≤ k + 1 ∧ k + 1 ≤ 2147483647) ∧ True) (pc' := 65) (la' := [some (.inr (.inr (some (50, 0)))), some (.inl s), some (.inl t), some (.inl m), some (.inl (k + 1))]) (st' := []) (M' := (P, ax_u3 (wZr (ax_u3 (ax_u3 g 155 0 s t) 156 0 s m) s k) 157 0 ((40 * s) + k) 0, r0, n)) ok_X11_sheet true 11 rfl (by refine ⟨?_, ?_, ?_, ?_, trivial⟩ <;> (omega)) ?_
                  refine aj_cast rfl rfl (congrArg (fun z9 => ((P, z9, r0, n) : ax_Mm)) (show ax_u3 (wZr (ax_u3 (ax_u3 g 155 0 s t) 156 0 s m) s k) 157 0 ((40 * s) + k) 0 = wZr (ax_u3 (ax_u3 g 155 0 s t) 156 0 s m) s (k + 1) from by exact wZr_s i1)) ?_
                  refine ih65 (k + 1) ?_ ?_
                  · omega
                  · omega
              · exact absurd c10 (by omega)
            · refine aj_run (C := True) (pc' := 39) (la' := [some (.inr (.inr (some (50, 0)))), some (.inl s), some (.inl t), some (.inl m), none]) (st' := [.inl (-14)]) (M' := (P, g, r0, n)) ok_X11_sheet true 1 rfl trivial ?_
              refine aj_ret (r := some (.inl (-14))) (ax_dec2 (i := .ireturn) (n := 1) ok_X11_sheet rfl) ⟨?_, ?_, by decide, by decide⟩ rfl
              · (try have ek : k = 40 := by omega); (try subst ek); first | (exfalso; omega) | exact ⟨ax_si (by unfold mSheet; (repeat first | rw [if_pos (by omega)] | rw [if_neg (by omega)] | rw [bI_t (by omega)] | rw [bI_f (by omega)]); try first | rfl | omega), (by unfold mSheet; (repeat first | rw [if_pos (by omega)] | rw [if_neg (by omega)] | rw [bI_t (by omega)] | rw [bI_f (by omega)]); try rfl)⟩
              · exact ax_ro_i
        · refine aj_run (C := True) (pc' := 28) (la' := [some (.inr (.inr (some (50, 0)))), some (.inl s), some (.inl t), some (.inl m), none]) (st' := [.inl (-2)]) (M' := (P, g, r0, n)) ok_X11_sheet true 1 rfl trivial ?_
          refine aj_ret (r := some (.inl (-2))) (ax_dec2 (i := .ireturn) (n := 1) ok_X11_sheet rfl) ⟨?_, ?_, by decide, by decide⟩ rfl
          · (try have ek : k = 40 := by omega); (try subst ek); first | (exfalso; omega) | exact ⟨ax_si (by unfold mSheet; (repeat first | rw [if_pos (by omega)] | rw [if_neg (by omega)] | rw [bI_t (by omega)] | rw [bI_f (by omega)]); try first | rfl | omega), (by unfold mSheet; (repeat first | rw [if_pos (by omega)] | rw [if_neg (by omega)] | rw [bI_t (by omega)] | rw [bI_f (by omega)]); try rfl)⟩
          · exact ax_ro_i

