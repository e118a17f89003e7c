/-! ===== sheets of the class ===== -/
def cFl (g : Nat → Int → Int → Int) (s x m : Int) : Nat → Int → Int → Int := fun f o j => if f = 402 ∧ o = s ∧ 0 ≤ j ∧ j < m then x else g f o j
theorem cFl_0 {g : Nat → Int → Int → Int} {s x : Int} : g = cFl g s x 0 := by
  funext f o j
  unfold cFl
  rw [if_neg (by omega)]
theorem cFl_s {g : Nat → Int → Int → Int} {s x m : Int} (hm : 0 ≤ m) : ax_u3 (cFl g s x m) 402 s m x = cFl g s x (m + 1) := by
  funext f o j
  by_cases q : f = 402 ∧ o = s ∧ j = m
  · obtain ⟨rfl, rfl, rfl⟩ := q
    rw [ax_u3_s]
    unfold cFl
    rw [if_pos ⟨rfl, rfl, by omega, by omega⟩]
  · rw [ax_u3_n q]
    unfold cFl
    by_cases c : f = 402 ∧ o = s ∧ 0 ≤ j ∧ j < m
    · rw [if_pos c, if_pos ⟨c.1, c.2.1, by omega, by omega⟩]
    · rw [if_neg c, if_neg (by omega)]
theorem cFl_o {g : Nat → Int → Int → Int} {s x m o j : Int} {f : Nat} (h : ¬ (f = 402 ∧ o = s)) : cFl g s x m f o j = g f o j := if_neg (fun z => h ⟨z.1, z.2.1⟩)
theorem cFl_r {g : Nat → Int → Int → Int} {s x m j : Int} (h1 : 0 ≤ j) (h2 : j < m) : cFl g s x m 402 s j = x := if_pos ⟨rfl, rfl, h1, h2⟩
theorem wZr_o {g : Nat → Int → Int → Int} {s m o j : Int} {f : Nat} (h : ¬ (f = 157 ∧ o = 0 ∧ 40 * s ≤ j ∧ j < 40 * s + m)) : wZr g s m f o j = g f o j := if_neg h
theorem wZr_r {g : Nat → Int → Int → Int} {s m j : Int} (h1 : 40 * s ≤ j) (h2 : j < 40 * s + m) : wZr g s m 157 0 j = 0 := if_pos ⟨rfl, rfl, h1, h2⟩
section CY
variable {P : Nat → Int → Prop} {r0 : Nat → Int → Int → Option (Nat × Int)} {n : Nat → Int → Int} {g h : Nat → Int → Int → Int}
theorem cWd_sheet {s t m : Int} (hw : cWd P r0 n g h) (hs : 0 ≤ s ∧ s ≤ 3) (ht : -1 ≤ t ∧ t ≤ 2) (hm : 0 ≤ m ∧ m ≤ 40) : cWd P r0 n (cFl (ax_u3 (ax_u3 g 4 s 0 t) 4 s 1 m) s 0 40) (wZr (ax_u3 (ax_u3 h 155 0 s t) 156 0 s m) s 40) := by
  obtain ⟨s0, s1⟩ := hw.2.2.2.2.1
  refine cWd_sh hw (fun f o j z => by rw [cFl_o (by omega), ax_u3_n (by omega), ax_u3_n (by omega)]) (fun f o j z => by rw [wZr_o (by omega), ax_u3_n (by omega), ax_u3_n (by omega)]) ⟨s0, fun u z1 z2 => ?_⟩
  obtain ⟨q1, q2, q3, q4, q5⟩ := s1 u z1 z2
  have a0 : wZr (ax_u3 (ax_u3 h 155 0 s t) 156 0 s m) s 40 155 0 u = ax_u3 h 155 0 s t 155 0 u := by rw [wZr_o (by omega), ax_u3_n (by omega)]
  have a1 : wZr (ax_u3 (ax_u3 h 155 0 s t) 156 0 s m) s 40 156 0 u = ax_u3 (ax_u3 h 155 0 s t) 156 0 s m 156 0 u := wZr_o (by omega)
  have b0 : cFl (ax_u3 (ax_u3 g 4 s 0 t) 4 s 1 m) s 0 40 4 u 0 = ax_u3 g 4 s 0 t 4 u 0 := by rw [cFl_o (by omega), ax_u3_n (by omega)]
  have b1 : cFl (ax_u3 (ax_u3 g 4 s 0 t) 4 s 1 m) s 0 40 4 u 1 = ax_u3 (ax_u3 g 4 s 0 t) 4 s 1 m 4 u 1 := cFl_o (by omega)
  rw [a0, a1, b0, b1]
  by_cases c : u = s
  · subst c
    rw [ax_u3_s, ax_u3_s, ax_u3_s, ax_u3_s]
    refine ⟨q1, q2, ⟨rfl, rfl⟩, ⟨ht, hm⟩, fun i y1 y2 => ?_⟩
    rw [cFl_r y1 y2, wZr_r (by omega) (by omega)]
  · have c1 : ax_u3 h 155 0 s t 155 0 u = h 155 0 u := ax_u3_n (by omega)
    have c2 : ax_u3 (ax_u3 h 155 0 s t) 156 0 s m 156 0 u = h 156 0 u := (ax_u3_n (by omega)).trans (ax_u3_n (by omega))
    have c3 : ax_u3 g 4 s 0 t 4 u 0 = g 4 u 0 := ax_u3_n (by omega)
    have c4 : ax_u3 (ax_u3 g 4 s 0 t) 4 s 1 m 4 u 1 = g 4 u 1 := (ax_u3_n (by omega)).trans (ax_u3_n (by omega))
    rw [c1, c2, c3, c4]
    refine ⟨q1, q2, q3, q4, fun i y1 y2 => ?_⟩
    rw [cFl_o (by omega), wZr_o (by omega), ax_u3_n (f := 4) (by omega), ax_u3_n (f := 4) (by omega), ax_u3_n (f := 156) (by omega), ax_u3_n (f := 155) (by omega)]
    exact q5 i y1 y2
theorem cWd_cell {s i x : Int} (hw : cWd P r0 n g h) (hs : 0 ≤ s ∧ s ≤ 3) (hi : 0 ≤ i ∧ i < 40) : cWd P r0 n (ax_u3 g 402 s i x) (ax_u3 h 157 0 (40 * s + i) x) := by
  obtain ⟨s0, s1⟩ := hw.2.2.2.2.1
  refine cWd_sh hw (fun f o j z => ax_u3_n (by omega)) (fun f o j z => ax_u3_n (by omega)) ⟨s0, fun u z1 z2 => ?_⟩
  obtain ⟨q1, q2, q3, q4, q5⟩ := s1 u z1 z2
  refine ⟨q1, q2, q3, q4, fun k y1 y2 => ?_⟩
  by_cases c : u = s ∧ k = i
  · rw [c.1, c.2, ax_u3_s, ax_u3_s]
  · have e1 : ax_u3 g 402 s i x 402 u k = g 402 u k := ax_u3_n (by omega)
    have e2 : ax_u3 h 157 0 (40 * s + i) x 157 0 (40 * u + k) = h 157 0 (40 * u + k) := ax_u3_n (by omega)
    rw [e1, e2]
    exact q5 k y1 y2
theorem cWd_copy {s i u j m : Int} (hw : cWd P r0 n g h) (hs : 0 ≤ s ∧ s ≤ 3) (hu : 0 ≤ u ∧ u ≤ 3) (hi : 0 ≤ i ∧ i + m ≤ 40) (hj : 0 ≤ j ∧ j + m ≤ 40) (hm : 0 ≤ m) : cWd P r0 n (cpG g 402 s 402 u i j m) (wCp h (40 * s + i) (40 * u + j) m) := by
  obtain ⟨s0, s1⟩ := hw.2.2.2.2.1
  refine cWd_sh hw (fun f o k z => cpG_o (by omega)) (fun f o k z => if_neg (by omega)) ⟨s0, fun t z1 z2 => ?_⟩
  obtain ⟨q1, q2, q3, q4, q5⟩ := s1 t z1 z2
  refine ⟨q1, q2, q3, q4, fun k y1 y2 => ?_⟩
  have hs5 := (s1 s hs.1 (by omega)).2.2.2.2
  unfold cpG wCp
  by_cases c : t = u ∧ j ≤ k ∧ k < j + m
  · rw [if_pos (by omega), if_pos (by omega), hs5 _ (by omega) (by omega)]
    congr 1
    omega
  · rw [if_neg (by omega), if_neg (by omega)]
    exact q5 k y1 y2
end CY
set_option maxRecDepth 100000 in
set_option maxHeartbeats 4000000 in
theorem cp_fill (s x : Int) (P : Nat → Int → Prop) (g : Nat → Int → Int → Int) (r0 : Nat → Int → Int → Option (Nat × Int)) (n : Nat → Int → Int) (h4 : 0 ≤ n 402 s ∧ n 402 s ≤ 1000) : ax_S yJ7_fill_53178 cJ7_fill_53178 4 none 0 0 0 [.inr (.inr (some (402, s))), .inl x] (P, g, r0, n) (fun r M' => r = none ∧ M' = (P, cFl g s x (n 402 s), r0, n)) := by
  refine ax_S_of (own := 15) (by decide) rfl (fun h => absurd h (by decide)) rfl (Nat.le_of_ble_eq_true rfl) ?_
  change ax_J _ _ _ _ _ _ _ _ _ _ [some (.inr (.inr (some (402, s)))), some (.inl x), none, none] _ _
  refine aj_run (C := True) (pc' := 5) (la' := [some (.inr (.inr (some (402, s)))), some (.inl x), some (.inl 0), some (.inl (n 402 s))]) (st' := []) (M' := (P, g, r0, n)) ok_J7_fill_53178 true 5 rfl trivial ?_
  refine aj_cast rfl rfl (congrArg (fun z9 => ((P, z9, r0, n) : ax_Mm)) (show g = cFl g s x 0 from by exact cFl_0)) ?_
  refine aj_loop (σ := (Int)) (fun xL => 0 ≤ xL ∧ xL ≤ n 402 s) (fun xL => (n 402 s - xL).toNat) (fun xL => [some (.inr (.inr (some (402, s)))), some (.inl x), some (.inl xL), some (.inl (n 402 s))]) (fun xL => []) (fun xL => (P, cFl g s x xL, r0, n)) ?_ (0) ?_
  rotate_left
  · (try dsimp only); omega
  rintro m hI ih5
  try dsimp only at hI ih5
  obtain ⟨i1, i2⟩ := hI
  change ax_J _ _ _ _ _ _ _ _ _ 5 [some (.inr (.inr (some (402, s)))), some (.inl x), some (.inl m), some (.inl (n 402 s))] [] (P, cFl g s x m, r0, n)
  refine aj_run (C := True) (pc' := 7) (la' := [some (.inr (.inr (some (402, s)))), some (.inl x), some (.inl m), some (.inl (n 402 s))]) (st' := [.inl (n 402 s), .inl m]) (M' := (P, cFl g s x m, r0, n)) ok_J7_fill_53178 true 2 rfl trivial ?_
  refine aj_icmp_ge (tgt := 20) (ax_dec2 (i := .if_icmp .ge 13) (n := 3) ok_J7_fill_53178 rfl) (by decide) (fun c1 => ?_) (fun c1 => ?_)
  · refine aj_ret (r := none) (ax_dec2 (i := .return_) (n := 1) ok_J7_fill_53178 rfl) ⟨?_, ?_, by decide, by decide⟩ rfl
    · exact ⟨rfl, by rw [show m = n 402 s by omega]⟩
    · exact trivial
  · refine aj_run (C := (0 ≤ m ∧ m < n 402 s) ∧ (-2147483648 ≤ m + 1 ∧ m + 1 ≤ 2147483647) ∧ True) (pc' := 5) (la' := [some (.inr (.inr (some (402, s)))), some (.inl x), some (.inl (m + 1)), some (.inl (n 402 s))]) (st' := []) (M' := (P, ax_u3 (cFl g s x m) 402 s m x, r0, n)) ok_J7_fill_53178 true 6 rfl (by refine ⟨?_, ?_, trivial⟩ <;> (omega)) ?_
    refine aj_cast rfl rfl (congrArg (fun z9 => ((P, z9, r0, n) : ax_Mm)) (show ax_u3 (cFl g s x m) 402 s m x = cFl g s x (m + 1) from by exact cFl_s i1)) ?_
    refine ih5 (m + 1) ?_ ?_
    · (try dsimp only); omega
    · omega

set_option maxRecDepth 100000 in
set_option maxHeartbeats 4000000 in
theorem cp_become (s t m : Int) (P : Nat → Int → Prop) (g : Nat → Int → Int → Int) (r0 : Nat → Int → Int → Option (Nat × Int)) (n : Nat → Int → Int) (h4 : 0 ≤ n 402 s ∧ n 402 s ≤ 1000) : ax_S yX5_become cX5_become 3 none 1 0 0 [.inr (.inr (some (4, s))), .inl t, .inl m] (P, g, r0, n) (fun r M' => r = none ∧ M' = (P, cFl (ax_u3 (ax_u3 g 4 s 0 t) 4 s 1 m) s 0 (n 402 s), r0, n)) := by
  refine ax_S_of (own := 5) (by decide) rfl (fun h => absurd h (by decide)) rfl (Nat.le_of_ble_eq_true rfl) ?_
  change ax_J _ _ _ _ _ _ _ _ _ _ [some (.inr (.inr (some (4, s)))), some (.inl t), some (.inl m)] _ _
  refine aj_run (C := True) (pc' := 15) (la' := [some (.inr (.inr (some (4, s)))), some (.inl t), some (.inl m)]) (st' := [.inl 0, .inr (.inr (some (402, s)))]) (M' := (P, ax_u3 (ax_u3 g 4 s 0 t) 4 s 1 m, r0, n)) ok_X5_become true 9 rfl trivial ?_
  refine aj_callS (av := [.inr (.inr (some (402, s))), .inl 0]) (st := []) cal_J7_fill_53178 lk_5_22 stc_J7_fill_53178 (cp_fill s 0 _ _ _ _ h4) ⟨by decide, by decide, by decide, by decide⟩ (Nat.le_of_ble_eq_true rfl) (ax_dec2 (i := .invokestatic 22) (n := 3) ok_X5_become rfl) (fun r M' hq => ?_)
  obtain ⟨rfl, rfl⟩ := hq
  change ax_J _ _ _ _ _ _ _ _ _ 18 [some (.inr (.inr (some (4, s)))), some (.inl t), some (.inl m)] [] (P, cFl (ax_u3 (ax_u3 g 4 s 0 t) 4 s 1 m) s 0 (n 402 s), r0, n)
  refine aj_ret (r := none) (ax_dec2 (i := .return_) (n := 1) ok_X5_become rfl) ⟨?_, ?_, by decide, by decide⟩ rfl
  · exact ⟨rfl, rfl⟩
  · exact trivial

set_option maxRecDepth 100000 in
set_option maxHeartbeats 4000000 in
theorem cp_write (s i v : Int) (P : Nat → Int → Prop) (g : Nat → Int → Int → Int) (r0 : Nat → Int → Int → Option (Nat × Int)) (n : Nat → Int → Int) (h4 : n 402 s = 40) (hi : 0 ≤ i ∧ i < 40) : ax_S yX5_write cX5_write 3 none 0 0 0 [.inr (.inr (some (4, s))), .inl i, .inl v] (P, g, r0, n) (fun r M' => r = none ∧ M' = (P, ax_u3 g 402 s i (if g 4 s 0 = 0 then ax_i2b v else if g 4 s 0 = 1 then ax_i2s v else v), r0, n)) := by
  refine ax_S_of (own := 5) (by decide) rfl (fun h => absurd h (by decide)) rfl (Nat.le_of_ble_eq_true rfl) ?_
  change ax_J _ _ _ _ _ _ _ _ _ _ [some (.inr (.inr (some (4, s)))), some (.inl i), some (.inl v)] _ _
  refine aj_run (C := True) (pc' := 4) (la' := [some (.inr (.inr (some (4, s)))), some (.inl i), some (.inl v)]) (st' := [.inl (g 4 s 0)]) (M' := (P, g, r0, n)) ok_X5_write true 2 rfl trivial ?_
  by_cases s1 : g 4 s 0 = 0
  · refine aj_lsw (tgt := 32) (ax_dec2 (i := .lookupswitch 50 #[(0, 28), (1, 39)]) (n := 28) ok_X5_write rfl) (by decide) (by rw [s1]; decide) ?_
    refine aj_run (C := (0 ≤ i ∧ i < n 402 s) ∧ True) (pc' := 61) (la' := [some (.inr (.inr (some (4, s)))), some (.inl i), some (.inl v)]) (st' := []) (M' := (P, ax_u3 g 402 s i (ax_i2b v), r0, n)) ok_X5_write true 7 rfl (by refine ⟨?_, trivial⟩ <;> (omega)) ?_
    refine aj_ret (r := none) (ax_dec2 (i := .return_) (n := 1) ok_X5_write rfl) ⟨?_, ?_, by decide, by decide⟩ rfl
    · exact ⟨rfl, by (repeat first | rw [if_pos (by omega)] | rw [if_neg (by omega)] | rw [bI_t (by omega)] | rw [bI_f (by omega)])⟩
    · exact trivial
  by_cases s2 : g 4 s 0 = 1
  · refine aj_lsw (tgt := 43) (ax_dec2 (i := .lookupswitch 50 #[(0, 28), (1, 39)]) (n := 28) ok_X5_write rfl) (by decide) (by rw [s2]; decide) ?_
    refine aj_run (C := (0 ≤ i ∧ i < n 402 s) ∧ True) (pc' := 61) (la' := [some (.inr (.inr (some (4, s)))), some (.inl i), some (.inl v)]) (st' := []) (M' := (P, ax_u3 g 402 s i (ax_i2s v), r0, n)) ok_X5_write true 7 rfl (by refine ⟨?_, trivial⟩ <;> (omega)) ?_
    refine aj_ret (r := none) (ax_dec2 (i := .return_) (n := 1) ok_X5_write rfl) ⟨?_, ?_, by decide, by decide⟩ rfl
    · exact ⟨rfl, by (repeat first | rw [if_pos (by omega)] | rw [if_neg (by omega)] | rw [bI_t (by omega)] | rw [bI_f (by omega)])⟩
    · exact trivial
  refine aj_lsw (tgt := 54) (ax_dec2 (i := .lookupswitch 50 #[(0, 28), (1, 39)]) (n := 28) ok_X5_write rfl) (by decide) (by rw [ax_lsw_d (g 4 s 0) (by intro q hq; simp at hq; rcases hq with rfl | rfl <;> (dsimp only; omega))]; decide) ?_
  refine aj_run (C := (0 ≤ i ∧ i < n 402 s) ∧ True) (pc' := 61) (la' := [some (.inr (.inr (some (4, s)))), some (.inl i), some (.inl v)]) (st' := []) (M' := (P, ax_u3 g 402 s i v, r0, n)) ok_X5_write true 5 rfl (by refine ⟨?_, trivial⟩ <;> (omega)) ?_
  refine aj_ret (r := none) (ax_dec2 (i := .return_) (n := 1) ok_X5_write rfl) ⟨?_, ?_, by decide, by decide⟩ rfl
  · exact ⟨rfl, by (repeat first | rw [if_pos (by omega)] | rw [if_neg (by omega)] | rw [bI_t (by omega)] | rw [bI_f (by omega)])⟩
  · exact trivial

set_option maxRecDepth 100000 in
set_option maxHeartbeats 4000000 in
theorem cp_has (s i m : Int) (P : Nat → Int → Prop) (g : Nat → Int → Int → Int) (r0 : Nat → Int → Int → Option (Nat × Int)) (n : Nat → Int → Int) (h4 : 0 ≤ g 4 s 1 ∧ g 4 s 1 ≤ 40) : ax_S yX5_has cX5_has 3 (some FieldType.boolean) 0 0 0 [.inr (.inr (some (4, s))), .inl i, .inl m] (P, g, r0, n) (fun r M' => r = some (.inl (bI ((0 ≤ i ∧ 0 ≤ m) ∧ i ≤ g 4 s 1 ∧ m ≤ g 4 s 1 - i))) ∧ M' = (P, g, r0, n)) := by
  refine ax_S_of (own := 5) (by decide) rfl (fun h => absurd h (by decide)) rfl (Nat.le_of_ble_eq_true rfl) ?_
  change ax_J _ _ _ _ _ _ _ _ _ _ [some (.inr (.inr (some (4, s)))), some (.inl i), some (.inl m)] _ _
  refine aj_run (C := True) (pc' := 1) (la' := [some (.inr (.inr (some (4, s)))), some (.inl i), some (.inl m)]) (st' := [.inl i]) (M' := (P, g, r0, n)) ok_X5_has true 1 rfl trivial ?_
  refine aj_if_lt (tgt := 30) (ax_dec2 (i := .ifCond .lt 29) (n := 3) ok_X5_has rfl) (by decide) (fun c1 => ?_) (fun c1 => ?_)
  · refine aj_run (C := True) (pc' := 31) (la' := [some (.inr (.inr (some (4, s)))), some (.inl i), some (.inl m)]) (st' := [.inl 0]) (M' := (P, g, r0, n)) ok_X5_has true 1 rfl trivial ?_
    refine aj_ret (r := some (.inl 0)) (ax_dec2 (i := .ireturn) (n := 1) ok_X5_has rfl) ⟨?_, ?_, by decide, by decide⟩ rfl
    · exact ⟨ax_si (by first | rw [bI_t (by omega)] | rw [bI_f (by omega)]), rfl⟩
    · exact ax_ro_b (by decide)
  · refine aj_run (C := True) (pc' := 5) (la' := [some (.inr (.inr (some (4, s)))), some (.inl i), some (.inl m)]) (st' := [.inl m]) (M' := (P, g, r0, n)) ok_X5_has true 1 rfl trivial ?_
    refine aj_if_lt (tgt := 30) (ax_dec2 (i := .ifCond .lt 25) (n := 3) ok_X5_has rfl) (by decide) (fun c2 => ?_) (fun c2 => ?_)
    · refine aj_run (C := True) (pc' := 31) (la' := [some (.inr (.inr (some (4, s)))), some (.inl i), some (.inl m)]) (st' := [.inl 0]) (M' := (P, g, r0, n)) ok_X5_has true 1 rfl trivial ?_
      refine aj_ret (r := some (.inl 0)) (ax_dec2 (i := .ireturn) (n := 1) ok_X5_has rfl) ⟨?_, ?_, by decide, by decide⟩ rfl
      · exact ⟨ax_si (by first | rw [bI_t (by omega)] | rw [bI_f (by omega)]), rfl⟩
      · exact ax_ro_b (by decide)
    · refine aj_run (C := True) (pc' := 13) (la' := [some (.inr (.inr (some (4, s)))), some (.inl i), some (.inl m)]) (st' := [.inl (g 4 s 1), .inl i]) (M' := (P, g, r0, n)) ok_X5_has true 3 rfl trivial ?_
      refine aj_icmp_gt (tgt := 30) (ax_dec2 (i := .if_icmp .gt 17) (n := 3) ok_X5_has rfl) (by decide) (fun c3 => ?_) (fun c3 => ?_)
      · refine aj_run (C := True) (pc' := 31) (la' := [some (.inr (.inr (some (4, s)))), some (.inl i), some (.inl m)]) (st' := [.inl 0]) (M' := (P, g, r0, n)) ok_X5_has true 1 rfl trivial ?_
        refine aj_ret (r := some (.inl 0)) (ax_dec2 (i := .ireturn) (n := 1) ok_X5_has rfl) ⟨?_, ?_, by decide, by decide⟩ rfl
        · exact ⟨ax_si (by first | rw [bI_t (by omega)] | rw [bI_f (by omega)]), rfl⟩
        · exact ax_ro_b (by decide)
      · refine aj_run (C := (-2147483648 ≤ (g 4 s 1) - i ∧ (g 4 s 1) - i ≤ 2147483647) ∧ True) (pc' := 23) (la' := [some (.inr (.inr (some (4, s)))), some (.inl i), some (.inl m)]) (st' := [.inl ((g 4 s 1) - i), .inl m]) (M' := (P, g, r0, n)) ok_X5_has true 5 rfl (by refine ⟨?_, trivial⟩ <;> (omega)) ?_
        refine aj_icmp_gt (tgt := 30) (ax_dec2 (i := .if_icmp .gt 7) (n := 3) ok_X5_has rfl) (by decide) (fun c4 => ?_) (fun c4 => ?_)
        · refine aj_run (C := True) (pc' := 31) (la' := [some (.inr (.inr (some (4, s)))), some (.inl i), some (.inl m)]) (st' := [.inl 0]) (M' := (P, g, r0, n)) ok_X5_has true 1 rfl trivial ?_
          refine aj_ret (r := some (.inl 0)) (ax_dec2 (i := .ireturn) (n := 1) ok_X5_has rfl) ⟨?_, ?_, by decide, by decide⟩ rfl
          · exact ⟨ax_si (by first | rw [bI_t (by omega)] | rw [bI_f (by omega)]), rfl⟩
          · exact ax_ro_b (by decide)
        · refine aj_run (C := True) (pc' := 31) (la' := [some (.inr (.inr (some (4, s)))), some (.inl i), some (.inl m)]) (st' := [.inl 1]) (M' := (P, g, r0, n)) ok_X5_has true 2 rfl trivial ?_
          refine aj_ret (r := some (.inl 1)) (ax_dec2 (i := .ireturn) (n := 1) ok_X5_has rfl) ⟨?_, ?_, by decide, by decide⟩ rfl
          · exact ⟨ax_si (by first | rw [bI_t (by omega)] | rw [bI_f (by omega)]), rfl⟩
          · exact ax_ro_b (by decide)

set_option maxRecDepth 100000 in
set_option maxHeartbeats 4000000 in
theorem cp_sheet (s t m : Int) (P : Nat → Int → Prop) (g : Nat → Int → Int → Int) (r0 : Nat → Int → Int → Option (Nat × Int)) (n : Nat → Int → Int) (h : Nat → Int → Int → Int) (hw : cWd P r0 n g h) (hst : 0 ≤ g 2 0 11 ∧ g 2 0 11 ≤ 100000) : ax_S yX10_sheet cX10_sheet 4 (some FieldType.int) 2 0 0 [.inr (.inr (some (1, 0))), .inl s, .inl t, .inl m] (P, g, r0, n) (fun r M' => r = some (.inl (mSheet h s t m).1) ∧ ∃ g', M' = (P, g', r0, n) ∧ cWd P r0 n g' (mSheet h s t m).2 ∧ cFr TCl g' g ∧ g' 2 0 11 ≤ g 2 0 11 + 1) := by
  have hs := cWd_sta hw
  have hT := hw.2.2.1
  have hTp := hw.2.2.2.2.2.2
  have hT2 := hT.2.1
  have hTp2 := hTp.2.1
  have hAs := hs.1.1
  have hPs := hs.1.2.1
  have hOs := hs.1.2.2
  have hP1 := hPs.1
  have hA1 := hAs.1
  have hsz := hOs.2.2.1
  have hxz := hPs.1.1
  have hkk : 2 ≤ g 2 0 2 ∧ g 2 0 2 ≤ 40 := by rw [hP1.2.1]; exact hOs.1
  have hst2 : 0 ≤ g 2 0 11 ∧ g 2 0 11 ≤ 1000000 := by omega
  have hsh := hw.2.2.2.2.1
  refine ax_S_of (own := 10) (by decide) rfl (fun h => absurd h (by decide)) rfl (Nat.le_of_ble_eq_true rfl) ?_
  change ax_J _ _ _ _ _ _ _ _ _ _ [some (.inr (.inr (some (1, 0)))), some (.inl s), some (.inl t), some (.inl m)] _ _
  refine aj_run (C := True) (pc' := 1) (la' := [some (.inr (.inr (some (1, 0)))), some (.inl s), some (.inl t), some (.inl m)]) (st' := [.inl s]) (M' := (P, g, r0, n)) ok_X10_sheet true 1 rfl trivial ?_
  refine aj_callS (av := [.inl s]) (st := []) cal_X10_isSheet lk_10_216 stc_X10_isSheet (cp_isSheet s _ _ _ _) ⟨by decide, by decide, by decide, by decide⟩ (Nat.le_of_ble_eq_true rfl) (ax_dec2 (i := .invokestatic 216) (n := 3) ok_X10_sheet rfl) (fun r M' hq => ?_)
  obtain ⟨rfl, rfl⟩ := hq
  change ax_J _ _ _ _ _ _ _ _ _ 4 [some (.inr (.inr (some (1, 0)))), some (.inl s), some (.inl t), some (.inl m)] [.inl (bI (0 ≤ s ∧ s ≤ 3))] (P, g, r0, n)
  refine aj_if_eq (tgt := 30) (ax_dec2 (i := .ifCond .eq 26) (n := 3) ok_X10_sheet rfl) (by decide) (fun c1 => ?_) (fun c1 => ?_)
  · replace c1 := bI_e0 c1
    refine aj_run (C := True) (pc' := 32) (la' := [some (.inr (.inr (some (1, 0)))), some (.inl s), some (.inl t), some (.inl m)]) (st' := [.inl (-2)]) (M' := (P, g, r0, n)) ok_X10_sheet true 1 rfl trivial ?_
    refine aj_ret (r := some (.inl (-2))) (ax_dec2 (i := .ireturn) (n := 1) ok_X10_sheet rfl) ⟨?_, ?_, by decide, by decide⟩ rfl
    · first | (exfalso; omega) | exact ⟨ax_si (by unfold mSheet; (repeat first | rw [if_pos (by omega)] | rw [if_neg (by omega)] | rw [bI_t (by omega)] | rw [bI_f (by omega)]); try rfl), g, rfl, by unfold mSheet; (repeat first | rw [if_pos (by omega)] | rw [if_neg (by omega)] | rw [bI_t (by omega)] | rw [bI_f (by omega)]); exact hw, fun _ _ _ _ => rfl, by omega⟩
    · exact ax_ro_i
  · replace c1 := bI_n0 c1
    refine aj_run (C := True) (pc' := 9) (la' := [some (.inr (.inr (some (1, 0)))), some (.inl s), some (.inl t), some (.inl m)]) (st' := [.inl (-1), .inl t]) (M' := (P, g, r0, n)) ok_X10_sheet true 2 rfl trivial ?_
    refine aj_icmp_eq (tgt := 19) (ax_dec2 (i := .if_icmp .eq 10) (n := 3) ok_X10_sheet rfl) (by decide) (fun c2 => ?_) (fun c2 => ?_)
    · refine aj_run (C := True) (pc' := 21) (la' := [some (.inr (.inr (some (1, 0)))), some (.inl s), some (.inl t), some (.inl m)]) (st' := [.inl (-1), .inl t]) (M' := (P, g, r0, n)) ok_X10_sheet true 2 rfl trivial ?_
      refine aj_icmp_eq (tgt := 33) (ax_dec2 (i := .if_icmp .eq 12) (n := 3) ok_X10_sheet rfl) (by decide) (fun c3 => ?_) (fun c3 => ?_)
      · refine aj_run (C := True) (pc' := 35) (la' := [some (.inr (.inr (some (1, 0)))), some (.inl s), some (.inl t), some (.inl m)]) (st' := [.inl (-1), .inl t]) (M' := (P, g, r0, n)) ok_X10_sheet true 2 rfl trivial ?_
        refine aj_icmp_eq (tgt := 45) (ax_dec2 (i := .if_icmp .eq 10) (n := 3) ok_X10_sheet rfl) (by decide) (fun c4 => ?_) (fun c4 => ?_)
        · have q402 := (hsh.2 s (by omega) (by omega)).2.1
          refine aj_run (C := True) (pc' := 50) (la' := [some (.inr (.inr (some (1, 0)))), some (.inl s), some (.inl t), some (.inl m)]) (st' := [.inl s, .inr (.inr (some (703, 0)))]) (M' := (P, g, r0, n)) ok_X10_sheet true 3 rfl trivial ?_
          refine aj_aald (f := 703) (g := 4) (o := 0) (i := s) (u := s) (E := "AntsTurn$Sheet") rfl rfl rfl ⟨by omega, by have z9 := hsh.1; show s < n 703 0; omega⟩ (hsh.2 s (by omega) (by omega)).1.1 (hsh.2 s (by omega) (by omega)).1.2 (ax_dec2 (i := .aaload) (n := 1) ok_X10_sheet rfl) ?_
          refine aj_run (C := True) (pc' := 54) (la' := [some (.inr (.inr (some (1, 0)))), some (.inl s), some (.inl t), some (.inl m)]) (st' := [.inl (-1), .inl t, .inl t, .inr (.inr (some (4, s)))]) (M' := (P, g, r0, n)) ok_X10_sheet true 3 rfl trivial ?_
          refine aj_icmp_ne (tgt := 61) (ax_dec2 (i := .if_icmp .ne 7) (n := 3) ok_X10_sheet rfl) (by decide) (fun c5 => ?_) (fun c5 => ?_)
          · exact absurd c5 (by omega)
          · refine aj_run (C := True) (pc' := 62) (la' := [some (.inr (.inr (some (1, 0)))), some (.inl s), some (.inl t), some (.inl m)]) (st' := [.inl 0, .inl t, .inr (.inr (some (4, s)))]) (M' := (P, g, r0, n)) ok_X10_sheet true 2 rfl trivial ?_
            refine aj_callV (av := [.inl t, .inl 0]) (st := []) (f := 4) (o := s) (ci := 5) cal_X5_become lk_10_270 ins_X5_become rfl sel_X5_become rfl (fun c9 h9 _ => by simpa [ax_ok] using h9) (cp_become s t 0 _ _ _ _ (by omega)) ⟨by decide, by decide, by decide, by decide⟩ (Nat.le_of_ble_eq_true rfl) (ax_dec2 (i := .invokevirtual 270) (n := 3) ok_X10_sheet rfl) (fun r M' hq => ?_)
            obtain ⟨rfl, rfl⟩ := hq
            change ax_J _ _ _ _ _ _ _ _ _ 65 [some (.inr (.inr (some (1, 0)))), some (.inl s), some (.inl t), some (.inl m)] [] (P, cFl (ax_u3 (ax_u3 g 4 s 0 t) 4 s 1 0) s 0 (n 402 s), r0, n)
            refine aj_run (C := True) (pc' := 66) (la' := [some (.inr (.inr (some (1, 0)))), some (.inl s), some (.inl t), some (.inl m)]) (st' := [.inl 1]) (M' := (P, cFl (ax_u3 (ax_u3 g 4 s 0 t) 4 s 1 0) s 0 (n 402 s), r0, n)) ok_X10_sheet true 1 rfl trivial ?_
            refine aj_ret (r := some (.inl 1)) (ax_dec2 (i := .ireturn) (n := 1) ok_X10_sheet rfl) ⟨?_, ?_, by decide, by decide⟩ rfl
            · first | (exfalso; omega) | exact ⟨ax_si (by unfold mSheet; (repeat first | rw [if_pos (by omega)] | rw [if_neg (by omega)] | rw [bI_t (by omega)] | rw [bI_f (by omega)]); try rfl), cFl (ax_u3 (ax_u3 g 4 s 0 t) 4 s 1 0) s 0 (n 402 s), rfl, by unfold mSheet; (repeat first | rw [if_pos (by omega)] | rw [if_neg (by omega)] | rw [bI_t (by omega)] | rw [bI_f (by omega)]); rw [q402]; exact cWd_sheet hw (by omega) (by omega) (by omega), fun f o j z => by rw [cFl_o (by unfold TCl at z; omega), ax_u3_n (by unfold TCl at z; omega), ax_u3_n (by unfold TCl at z; omega)], by rw [show (cFl (ax_u3 (ax_u3 g 4 s 0 t) 4 s 1 0) s 0 (n 402 s)) 2 0 11 = g 2 0 11 by rw [cFl_o (by omega), ax_u3_n (by omega), ax_u3_n (by omega)]]; omega⟩
            · exact ax_ro_i
        · exact absurd c4 (by omega)
      · exact absurd c3 (by omega)
    · refine aj_run (C := True) (pc' := 13) (la' := [some (.inr (.inr (some (1, 0)))), some (.inl s), some (.inl t), some (.inl m)]) (st' := [.inl t]) (M' := (P, g, r0, n)) ok_X10_sheet true 1 rfl trivial ?_
      refine aj_callS (av := [.inl t]) (st := []) cal_X10_isSort lk_10_267 stc_X10_isSort (cp_isSort t _ _ _ _) ⟨by decide, by decide, by decide, by decide⟩ (Nat.le_of_ble_eq_true rfl) (ax_dec2 (i := .invokestatic 267) (n := 3) ok_X10_sheet rfl) (fun r M' hq => ?_)
      obtain ⟨rfl, rfl⟩ := hq
      change ax_J _ _ _ _ _ _ _ _ _ 16 [some (.inr (.inr (some (1, 0)))), some (.inl s), some (.inl t), some (.inl m)] [.inl (bI (0 ≤ t ∧ t ≤ 2))] (P, g, r0, n)
      refine aj_if_eq (tgt := 30) (ax_dec2 (i := .ifCond .eq 14) (n := 3) ok_X10_sheet rfl) (by decide) (fun c6 => ?_) (fun c6 => ?_)
      · replace c6 := bI_e0 c6
        refine aj_run (C := True) (pc' := 32) (la' := [some (.inr (.inr (some (1, 0)))), some (.inl s), some (.inl t), some (.inl m)]) (st' := [.inl (-2)]) (M' := (P, g, r0, n)) ok_X10_sheet true 1 rfl trivial ?_
        refine aj_ret (r := some (.inl (-2))) (ax_dec2 (i := .ireturn) (n := 1) ok_X10_sheet rfl) ⟨?_, ?_, by decide, by decide⟩ rfl
        · first | (exfalso; omega) | exact ⟨ax_si (by unfold mSheet; (repeat first | rw [if_pos (by omega)] | rw [if_neg (by omega)] | rw [bI_t (by omega)] | rw [bI_f (by omega)]); try rfl), g, rfl, by unfold mSheet; (repeat first | rw [if_pos (by omega)] | rw [if_neg (by omega)] | rw [bI_t (by omega)] | rw [bI_f (by omega)]); exact hw, fun _ _ _ _ => rfl, by omega⟩
        · exact ax_ro_i
      · replace c6 := bI_n0 c6
        refine aj_run (C := True) (pc' := 21) (la' := [some (.inr (.inr (some (1, 0)))), some (.inl s), some (.inl t), some (.inl m)]) (st' := [.inl (-1), .inl t]) (M' := (P, g, r0, n)) ok_X10_sheet true 2 rfl trivial ?_
        refine aj_icmp_eq (tgt := 33) (ax_dec2 (i := .if_icmp .eq 12) (n := 3) ok_X10_sheet rfl) (by decide) (fun c7 => ?_) (fun c7 => ?_)
        · exact absurd c7 (by omega)
        · refine aj_run (C := True) (pc' := 27) (la' := [some (.inr (.inr (some (1, 0)))), some (.inl s), some (.inl t), some (.inl m)]) (st' := [.inl 40, .inl m]) (M' := (P, g, r0, n)) ok_X10_sheet true 2 rfl trivial ?_
          refine aj_icmp_le (tgt := 33) (ax_dec2 (i := .if_icmp .le 6) (n := 3) ok_X10_sheet rfl) (by decide) (fun c8 => ?_) (fun c8 => ?_)
          · refine aj_run (C := True) (pc' := 35) (la' := [some (.inr (.inr (some (1, 0)))), some (.inl s), some (.inl t), some (.inl m)]) (st' := [.inl (-1), .inl t]) (M' := (P, g, r0, n)) ok_X10_sheet true 2 rfl trivial ?_
            refine aj_icmp_eq (tgt := 45) (ax_dec2 (i := .if_icmp .eq 10) (n := 3) ok_X10_sheet rfl) (by decide) (fun c9 => ?_) (fun c9 => ?_)
            · exact absurd c9 (by omega)
            · refine aj_run (C := True) (pc' := 39) (la' := [some (.inr (.inr (some (1, 0)))), some (.inl s), some (.inl t), some (.inl m)]) (st' := [.inl m]) (M' := (P, g, r0, n)) ok_X10_sheet true 1 rfl trivial ?_
              refine aj_if_ge (tgt := 45) (ax_dec2 (i := .ifCond .ge 6) (n := 3) ok_X10_sheet rfl) (by decide) (fun c10 => ?_) (fun c10 => ?_)
              · have q402 := (hsh.2 s (by omega) (by omega)).2.1
                refine aj_run (C := True) (pc' := 50) (la' := [some (.inr (.inr (some (1, 0)))), some (.inl s), some (.inl t), some (.inl m)]) (st' := [.inl s, .inr (.inr (some (703, 0)))]) (M' := (P, g, r0, n)) ok_X10_sheet true 3 rfl trivial ?_
                refine aj_aald (f := 703) (g := 4) (o := 0) (i := s) (u := s) (E := "AntsTurn$Sheet") rfl rfl rfl ⟨by omega, by have z9 := hsh.1; show s < n 703 0; omega⟩ (hsh.2 s (by omega) (by omega)).1.1 (hsh.2 s (by omega) (by omega)).1.2 (ax_dec2 (i := .aaload) (n := 1) ok_X10_sheet rfl) ?_
                refine aj_run (C := True) (pc' := 54) (la' := [some (.inr (.inr (some (1, 0)))), some (.inl s), some (.inl t), some (.inl m)]) (st' := [.inl (-1), .inl t, .inl t, .inr (.inr (some (4, s)))]) (M' := (P, g, r0, n)) ok_X10_sheet true 3 rfl trivial ?_
                refine aj_icmp_ne (tgt := 61) (ax_dec2 (i := .if_icmp .ne 7) (n := 3) ok_X10_sheet rfl) (by decide) (fun c11 => ?_) (fun c11 => ?_)
                · refine aj_run (C := True) (pc' := 62) (la' := [some (.inr (.inr (some (1, 0)))), some (.inl s), some (.inl t), some (.inl m)]) (st' := [.inl m, .inl t, .inr (.inr (some (4, s)))]) (M' := (P, g, r0, n)) ok_X10_sheet true 1 rfl trivial ?_
                  refine aj_callV (av := [.inl t, .inl m]) (st := []) (f := 4) (o := s) (ci := 5) cal_X5_become lk_10_270 ins_X5_become rfl sel_X5_become rfl (fun c9 h9 _ => by simpa [ax_ok] using h9) (cp_become s t m _ _ _ _ (by omega)) ⟨by decide, by decide, by decide, by decide⟩ (Nat.le_of_ble_eq_true rfl) (ax_dec2 (i := .invokevirtual 270) (n := 3) ok_X10_sheet rfl) (fun r M' hq => ?_)
                  obtain ⟨rfl, rfl⟩ := hq
                  change ax_J _ _ _ _ _ _ _ _ _ 65 [some (.inr (.inr (some (1, 0)))), some (.inl s), some (.inl t), some (.inl m)] [] (P, cFl (ax_u3 (ax_u3 g 4 s 0 t) 4 s 1 m) s 0 (n 402 s), r0, n)
                  refine aj_run (C := True) (pc' := 66) (la' := [some (.inr (.inr (some (1, 0)))), some (.inl s), some (.inl t), some (.inl m)]) (st' := [.inl 1]) (M' := (P, cFl (ax_u3 (ax_u3 g 4 s 0 t) 4 s 1 m) s 0 (n 402 s), r0, n)) ok_X10_sheet true 1 rfl trivial ?_
                  refine aj_ret (r := some (.inl 1)) (ax_dec2 (i := .ireturn) (n := 1) ok_X10_sheet rfl) ⟨?_, ?_, by decide, by decide⟩ rfl
                  · first | (exfalso; omega) | exact ⟨ax_si (by unfold mSheet; (repeat first | rw [if_pos (by omega)] | rw [if_neg (by omega)] | rw [bI_t (by omega)] | rw [bI_f (by omega)]); try rfl), cFl (ax_u3 (ax_u3 g 4 s 0 t) 4 s 1 m) s 0 (n 402 s), rfl, by unfold mSheet; (repeat first | rw [if_pos (by omega)] | rw [if_neg (by omega)] | rw [bI_t (by omega)] | rw [bI_f (by omega)]); rw [q402]; exact cWd_sheet hw (by omega) (by omega) (by omega), fun f o j z => by rw [cFl_o (by unfold TCl at z; omega), ax_u3_n (by unfold TCl at z; omega), ax_u3_n (by unfold TCl at z; omega)], by rw [show (cFl (ax_u3 (ax_u3 g 4 s 0 t) 4 s 1 m) s 0 (n 402 s)) 2 0 11 = g 2 0 11 by rw [cFl_o (by omega), ax_u3_n (by omega), ax_u3_n (by omega)]]; omega⟩
                  · exact ax_ro_i
                · exact absurd c11 (by omega)
              · refine aj_run (C := True) (pc' := 44) (la' := [some (.inr (.inr (some (1, 0)))), some (.inl s), some (.inl t), some (.inl m)]) (st' := [.inl (-14)]) (M' := (P, g, r0, n)) ok_X10_sheet true 1 rfl trivial ?_
                refine aj_ret (r := some (.inl (-14))) (ax_dec2 (i := .ireturn) (n := 1) ok_X10_sheet rfl) ⟨?_, ?_, by decide, by decide⟩ rfl
                · first | (exfalso; omega) | exact ⟨ax_si (by unfold mSheet; (repeat first | rw [if_pos (by omega)] | rw [if_neg (by omega)] | rw [bI_t (by omega)] | rw [bI_f (by omega)]); try rfl), g, rfl, by unfold mSheet; (repeat first | rw [if_pos (by omega)] | rw [if_neg (by omega)] | rw [bI_t (by omega)] | rw [bI_f (by omega)]); exact hw, fun _ _ _ _ => rfl, by omega⟩
                · exact ax_ro_i
          · refine aj_run (C := True) (pc' := 32) (la' := [some (.inr (.inr (some (1, 0)))), some (.inl s), some (.inl t), some (.inl m)]) (st' := [.inl (-2)]) (M' := (P, g, r0, n)) ok_X10_sheet true 1 rfl trivial ?_
            refine aj_ret (r := some (.inl (-2))) (ax_dec2 (i := .ireturn) (n := 1) ok_X10_sheet rfl) ⟨?_, ?_, by decide, by decide⟩ rfl
            · first | (exfalso; omega) | exact ⟨ax_si (by unfold mSheet; (repeat first | rw [if_pos (by omega)] | rw [if_neg (by omega)] | rw [bI_t (by omega)] | rw [bI_f (by omega)]); try rfl), g, rfl, by unfold mSheet; (repeat first | rw [if_pos (by omega)] | rw [if_neg (by omega)] | rw [bI_t (by omega)] | rw [bI_f (by omega)]); exact hw, fun _ _ _ _ => rfl, by omega⟩
            · exact ax_ro_i

set_option maxRecDepth 100000 in
set_option maxHeartbeats 4000000 in
theorem cp_cell (s i v : Int) (P : Nat → Int → Prop) (g : Nat → Int → Int → Int) (r0 : Nat → Int → Int → Option (Nat × Int)) (n : Nat → Int → Int) (h : Nat → Int → Int → Int) (hw : cWd P r0 n g h) (hst : 0 ≤ g 2 0 11 ∧ g 2 0 11 ≤ 100000) : ax_S yX10_cell cX10_cell 5 (some FieldType.int) 1 0 0 [.inr (.inr (some (1, 0))), .inl s, .inl i, .inl v] (P, g, r0, n) (fun r M' => r = some (.inl (mCell h s i v).1) ∧ ∃ g', M' = (P, g', r0, n) ∧ cWd P r0 n g' (mCell h s i v).2 ∧ cFr TCl g' g ∧ g' 2 0 11 ≤ g 2 0 11 + 1) := by
  have hs := cWd_sta hw
  have hT := hw.2.2.1
  have hTp := hw.2.2.2.2.2.2
  have hT2 := hT.2.1
  have hTp2 := hTp.2.1
  have hAs := hs.1.1
  have hPs := hs.1.2.1
  have hOs := hs.1.2.2
  have hP1 := hPs.1
  have hA1 := hAs.1
  have hsz := hOs.2.2.1
  have hxz := hPs.1.1
  have hkk : 2 ≤ g 2 0 2 ∧ g 2 0 2 ≤ 40 := by rw [hP1.2.1]; exact hOs.1
  have hst2 : 0 ≤ g 2 0 11 ∧ g 2 0 11 ≤ 1000000 := by omega
  have hsh := hw.2.2.2.2.1
  refine ax_S_of (own := 10) (by decide) rfl (fun h => absurd h (by decide)) rfl (Nat.le_of_ble_eq_true rfl) ?_
  change ax_J _ _ _ _ _ _ _ _ _ _ [some (.inr (.inr (some (1, 0)))), some (.inl s), some (.inl i), some (.inl v), none] _ _
  refine aj_run (C := True) (pc' := 1) (la' := [some (.inr (.inr (some (1, 0)))), some (.inl s), some (.inl i), some (.inl v), none]) (st' := [.inl s]) (M' := (P, g, r0, n)) ok_X10_cell true 1 rfl trivial ?_
  refine aj_callS (av := [.inl s]) (st := []) cal_X10_isSheet lk_10_216 stc_X10_isSheet (cp_isSheet s _ _ _ _) ⟨by decide, by decide, by decide, by decide⟩ (Nat.le_of_ble_eq_true rfl) (ax_dec2 (i := .invokestatic 216) (n := 3) ok_X10_cell rfl) (fun r M' hq => ?_)
  obtain ⟨rfl, rfl⟩ := hq
  change ax_J _ _ _ _ _ _ _ _ _ 4 [some (.inr (.inr (some (1, 0)))), some (.inl s), some (.inl i), some (.inl v), none] [.inl (bI (0 ≤ s ∧ s ≤ 3))] (P, g, r0, n)
  refine aj_if_ne (tgt := 10) (ax_dec2 (i := .ifCond .ne 6) (n := 3) ok_X10_cell rfl) (by decide) (fun c1 => ?_) (fun c1 => ?_)
  · replace c1 := bI_n0 c1
    refine aj_run (C := True) (pc' := 15) (la' := [some (.inr (.inr (some (1, 0)))), some (.inl s), some (.inl i), some (.inl v), none]) (st' := [.inl s, .inr (.inr (some (703, 0)))]) (M' := (P, g, r0, n)) ok_X10_cell true 3 rfl trivial ?_
    refine aj_aald (f := 703) (g := 4) (o := 0) (i := s) (u := s) (E := "AntsTurn$Sheet") rfl rfl rfl ⟨by omega, by have z9 := hsh.1; show s < n 703 0; omega⟩ (hsh.2 s (by omega) (by omega)).1.1 (hsh.2 s (by omega) (by omega)).1.2 (ax_dec2 (i := .aaload) (n := 1) ok_X10_cell rfl) ?_
    obtain ⟨-, q2, q3, q4, -⟩ := hsh.2 s (by omega) (by omega)
    have hvs : (if h 155 0 s = 0 then ax_i2b v else if h 155 0 s = 1 then ax_i2s v else v) = (if g 4 s 0 = 0 then ax_i2b v else if g 4 s 0 = 1 then ax_i2s v else v) := by rw [q3.1]
    refine aj_run (C := True) (pc' := 20) (la' := [some (.inr (.inr (some (1, 0)))), some (.inl s), some (.inl i), some (.inl v), some (.inr (.inr (some (4, s))))]) (st' := [.inr (.inr (some (4, s)))]) (M' := (P, g, r0, n)) ok_X10_cell true 2 rfl trivial ?_
    refine aj_callV (av := []) (st := []) (f := 4) (o := s) (ci := 5) cal_X5_isMissing lk_10_219 ins_X5_isMissing rfl sel_X5_isMissing rfl (fun c9 h9 _ => by simpa [ax_ok] using h9) (cp_isMissing s _ _ _ _) ⟨by decide, by decide, by decide, by decide⟩ (Nat.le_of_ble_eq_true rfl) (ax_dec2 (i := .invokevirtual 219) (n := 3) ok_X10_cell rfl) (fun r M' hq => ?_)
    obtain ⟨rfl, rfl⟩ := hq
    change ax_J _ _ _ _ _ _ _ _ _ 23 [some (.inr (.inr (some (1, 0)))), some (.inl s), some (.inl i), some (.inl v), some (.inr (.inr (some (4, s))))] [.inl (bI (g 4 s 0 = -1))] (P, g, r0, n)
    refine aj_if_eq (tgt := 29) (ax_dec2 (i := .ifCond .eq 6) (n := 3) ok_X10_cell rfl) (by decide) (fun c2 => ?_) (fun c2 => ?_)
    · replace c2 := bI_e0 c2
      refine aj_run (C := True) (pc' := 30) (la' := [some (.inr (.inr (some (1, 0)))), some (.inl s), some (.inl i), some (.inl v), some (.inr (.inr (some (4, s))))]) (st' := [.inl i]) (M' := (P, g, r0, n)) ok_X10_cell true 1 rfl trivial ?_
      refine aj_if_lt (tgt := 42) (ax_dec2 (i := .ifCond .lt 12) (n := 3) ok_X10_cell rfl) (by decide) (fun c3 => ?_) (fun c3 => ?_)
      · refine aj_run (C := True) (pc' := 44) (la' := [some (.inr (.inr (some (1, 0)))), some (.inl s), some (.inl i), some (.inl v), some (.inr (.inr (some (4, s))))]) (st' := [.inl (-12)]) (M' := (P, g, r0, n)) ok_X10_cell true 1 rfl trivial ?_
        refine aj_ret (r := some (.inl (-12))) (ax_dec2 (i := .ireturn) (n := 1) ok_X10_cell rfl) ⟨?_, ?_, by decide, by decide⟩ rfl
        · first | (exfalso; omega) | exact ⟨ax_si (by unfold mCell; (repeat first | rw [if_pos (by omega)] | rw [if_neg (by omega)] | rw [bI_t (by omega)] | rw [bI_f (by omega)]); try rfl), g, rfl, by unfold mCell; (repeat first | rw [if_pos (by omega)] | rw [if_neg (by omega)] | rw [bI_t (by omega)] | rw [bI_f (by omega)]); exact hw, fun _ _ _ _ => rfl, by omega⟩
        · exact ax_ro_i
      · refine aj_run (C := True) (pc' := 39) (la' := [some (.inr (.inr (some (1, 0)))), some (.inl s), some (.inl i), some (.inl v), some (.inr (.inr (some (4, s))))]) (st' := [.inl (g 4 s 1), .inl i]) (M' := (P, g, r0, n)) ok_X10_cell true 3 rfl trivial ?_
        refine aj_icmp_lt (tgt := 45) (ax_dec2 (i := .if_icmp .lt 6) (n := 3) ok_X10_cell rfl) (by decide) (fun c4 => ?_) (fun c4 => ?_)
        · refine aj_run (C := True) (pc' := 49) (la' := [some (.inr (.inr (some (1, 0)))), some (.inl s), some (.inl i), some (.inl v), some (.inr (.inr (some (4, s))))]) (st' := [.inl v, .inl i, .inr (.inr (some (4, s)))]) (M' := (P, g, r0, n)) ok_X10_cell true 3 rfl trivial ?_
          refine aj_callV (av := [.inl i, .inl v]) (st := []) (f := 4) (o := s) (ci := 5) cal_X5_write lk_10_274 ins_X5_write rfl sel_X5_write rfl (fun c9 h9 _ => by simpa [ax_ok] using h9) (cp_write s i v _ _ _ _ q2 (by omega)) ⟨by decide, by decide, by decide, by decide⟩ (Nat.le_of_ble_eq_true rfl) (ax_dec2 (i := .invokevirtual 274) (n := 3) ok_X10_cell rfl) (fun r M' hq => ?_)
          obtain ⟨rfl, rfl⟩ := hq
          change ax_J _ _ _ _ _ _ _ _ _ 52 [some (.inr (.inr (some (1, 0)))), some (.inl s), some (.inl i), some (.inl v), some (.inr (.inr (some (4, s))))] [] (P, ax_u3 g 402 s i (if g 4 s 0 = 0 then ax_i2b v else if g 4 s 0 = 1 then ax_i2s v else v), r0, n)
          refine aj_run (C := True) (pc' := 53) (la' := [some (.inr (.inr (some (1, 0)))), some (.inl s), some (.inl i), some (.inl v), some (.inr (.inr (some (4, s))))]) (st' := [.inl 1]) (M' := (P, ax_u3 g 402 s i (if g 4 s 0 = 0 then ax_i2b v else if g 4 s 0 = 1 then ax_i2s v else v), r0, n)) ok_X10_cell true 1 rfl trivial ?_
          refine aj_ret (r := some (.inl 1)) (ax_dec2 (i := .ireturn) (n := 1) ok_X10_cell rfl) ⟨?_, ?_, by decide, by decide⟩ rfl
          · first | (exfalso; omega) | (have hmc : mCell h s i v = (1, ax_u3 h 157 0 (40 * s + i) (if g 4 s 0 = 0 then ax_i2b v else if g 4 s 0 = 1 then ax_i2s v else v)) := (by unfold mCell; rw [if_pos (c := 0 ≤ s ∧ s ≤ 3) (by omega), if_neg (c := h 155 0 s < 0) (by omega), if_pos (c := 0 ≤ i ∧ i < h 156 0 s) (by omega), hvs]); exact ⟨ax_si (by rw [hmc]), ax_u3 g 402 s i (if g 4 s 0 = 0 then ax_i2b v else if g 4 s 0 = 1 then ax_i2s v else v), rfl, by rw [hmc]; exact cWd_cell hw (by omega) (by omega), fun f o j z => by (repeat rw [ax_u3_n (by unfold TCl at z; omega)]), by rw [show (ax_u3 g 402 s i (if g 4 s 0 = 0 then ax_i2b v else if g 4 s 0 = 1 then ax_i2s v else v)) 2 0 11 = g 2 0 11 from ax_u3_n (by omega)]; omega⟩)
          · exact ax_ro_i
        · refine aj_run (C := True) (pc' := 44) (la' := [some (.inr (.inr (some (1, 0)))), some (.inl s), some (.inl i), some (.inl v), some (.inr (.inr (some (4, s))))]) (st' := [.inl (-12)]) (M' := (P, g, r0, n)) ok_X10_cell true 1 rfl trivial ?_
          refine aj_ret (r := some (.inl (-12))) (ax_dec2 (i := .ireturn) (n := 1) ok_X10_cell rfl) ⟨?_, ?_, by decide, by decide⟩ rfl
          · first | (exfalso; omega) | exact ⟨ax_si (by unfold mCell; (repeat first | rw [if_pos (by omega)] | rw [if_neg (by omega)] | rw [bI_t (by omega)] | rw [bI_f (by omega)]); try rfl), g, rfl, by unfold mCell; (repeat first | rw [if_pos (by omega)] | rw [if_neg (by omega)] | rw [bI_t (by omega)] | rw [bI_f (by omega)]); exact hw, fun _ _ _ _ => rfl, by omega⟩
          · exact ax_ro_i
    · replace c2 := bI_n0 c2
      refine aj_run (C := True) (pc' := 28) (la' := [some (.inr (.inr (some (1, 0)))), some (.inl s), some (.inl i), some (.inl v), some (.inr (.inr (some (4, s))))]) (st' := [.inl (-11)]) (M' := (P, g, r0, n)) ok_X10_cell true 1 rfl trivial ?_
      refine aj_ret (r := some (.inl (-11))) (ax_dec2 (i := .ireturn) (n := 1) ok_X10_cell rfl) ⟨?_, ?_, by decide, by decide⟩ rfl
      · first | (exfalso; omega) | exact ⟨ax_si (by unfold mCell; (repeat first | rw [if_pos (by omega)] | rw [if_neg (by omega)] | rw [bI_t (by omega)] | rw [bI_f (by omega)]); try rfl), g, rfl, by unfold mCell; (repeat first | rw [if_pos (by omega)] | rw [if_neg (by omega)] | rw [bI_t (by omega)] | rw [bI_f (by omega)]); exact hw, fun _ _ _ _ => rfl, by omega⟩
      · exact ax_ro_i
  · replace c1 := bI_e0 c1
    refine aj_run (C := True) (pc' := 9) (la' := [some (.inr (.inr (some (1, 0)))), some (.inl s), some (.inl i), some (.inl v), none]) (st' := [.inl (-2)]) (M' := (P, g, r0, n)) ok_X10_cell true 1 rfl trivial ?_
    refine aj_ret (r := some (.inl (-2))) (ax_dec2 (i := .ireturn) (n := 1) ok_X10_cell rfl) ⟨?_, ?_, by decide, by decide⟩ rfl
    · first | (exfalso; omega) | exact ⟨ax_si (by unfold mCell; (repeat first | rw [if_pos (by omega)] | rw [if_neg (by omega)] | rw [bI_t (by omega)] | rw [bI_f (by omega)]); try rfl), g, rfl, by unfold mCell; (repeat first | rw [if_pos (by omega)] | rw [if_neg (by omega)] | rw [bI_t (by omega)] | rw [bI_f (by omega)]); exact hw, fun _ _ _ _ => rfl, by omega⟩
    · exact ax_ro_i

set_option maxRecDepth 100000 in
set_option maxHeartbeats 4000000 in
theorem cp_copy (s i u j m : Int) (P : Nat → Int → Prop) (g : Nat → Int → Int → Int) (r0 : Nat → Int → Int → Option (Nat × Int)) (n : Nat → Int → Int) (h : Nat → Int → Int → Int) (hw : cWd P r0 n g h) (hst : 0 ≤ g 2 0 11 ∧ g 2 0 11 ≤ 100000) : ax_S yX10_copy cX10_copy 8 (some FieldType.int) 1 0 0 [.inr (.inr (some (1, 0))), .inl s, .inl i, .inl u, .inl j, .inl m] (P, g, r0, n) (fun r M' => r = some (.inl (mCpy h s i u j m, mCpyM h s i u j m).1) ∧ ∃ g', M' = (P, g', r0, n) ∧ cWd P r0 n g' (mCpy h s i u j m, mCpyM h s i u j m).2 ∧ cFr TCl g' g ∧ g' 2 0 11 ≤ g 2 0 11 + 1) := by
  have hs := cWd_sta hw
  have hT := hw.2.2.1
  have hTp := hw.2.2.2.2.2.2
  have hT2 := hT.2.1
  have hTp2 := hTp.2.1
  have hAs := hs.1.1
  have hPs := hs.1.2.1
  have hOs := hs.1.2.2
  have hP1 := hPs.1
  have hA1 := hAs.1
  have hsz := hOs.2.2.1
  have hxz := hPs.1.1
  have hkk : 2 ≤ g 2 0 2 ∧ g 2 0 2 ≤ 40 := by rw [hP1.2.1]; exact hOs.1
  have hst2 : 0 ≤ g 2 0 11 ∧ g 2 0 11 ≤ 1000000 := by omega
  have hsh := hw.2.2.2.2.1
  refine ax_S_of (own := 10) (by decide) rfl (fun h => absurd h (by decide)) rfl (Nat.le_of_ble_eq_true rfl) ?_
  change ax_J _ _ _ _ _ _ _ _ _ _ [some (.inr (.inr (some (1, 0)))), some (.inl s), some (.inl i), some (.inl u), some (.inl j), some (.inl m), none, none] _ _
  refine aj_run (C := True) (pc' := 1) (la' := [some (.inr (.inr (some (1, 0)))), some (.inl s), some (.inl i), some (.inl u), some (.inl j), some (.inl m), none, none]) (st' := [.inl s]) (M' := (P, g, r0, n)) ok_X10_copy true 1 rfl trivial ?_
  refine aj_callS (av := [.inl s]) (st := []) cal_X10_isSheet lk_10_216 stc_X10_isSheet (cp_isSheet s _ _ _ _) ⟨by decide, by decide, by decide, by decide⟩ (Nat.le_of_ble_eq_true rfl) (ax_dec2 (i := .invokestatic 216) (n := 3) ok_X10_copy rfl) (fun r M' hq => ?_)
  obtain ⟨rfl, rfl⟩ := hq
  change ax_J _ _ _ _ _ _ _ _ _ 4 [some (.inr (.inr (some (1, 0)))), some (.inl s), some (.inl i), some (.inl u), some (.inl j), some (.inl m), none, none] [.inl (bI (0 ≤ s ∧ s ≤ 3))] (P, g, r0, n)
  refine aj_if_eq (tgt := 14) (ax_dec2 (i := .ifCond .eq 10) (n := 3) ok_X10_copy rfl) (by decide) (fun c1 => ?_) (fun c1 => ?_)
  · replace c1 := bI_e0 c1
    refine aj_run (C := True) (pc' := 16) (la' := [some (.inr (.inr (some (1, 0)))), some (.inl s), some (.inl i), some (.inl u), some (.inl j), some (.inl m), none, none]) (st' := [.inl (-2)]) (M' := (P, g, r0, n)) ok_X10_copy true 1 rfl trivial ?_
    refine aj_ret (r := some (.inl (-2))) (ax_dec2 (i := .ireturn) (n := 1) ok_X10_copy rfl) ⟨?_, ?_, by decide, by decide⟩ rfl
    · first | (exfalso; omega) | (have hcv : mCpy h s i u j m = (-2) := (by unfold mCpy; (repeat first | rw [if_pos (by omega)] | rw [if_neg (by omega)] | rw [bI_t (by omega)] | rw [bI_f (by omega)])); exact ⟨ax_si (by exact hcv.symm), g, rfl, (by show cWd P r0 n g (mCpyM h s i u j m); unfold mCpyM; rw [hcv, if_neg (by omega)]; exact hw), fun _ _ _ _ => rfl, by omega⟩)
    · exact ax_ro_i
  · replace c1 := bI_n0 c1
    refine aj_run (C := True) (pc' := 8) (la' := [some (.inr (.inr (some (1, 0)))), some (.inl s), some (.inl i), some (.inl u), some (.inl j), some (.inl m), none, none]) (st' := [.inl u]) (M' := (P, g, r0, n)) ok_X10_copy true 1 rfl trivial ?_
    refine aj_callS (av := [.inl u]) (st := []) cal_X10_isSheet lk_10_216 stc_X10_isSheet (cp_isSheet u _ _ _ _) ⟨by decide, by decide, by decide, by decide⟩ (Nat.le_of_ble_eq_true rfl) (ax_dec2 (i := .invokestatic 216) (n := 3) ok_X10_copy rfl) (fun r M' hq => ?_)
    obtain ⟨rfl, rfl⟩ := hq
    change ax_J _ _ _ _ _ _ _ _ _ 11 [some (.inr (.inr (some (1, 0)))), some (.inl s), some (.inl i), some (.inl u), some (.inl j), some (.inl m), none, none] [.inl (bI (0 ≤ u ∧ u ≤ 3))] (P, g, r0, n)
    refine aj_if_ne (tgt := 17) (ax_dec2 (i := .ifCond .ne 6) (n := 3) ok_X10_copy rfl) (by decide) (fun c2 => ?_) (fun c2 => ?_)
    · replace c2 := bI_n0 c2
      refine aj_run (C := True) (pc' := 22) (la' := [some (.inr (.inr (some (1, 0)))), some (.inl s), some (.inl i), some (.inl u), some (.inl j), some (.inl m), none, none]) (st' := [.inl s, .inr (.inr (some (703, 0)))]) (M' := (P, g, r0, n)) ok_X10_copy true 3 rfl trivial ?_
      refine aj_aald (f := 703) (g := 4) (o := 0) (i := s) (u := s) (E := "AntsTurn$Sheet") rfl rfl rfl ⟨by omega, by have z9 := hsh.1; show s < n 703 0; omega⟩ (hsh.2 s (by omega) (by omega)).1.1 (hsh.2 s (by omega) (by omega)).1.2 (ax_dec2 (i := .aaload) (n := 1) ok_X10_copy rfl) ?_
      refine aj_run (C := True) (pc' := 30) (la' := [some (.inr (.inr (some (1, 0)))), some (.inl s), some (.inl i), some (.inl u), some (.inl j), some (.inl m), some (.inr (.inr (some (4, s)))), none]) (st' := [.inl u, .inr (.inr (some (703, 0)))]) (M' := (P, g, r0, n)) ok_X10_copy true 4 rfl trivial ?_
      refine aj_aald (f := 703) (g := 4) (o := 0) (i := u) (u := u) (E := "AntsTurn$Sheet") rfl rfl rfl ⟨by omega, by have z9 := hsh.1; show u < n 703 0; omega⟩ (hsh.2 u (by omega) (by omega)).1.1 (hsh.2 u (by omega) (by omega)).1.2 (ax_dec2 (i := .aaload) (n := 1) ok_X10_copy rfl) ?_
      refine aj_run (C := True) (pc' := 33) (la' := [some (.inr (.inr (some (1, 0)))), some (.inl s), some (.inl i), some (.inl u), some (.inl j), some (.inl m), some (.inr (.inr (some (4, s)))), some (.inr (.inr (some (4, u))))]) (st' := []) (M' := (P, g, r0, n)) ok_X10_copy true 1 rfl trivial ?_
      obtain ⟨-, q2, q3, q4, -⟩ := hsh.2 s (by omega) (by omega)
      obtain ⟨-, t2, t3, t4, -⟩ := hsh.2 u (by omega) (by omega)
      refine aj_run (C := True) (pc' := 35) (la' := [some (.inr (.inr (some (1, 0)))), some (.inl s), some (.inl i), some (.inl u), some (.inl j), some (.inl m), some (.inr (.inr (some (4, s)))), some (.inr (.inr (some (4, u))))]) (st' := [.inr (.inr (some (4, s)))]) (M' := (P, g, r0, n)) ok_X10_copy true 1 rfl trivial ?_
      refine aj_callV (av := []) (st := []) (f := 4) (o := s) (ci := 5) cal_X5_isMissing lk_10_219 ins_X5_isMissing rfl sel_X5_isMissing rfl (fun c9 h9 _ => by simpa [ax_ok] using h9) (cp_isMissing s _ _ _ _) ⟨by decide, by decide, by decide, by decide⟩ (Nat.le_of_ble_eq_true rfl) (ax_dec2 (i := .invokevirtual 219) (n := 3) ok_X10_copy rfl) (fun r M' hq => ?_)
      obtain ⟨rfl, rfl⟩ := hq
      change ax_J _ _ _ _ _ _ _ _ _ 38 [some (.inr (.inr (some (1, 0)))), some (.inl s), some (.inl i), some (.inl u), some (.inl j), some (.inl m), some (.inr (.inr (some (4, s)))), some (.inr (.inr (some (4, u))))] [.inl (bI (g 4 s 0 = -1))] (P, g, r0, n)
      refine aj_if_ne (tgt := 49) (ax_dec2 (i := .ifCond .ne 11) (n := 3) ok_X10_copy rfl) (by decide) (fun c3 => ?_) (fun c3 => ?_)
      · replace c3 := bI_n0 c3
        refine aj_run (C := True) (pc' := 51) (la' := [some (.inr (.inr (some (1, 0)))), some (.inl s), some (.inl i), some (.inl u), some (.inl j), some (.inl m), some (.inr (.inr (some (4, s)))), some (.inr (.inr (some (4, u))))]) (st' := [.inl (-11)]) (M' := (P, g, r0, n)) ok_X10_copy true 1 rfl trivial ?_
        refine aj_ret (r := some (.inl (-11))) (ax_dec2 (i := .ireturn) (n := 1) ok_X10_copy rfl) ⟨?_, ?_, by decide, by decide⟩ rfl
        · first | (exfalso; omega) | (have hcv : mCpy h s i u j m = (-11) := (by unfold mCpy; (repeat first | rw [if_pos (by omega)] | rw [if_neg (by omega)] | rw [bI_t (by omega)] | rw [bI_f (by omega)])); exact ⟨ax_si (by exact hcv.symm), g, rfl, (by show cWd P r0 n g (mCpyM h s i u j m); unfold mCpyM; rw [hcv, if_neg (by omega)]; exact hw), fun _ _ _ _ => rfl, by omega⟩)
        · exact ax_ro_i
      · replace c3 := bI_e0 c3
        refine aj_run (C := True) (pc' := 43) (la' := [some (.inr (.inr (some (1, 0)))), some (.inl s), some (.inl i), some (.inl u), some (.inl j), some (.inl m), some (.inr (.inr (some (4, s)))), some (.inr (.inr (some (4, u))))]) (st' := [.inr (.inr (some (4, u)))]) (M' := (P, g, r0, n)) ok_X10_copy true 1 rfl trivial ?_
        refine aj_callV (av := []) (st := []) (f := 4) (o := u) (ci := 5) cal_X5_isMissing lk_10_219 ins_X5_isMissing rfl sel_X5_isMissing rfl (fun c9 h9 _ => by simpa [ax_ok] using h9) (cp_isMissing u _ _ _ _) ⟨by decide, by decide, by decide, by decide⟩ (Nat.le_of_ble_eq_true rfl) (ax_dec2 (i := .invokevirtual 219) (n := 3) ok_X10_copy rfl) (fun r M' hq => ?_)
        obtain ⟨rfl, rfl⟩ := hq
        change ax_J _ _ _ _ _ _ _ _ _ 46 [some (.inr (.inr (some (1, 0)))), some (.inl s), some (.inl i), some (.inl u), some (.inl j), some (.inl m), some (.inr (.inr (some (4, s)))), some (.inr (.inr (some (4, u))))] [.inl (bI (g 4 u 0 = -1))] (P, g, r0, n)
        refine aj_if_eq (tgt := 52) (ax_dec2 (i := .ifCond .eq 6) (n := 3) ok_X10_copy rfl) (by decide) (fun c4 => ?_) (fun c4 => ?_)
        · replace c4 := bI_e0 c4
          refine aj_run (C := True) (pc' := 62) (la' := [some (.inr (.inr (some (1, 0)))), some (.inl s), some (.inl i), some (.inl u), some (.inl j), some (.inl m), some (.inr (.inr (some (4, s)))), some (.inr (.inr (some (4, u))))]) (st' := [.inl (g 4 u 0), .inl (g 4 s 0)]) (M' := (P, g, r0, n)) ok_X10_copy true 4 rfl trivial ?_
          refine aj_icmp_eq (tgt := 68) (ax_dec2 (i := .if_icmp .eq 6) (n := 3) ok_X10_copy rfl) (by decide) (fun c5 => ?_) (fun c5 => ?_)
          · refine aj_run (C := True) (pc' := 73) (la' := [some (.inr (.inr (some (1, 0)))), some (.inl s), some (.inl i), some (.inl u), some (.inl j), some (.inl m), some (.inr (.inr (some (4, s)))), some (.inr (.inr (some (4, u))))]) (st' := [.inl m, .inl i, .inr (.inr (some (4, s)))]) (M' := (P, g, r0, n)) ok_X10_copy true 3 rfl trivial ?_
            refine aj_callV (av := [.inl i, .inl m]) (st := []) (f := 4) (o := s) (ci := 5) cal_X5_has lk_10_280 ins_X5_has rfl sel_X5_has rfl (fun c9 h9 _ => by simpa [ax_ok] using h9) (cp_has s i m _ _ _ _ (by omega)) ⟨by decide, by decide, by decide, by decide⟩ (Nat.le_of_ble_eq_true rfl) (ax_dec2 (i := .invokevirtual 280) (n := 3) ok_X10_copy rfl) (fun r M' hq => ?_)
            obtain ⟨rfl, rfl⟩ := hq
            change ax_J _ _ _ _ _ _ _ _ _ 76 [some (.inr (.inr (some (1, 0)))), some (.inl s), some (.inl i), some (.inl u), some (.inl j), some (.inl m), some (.inr (.inr (some (4, s)))), some (.inr (.inr (some (4, u))))] [.inl (bI ((0 ≤ i ∧ 0 ≤ m) ∧ i ≤ g 4 s 1 ∧ m ≤ g 4 s 1 - i))] (P, g, r0, n)
            refine aj_if_eq (tgt := 91) (ax_dec2 (i := .ifCond .eq 15) (n := 3) ok_X10_copy rfl) (by decide) (fun c6 => ?_) (fun c6 => ?_)
            · replace c6 := bI_e0 c6
              refine aj_run (C := True) (pc' := 93) (la' := [some (.inr (.inr (some (1, 0)))), some (.inl s), some (.inl i), some (.inl u), some (.inl j), some (.inl m), some (.inr (.inr (some (4, s)))), some (.inr (.inr (some (4, u))))]) (st' := [.inl (-12)]) (M' := (P, g, r0, n)) ok_X10_copy true 1 rfl trivial ?_
              refine aj_ret (r := some (.inl (-12))) (ax_dec2 (i := .ireturn) (n := 1) ok_X10_copy rfl) ⟨?_, ?_, by decide, by decide⟩ rfl
              · first | (exfalso; omega) | (have hcv : mCpy h s i u j m = (-12) := (by unfold mCpy; (repeat first | rw [if_pos (by omega)] | rw [if_neg (by omega)] | rw [bI_t (by omega)] | rw [bI_f (by omega)])); exact ⟨ax_si (by exact hcv.symm), g, rfl, (by show cWd P r0 n g (mCpyM h s i u j m); unfold mCpyM; rw [hcv, if_neg (by omega)]; exact hw), fun _ _ _ _ => rfl, by omega⟩)
              · exact ax_ro_i
            · replace c6 := bI_n0 c6
              refine aj_run (C := True) (pc' := 85) (la' := [some (.inr (.inr (some (1, 0)))), some (.inl s), some (.inl i), some (.inl u), some (.inl j), some (.inl m), some (.inr (.inr (some (4, s)))), some (.inr (.inr (some (4, u))))]) (st' := [.inl m, .inl j, .inr (.inr (some (4, u)))]) (M' := (P, g, r0, n)) ok_X10_copy true 3 rfl trivial ?_
              refine aj_callV (av := [.inl j, .inl m]) (st := []) (f := 4) (o := u) (ci := 5) cal_X5_has lk_10_280 ins_X5_has rfl sel_X5_has rfl (fun c9 h9 _ => by simpa [ax_ok] using h9) (cp_has u j m _ _ _ _ (by omega)) ⟨by decide, by decide, by decide, by decide⟩ (Nat.le_of_ble_eq_true rfl) (ax_dec2 (i := .invokevirtual 280) (n := 3) ok_X10_copy rfl) (fun r M' hq => ?_)
              obtain ⟨rfl, rfl⟩ := hq
              change ax_J _ _ _ _ _ _ _ _ _ 88 [some (.inr (.inr (some (1, 0)))), some (.inl s), some (.inl i), some (.inl u), some (.inl j), some (.inl m), some (.inr (.inr (some (4, s)))), some (.inr (.inr (some (4, u))))] [.inl (bI ((0 ≤ j ∧ 0 ≤ m) ∧ j ≤ g 4 u 1 ∧ m ≤ g 4 u 1 - j))] (P, g, r0, n)
              refine aj_if_ne (tgt := 94) (ax_dec2 (i := .ifCond .ne 6) (n := 3) ok_X10_copy rfl) (by decide) (fun c7 => ?_) (fun c7 => ?_)
              · replace c7 := bI_n0 c7
                refine aj_run (C := True) (pc' := 109) (la' := [some (.inr (.inr (some (1, 0)))), some (.inl s), some (.inl i), some (.inl u), some (.inl j), some (.inl m), some (.inr (.inr (some (4, s)))), some (.inr (.inr (some (4, u))))]) (st' := [.inl m, .inl j, .inr (.inr (some (402, u))), .inl i, .inr (.inr (some (402, s)))]) (M' := (P, g, r0, n)) ok_X10_copy true 7 rfl trivial ?_
                refine aj_copy (f := 402) (f2 := 402) (o := s) (o2 := u) (sp := i) (dp := j) (n := m) (st := []) lk_10_283 (ax_T2 (i := 100) (by decide +kernel) rfl) (ax_T2 (i := 99) (by decide +kernel) rfl) (ax_T1 (i := 12) (by decide +kernel) rfl) rfl rfl rfl rfl rfl rfl (by omega) ⟨by omega, by show i + m ≤ n 402 s; omega⟩ ⟨by omega, by show j + m ≤ n 402 u; omega⟩ ⟨by decide, by decide⟩ (Nat.le_of_ble_eq_true rfl) (ax_dec2 (i := .invokestatic 283) (n := 3) ok_X10_copy rfl) ?_
                change ax_J _ _ _ _ _ _ _ _ _ 112 [some (.inr (.inr (some (1, 0)))), some (.inl s), some (.inl i), some (.inl u), some (.inl j), some (.inl m), some (.inr (.inr (some (4, s)))), some (.inr (.inr (some (4, u))))] [] (P, cpG g 402 s 402 u i j m, r0, n)
                refine aj_run (C := True) (pc' := 114) (la' := [some (.inr (.inr (some (1, 0)))), some (.inl s), some (.inl i), some (.inl u), some (.inl j), some (.inl m), some (.inr (.inr (some (4, s)))), some (.inr (.inr (some (4, u))))]) (st' := [.inl m]) (M' := (P, cpG g 402 s 402 u i j m, r0, n)) ok_X10_copy true 1 rfl trivial ?_
                refine aj_ret (r := some (.inl m)) (ax_dec2 (i := .ireturn) (n := 1) ok_X10_copy rfl) ⟨?_, ?_, by decide, by decide⟩ rfl
                · first | (exfalso; omega) | (have hcv : mCpy h s i u j m = m := (by unfold mCpy; (repeat first | rw [if_pos (by omega)] | rw [if_neg (by omega)] | rw [bI_t (by omega)] | rw [bI_f (by omega)])); exact ⟨ax_si (by exact hcv.symm), cpG g 402 s 402 u i j m, rfl, (by show cWd P r0 n _ (mCpyM h s i u j m); unfold mCpyM; rw [hcv, if_pos (by omega)]; exact cWd_copy hw (by omega) (by omega) (by omega) (by omega) (by omega)), fun f o j z => cpG_o (by unfold TCl at z; omega), by rw [show (cpG g 402 s 402 u i j m) 2 0 11 = g 2 0 11 from cpG_o (by omega)]; omega⟩)
                · exact ax_ro_i
              · replace c7 := bI_e0 c7
                refine aj_run (C := True) (pc' := 93) (la' := [some (.inr (.inr (some (1, 0)))), some (.inl s), some (.inl i), some (.inl u), some (.inl j), some (.inl m), some (.inr (.inr (some (4, s)))), some (.inr (.inr (some (4, u))))]) (st' := [.inl (-12)]) (M' := (P, g, r0, n)) ok_X10_copy true 1 rfl trivial ?_
                refine aj_ret (r := some (.inl (-12))) (ax_dec2 (i := .ireturn) (n := 1) ok_X10_copy rfl) ⟨?_, ?_, by decide, by decide⟩ rfl
                · first | (exfalso; omega) | (have hcv : mCpy h s i u j m = (-12) := (by unfold mCpy; (repeat first | rw [if_pos (by omega)] | rw [if_neg (by omega)] | rw [bI_t (by omega)] | rw [bI_f (by omega)])); exact ⟨ax_si (by exact hcv.symm), g, rfl, (by show cWd P r0 n g (mCpyM h s i u j m); unfold mCpyM; rw [hcv, if_neg (by omega)]; exact hw), fun _ _ _ _ => rfl, by omega⟩)
                · exact ax_ro_i
          · refine aj_run (C := True) (pc' := 67) (la' := [some (.inr (.inr (some (1, 0)))), some (.inl s), some (.inl i), some (.inl u), some (.inl j), some (.inl m), some (.inr (.inr (some (4, s)))), some (.inr (.inr (some (4, u))))]) (st' := [.inl (-13)]) (M' := (P, g, r0, n)) ok_X10_copy true 1 rfl trivial ?_
            refine aj_ret (r := some (.inl (-13))) (ax_dec2 (i := .ireturn) (n := 1) ok_X10_copy rfl) ⟨?_, ?_, by decide, by decide⟩ rfl
            · first | (exfalso; omega) | (have hcv : mCpy h s i u j m = (-13) := (by unfold mCpy; (repeat first | rw [if_pos (by omega)] | rw [if_neg (by omega)] | rw [bI_t (by omega)] | rw [bI_f (by omega)])); exact ⟨ax_si (by exact hcv.symm), g, rfl, (by show cWd P r0 n g (mCpyM h s i u j m); unfold mCpyM; rw [hcv, if_neg (by omega)]; exact hw), fun _ _ _ _ => rfl, by omega⟩)
            · exact ax_ro_i
        · replace c4 := bI_n0 c4
          refine aj_run (C := True) (pc' := 51) (la' := [some (.inr (.inr (some (1, 0)))), some (.inl s), some (.inl i), some (.inl u), some (.inl j), some (.inl m), some (.inr (.inr (some (4, s)))), some (.inr (.inr (some (4, u))))]) (st' := [.inl (-11)]) (M' := (P, g, r0, n)) ok_X10_copy true 1 rfl trivial ?_
          refine aj_ret (r := some (.inl (-11))) (ax_dec2 (i := .ireturn) (n := 1) ok_X10_copy rfl) ⟨?_, ?_, by decide, by decide⟩ rfl
          · first | (exfalso; omega) | (have hcv : mCpy h s i u j m = (-11) := (by unfold mCpy; (repeat first | rw [if_pos (by omega)] | rw [if_neg (by omega)] | rw [bI_t (by omega)] | rw [bI_f (by omega)])); exact ⟨ax_si (by exact hcv.symm), g, rfl, (by show cWd P r0 n g (mCpyM h s i u j m); unfold mCpyM; rw [hcv, if_neg (by omega)]; exact hw), fun _ _ _ _ => rfl, by omega⟩)
          · exact ax_ro_i
    · replace c2 := bI_e0 c2
      refine aj_run (C := True) (pc' := 16) (la' := [some (.inr (.inr (some (1, 0)))), some (.inl s), some (.inl i), some (.inl u), some (.inl j), some (.inl m), none, none]) (st' := [.inl (-2)]) (M' := (P, g, r0, n)) ok_X10_copy true 1 rfl trivial ?_
      refine aj_ret (r := some (.inl (-2))) (ax_dec2 (i := .ireturn) (n := 1) ok_X10_copy rfl) ⟨?_, ?_, by decide, by decide⟩ rfl
      · first | (exfalso; omega) | (have hcv : mCpy h s i u j m = (-2) := (by unfold mCpy; (repeat first | rw [if_pos (by omega)] | rw [if_neg (by omega)] | rw [bI_t (by omega)] | rw [bI_f (by omega)])); exact ⟨ax_si (by exact hcv.symm), g, rfl, (by show cWd P r0 n g (mCpyM h s i u j m); unfold mCpyM; rw [hcv, if_neg (by omega)]; exact hw), fun _ _ _ _ => rfl, by omega⟩)
      · exact ax_ro_i

