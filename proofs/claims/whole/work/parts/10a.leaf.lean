def bI (p : Prop) [Decidable p] : Int := if p then 1 else 0
theorem bI_t {p : Prop} [Decidable p] (h : p) : bI p = 1 := if_pos h
theorem bI_f {p : Prop} [Decidable p] (h : ¬ p) : bI p = 0 := if_neg h
theorem bI_01 {p : Prop} [Decidable p] : bI p = 0 ∨ bI p = 1 := by unfold bI; split <;> simp
theorem ax_ro_b {x : Int} (h : x = 0 ∨ x = 1) : ax_ro (some .boolean) (some (.inl x)) := h
theorem ax_ro_i {x : Int} : ax_ro (some .int) (some (.inl x)) := trivial
theorem ax_tsw_d {dflt lo hi : Int} {offs : Array Int} (x : Int) (h : (List.range (hi - lo + 1).toNat).all (fun i => true) = true) (h2 : True) (h3 : x < lo ∨ hi < x) : ax_tsw dflt lo hi offs x = dflt := by
  unfold ax_tsw
  rcases h3 with h3 | h3
  · rw [if_pos h3]
  · by_cases q : x < lo
    · rw [if_pos q]
    · rw [if_neg q, if_pos h3]
set_option maxRecDepth 100000 in
set_option maxHeartbeats 4000000 in
theorem sp_isIn (v lo hi : Int) (P : Nat → Int → Prop) (g : Nat → Int → Int → Int) (r0 : Nat → Int → Int → Option (Nat × Int)) (n : Nat → Int → Int) : ax_S yX11_isIn cX11_isIn 3 (some FieldType.boolean) 0 0 0 [.inl v, .inl lo, .inl hi] (P, g, r0, n) (fun r M' => r = some (.inl (bI (lo ≤ v ∧ v ≤ hi))) ∧ M' = (P, g, r0, n)) := by
  refine ax_S_of (own := 11) (by decide) rfl (fun h => absurd h (by decide)) rfl (Nat.le_of_ble_eq_true rfl) ?_
  change ax_J _ _ _ _ _ _ _ _ _ _ [some (.inl v), some (.inl lo), some (.inl hi)] _ _
  refine aj_run (C := True) (pc' := 2) (la' := [some (.inl v), some (.inl lo), some (.inl hi)]) (st' := [.inl lo, .inl v]) (M' := (P, g, r0, n)) ok_X11_isIn true 2 rfl trivial ?_
  refine aj_icmp_lt (tgt := 14) (ax_dec2 (i := .if_icmp .lt 12) (n := 3) ok_X11_isIn rfl) (by decide) (fun c1 => ?_) (fun c1 => ?_)
  · refine aj_run (C := True) (pc' := 15) (la' := [some (.inl v), some (.inl lo), some (.inl hi)]) (st' := [.inl 0]) (M' := (P, g, r0, n)) ok_X11_isIn true 1 rfl trivial ?_
    refine aj_ret (r := some (.inl 0)) (ax_dec2 (i := .ireturn) (n := 1) ok_X11_isIn rfl) ⟨?_, ?_, by decide, by decide⟩ rfl
    · exact ⟨by first | rw [bI_t (by omega)] | rw [bI_f (by omega)], rfl⟩
    · exact ax_ro_b (by decide)
  · refine aj_run (C := True) (pc' := 7) (la' := [some (.inl v), some (.inl lo), some (.inl hi)]) (st' := [.inl hi, .inl v]) (M' := (P, g, r0, n)) ok_X11_isIn true 2 rfl trivial ?_
    refine aj_icmp_gt (tgt := 14) (ax_dec2 (i := .if_icmp .gt 7) (n := 3) ok_X11_isIn rfl) (by decide) (fun c2 => ?_) (fun c2 => ?_)
    · refine aj_run (C := True) (pc' := 15) (la' := [some (.inl v), some (.inl lo), some (.inl hi)]) (st' := [.inl 0]) (M' := (P, g, r0, n)) ok_X11_isIn true 1 rfl trivial ?_
      refine aj_ret (r := some (.inl 0)) (ax_dec2 (i := .ireturn) (n := 1) ok_X11_isIn rfl) ⟨?_, ?_, by decide, by decide⟩ rfl
      · exact ⟨by first | rw [bI_t (by omega)] | rw [bI_f (by omega)], rfl⟩
      · exact ax_ro_b (by decide)
    · refine aj_run (C := True) (pc' := 15) (la' := [some (.inl v), some (.inl lo), some (.inl hi)]) (st' := [.inl 1]) (M' := (P, g, r0, n)) ok_X11_isIn true 2 rfl trivial ?_
      refine aj_ret (r := some (.inl 1)) (ax_dec2 (i := .ireturn) (n := 1) ok_X11_isIn rfl) ⟨?_, ?_, by decide, by decide⟩ rfl
      · exact ⟨by first | rw [bI_t (by omega)] | rw [bI_f (by omega)], rfl⟩
      · exact ax_ro_b (by decide)

set_option maxRecDepth 100000 in
set_option maxHeartbeats 4000000 in
theorem sp_isAnt (a : Int) (P : Nat → Int → Prop) (g : Nat → Int → Int → Int) (r0 : Nat → Int → Int → Option (Nat × Int)) (n : Nat → Int → Int) (h2 : 0 ≤ g 50 0 2 ∧ g 50 0 2 ≤ 7) : ax_S yX11_isAnt cX11_isAnt 2 (some FieldType.boolean) 1 0 0 [.inr (.inr (some (50, 0))), .inl a] (P, g, r0, n) (fun r M' => r = some (.inl (bI (0 ≤ a ∧ a < g 50 0 2))) ∧ M' = (P, g, r0, n)) := by
  refine ax_S_of (own := 11) (by decide) rfl (fun h => absurd h (by decide)) rfl (Nat.le_of_ble_eq_true rfl) ?_
  change ax_J _ _ _ _ _ _ _ _ _ _ [some (.inr (.inr (some (50, 0)))), some (.inl a)] _ _
  refine aj_run (C := (-2147483648 ≤ (g 50 0 2) - 1 ∧ (g 50 0 2) - 1 ≤ 2147483647) ∧ True) (pc' := 8) (la' := [some (.inr (.inr (some (50, 0)))), some (.inl a)]) (st' := [.inl ((g 50 0 2) - 1), .inl 0, .inl a]) (M' := (P, g, r0, n)) ok_X11_isAnt true 6 rfl (by refine ⟨?_, trivial⟩ <;> (omega)) ?_
  refine aj_callS (av := [.inl a, .inl 0, .inl ((g 50 0 2) - 1)]) (st := []) cal_X11_isIn lk_11_7 stc_X11_isIn (sp_isIn a 0 ((g 50 0 2) - 1) _ _ _ _) ⟨by decide, by decide, by decide, by decide⟩ (by decide) (ax_dec2 (i := .invokestatic 7) (n := 3) ok_X11_isAnt rfl) (fun r M' hq => ?_)
  obtain ⟨rfl, rfl⟩ := hq
  change ax_J _ _ _ _ _ _ _ _ _ 11 [some (.inr (.inr (some (50, 0)))), some (.inl a)] [.inl (bI (0 ≤ a ∧ a ≤ ((g 50 0 2) - 1)))] (P, g, r0, n)
  refine aj_ret (r := some (.inl (bI (0 ≤ a ∧ a ≤ ((g 50 0 2) - 1))))) (ax_dec2 (i := .ireturn) (n := 1) ok_X11_isAnt rfl) ⟨?_, ?_, by decide, by decide⟩ rfl
  · exact ⟨by congr 3; simp only [eq_iff_iff]; omega, rfl⟩
  · exact ax_ro_b bI_01

