set_option maxRecDepth 100000 in
set_option maxHeartbeats 4000000 in
theorem cp_set (a w v : Int) (P : Nat → Int → Prop) (g : Nat → Int → Int → Int) (r0 : Nat → Int → Int → Option (Nat × Int)) (n : Nat → Int → Int) (h : Nat → Int → Int → Int) (hw : cWd P r0 n g h) (hst : 0 ≤ g 2 0 11 ∧ g 2 0 11 ≤ 100000) : ax_S yX10_set cX10_set 5 (some FieldType.int) 1 0 0 [.inr (.inr (some (1, 0))), .inl a, .inl w, .inl v] (P, g, r0, n) (fun r M' => r = some (.inl (mSet h a w v).1) ∧ ∃ g', M' = (P, g', r0, n) ∧ cWd P r0 n g' (mSet h a w v).2 ∧ cFr TCl g' g ∧ g' 2 0 11 ≤ g 2 0 11 + 1) := by
  have hs := cWd_sta hw
  have hT := hw.2.2.1
  have hTp := hw.2.2.2.2.2.2
  have hT2 := hT.2.1
  have hTp2 := hTp.2.1
  have hAs := hs.1.1
  have hPs := hs.1.2.1
  have hOs := hs.1.2.2
  have hP1 := hPs.1
  have hA1 := hAs.1
  have hsz := hOs.2.2.1
  have hxz := hPs.1.1
  have hkk : 2 ≤ g 2 0 2 ∧ g 2 0 2 ≤ 40 := by rw [hP1.2.1]; exact hOs.1
  have hst2 : 0 ≤ g 2 0 11 ∧ g 2 0 11 ≤ 1000000 := by omega
  have hmo : mMost h w = (if w = 0 then g 2 0 2 - 1 else if w = 1 then 1 else if w = 2 then 20 else 9) := by unfold mMost; rw [hP1.2.1]
  refine ax_S_of (own := 10) (by decide) rfl (fun h => absurd h (by decide)) rfl (Nat.le_of_ble_eq_true rfl) ?_
  change ax_J _ _ _ _ _ _ _ _ _ _ [some (.inr (.inr (some (1, 0)))), some (.inl a), some (.inl w), some (.inl v), none] _ _
  refine aj_run (C := True) (pc' := 2) (la' := [some (.inr (.inr (some (1, 0)))), some (.inl a), some (.inl w), some (.inl v), none]) (st' := [.inl a, .inr (.inr (some (1, 0)))]) (M' := (P, g, r0, n)) ok_X10_set true 2 rfl trivial ?_
  refine aj_callV (av := [.inl a]) (st := []) (f := 1) (o := 0) (ci := 10) cal_X10_isAnt lk_10_122 ins_X10_isAnt rfl sel_X10_isAnt rfl (fun c9 h9 _ => by simpa [ax_ok] using h9) (cp_isAnt a _ _ _ _ hs.2.2.2) ⟨by decide, by decide, by decide, by decide⟩ (Nat.le_of_ble_eq_true rfl) (ax_dec2 (i := .invokevirtual 122) (n := 3) ok_X10_set rfl) (fun r M' hq => ?_)
  obtain ⟨rfl, rfl⟩ := hq
  change ax_J _ _ _ _ _ _ _ _ _ 5 [some (.inr (.inr (some (1, 0)))), some (.inl a), some (.inl w), some (.inl v), none] [.inl (bI (0 ≤ a ∧ a < g 2 0 1))] (P, g, r0, n)
  refine aj_if_eq (tgt := 26) (ax_dec2 (i := .ifCond .eq 21) (n := 3) ok_X10_set rfl) (by decide) (fun c1 => ?_) (fun c1 => ?_)
  · replace c1 := bI_e0 c1
    refine aj_run (C := True) (pc' := 28) (la' := [some (.inr (.inr (some (1, 0)))), some (.inl a), some (.inl w), some (.inl v), none]) (st' := [.inl (-2)]) (M' := (P, g, r0, n)) ok_X10_set true 1 rfl trivial ?_
    refine aj_ret (r := some (.inl (-2))) (ax_dec2 (i := .ireturn) (n := 1) ok_X10_set rfl) ⟨?_, ?_, by decide, by decide⟩ rfl
    · first | (exfalso; omega) | exact ⟨ax_si (by unfold mSet; rw [if_neg (by rw [hmo]; omega)]), g, rfl, by unfold mSet; rw [if_neg (by rw [hmo]; omega)]; exact hw, fun _ _ _ _ => rfl, by omega⟩
    · exact ax_ro_i
  · replace c1 := bI_n0 c1
    refine aj_run (C := True) (pc' := 9) (la' := [some (.inr (.inr (some (1, 0)))), some (.inl a), some (.inl w), some (.inl v), none]) (st' := [.inl w]) (M' := (P, g, r0, n)) ok_X10_set true 1 rfl trivial ?_
    refine aj_if_lt (tgt := 26) (ax_dec2 (i := .ifCond .lt 17) (n := 3) ok_X10_set rfl) (by decide) (fun c2 => ?_) (fun c2 => ?_)
    · refine aj_run (C := True) (pc' := 28) (la' := [some (.inr (.inr (some (1, 0)))), some (.inl a), some (.inl w), some (.inl v), none]) (st' := [.inl (-2)]) (M' := (P, g, r0, n)) ok_X10_set true 1 rfl trivial ?_
      refine aj_ret (r := some (.inl (-2))) (ax_dec2 (i := .ireturn) (n := 1) ok_X10_set rfl) ⟨?_, ?_, by decide, by decide⟩ rfl
      · first | (exfalso; omega) | exact ⟨ax_si (by unfold mSet; rw [if_neg (by rw [hmo]; omega)]), g, rfl, by unfold mSet; rw [if_neg (by rw [hmo]; omega)]; exact hw, fun _ _ _ _ => rfl, by omega⟩
      · exact ax_ro_i
    · refine aj_run (C := True) (pc' := 14) (la' := [some (.inr (.inr (some (1, 0)))), some (.inl a), some (.inl w), some (.inl v), none]) (st' := [.inl 4, .inl w]) (M' := (P, g, r0, n)) ok_X10_set true 2 rfl trivial ?_
      refine aj_icmp_ge (tgt := 26) (ax_dec2 (i := .if_icmp .ge 12) (n := 3) ok_X10_set rfl) (by decide) (fun c3 => ?_) (fun c3 => ?_)
      · refine aj_run (C := True) (pc' := 28) (la' := [some (.inr (.inr (some (1, 0)))), some (.inl a), some (.inl w), some (.inl v), none]) (st' := [.inl (-2)]) (M' := (P, g, r0, n)) ok_X10_set true 1 rfl trivial ?_
        refine aj_ret (r := some (.inl (-2))) (ax_dec2 (i := .ireturn) (n := 1) ok_X10_set rfl) ⟨?_, ?_, by decide, by decide⟩ rfl
        · first | (exfalso; omega) | exact ⟨ax_si (by unfold mSet; rw [if_neg (by rw [hmo]; omega)]), g, rfl, by unfold mSet; rw [if_neg (by rw [hmo]; omega)]; exact hw, fun _ _ _ _ => rfl, by omega⟩
        · exact ax_ro_i
      · refine aj_run (C := True) (pc' := 20) (la' := [some (.inr (.inr (some (1, 0)))), some (.inl a), some (.inl w), some (.inl v), none]) (st' := [.inl v, .inl w, .inr (.inr (some (1, 0)))]) (M' := (P, g, r0, n)) ok_X10_set true 3 rfl trivial ?_
        refine aj_callV (av := [.inl w, .inl v]) (st := []) (f := 1) (o := 0) (ci := 10) cal_X10_isAllowed lk_10_98 ins_X10_isAllowed rfl sel_X10_isAllowed rfl (fun c9 h9 _ => by simpa [ax_ok] using h9) (cp_isAllowed w v _ _ _ _ hs.2.2.2 hkk) ⟨by decide, by decide, by decide, by decide⟩ (Nat.le_of_ble_eq_true rfl) (ax_dec2 (i := .invokevirtual 98) (n := 3) ok_X10_set rfl) (fun r M' hq => ?_)
        obtain ⟨rfl, rfl⟩ := hq
        change ax_J _ _ _ _ _ _ _ _ _ 23 [some (.inr (.inr (some (1, 0)))), some (.inl a), some (.inl w), some (.inl v), none] [.inl (bI ((if w = 0 then 1 else 0) ≤ v ∧ v ≤ (if w = 0 then g 2 0 2 - 1 else if w = 1 then 1 else if w = 2 then 20 else 9)))] (P, g, r0, n)
        refine aj_if_ne (tgt := 29) (ax_dec2 (i := .ifCond .ne 6) (n := 3) ok_X10_set rfl) (by decide) (fun c4 => ?_) (fun c4 => ?_)
        · replace c4 := bI_n0 c4
          obtain ⟨e0, e1, e2, e3, e4⟩ := hPs.2 a (by omega) (by omega)
          have h54 := (hAs.2 a (by omega) (by omega)).2.1.1
          have hto : g 500 a w = mTold h a w := by
              have hw4 : w = 0 ∨ w = 1 ∨ w = 2 ∨ w = 3 := by omega
              have hai : 0 ≤ a ∧ a < h 50 0 2 := by omega
              rcases hw4 with rfl | rfl | rfl | rfl <;> (unfold mTold; rw [if_pos hai]; simp; assumption)
          refine aj_run (C := True) (pc' := 30) (la' := [some (.inr (.inr (some (1, 0)))), some (.inl a), some (.inl w), some (.inl v), none]) (st' := [.inr (.inr (some (1, 0)))]) (M' := (P, g, r0, n)) ok_X10_set true 1 rfl trivial ?_
          refine aj_getR (f := 1) (k := 0) (g := 2) (o := 0) (u := 0) (ax_lk_ok (q := (1, 0)) rfl) rfl rfl hs.2.2.2.1 hs.2.2.2.2 (ax_dec2 (i := .getfield 10) (n := 3) ok_X10_set rfl) ?_
          refine aj_run (C := True) (pc' := 37) (la' := [some (.inr (.inr (some (1, 0)))), some (.inl a), some (.inl w), some (.inl v), none]) (st' := [.inl a, .inr (.inr (some (200, 0)))]) (M' := (P, g, r0, n)) ok_X10_set true 2 rfl trivial ?_
          refine aj_aald (f := 200) (g := 5) (o := 0) (i := a) (u := a) (E := "AntsTurn$Ant") rfl rfl rfl ⟨by omega, by have z9 := hAs.1.1; show a < n 200 0; omega⟩ (hAs.2 a (by omega) (by omega)).1.1 (hAs.2 a (by omega) (by omega)).1.2 (ax_dec2 (i := .aaload) (n := 1) ok_X10_set rfl) ?_
          refine aj_run (C := (0 ≤ w ∧ w < n 500 a) ∧ True) (pc' := 46) (la' := [some (.inr (.inr (some (1, 0)))), some (.inl a), some (.inl w), some (.inl v), some (.inl (g 500 a w))]) (st' := [.inr (.inr (some (1, 0)))]) (M' := (P, g, r0, n)) ok_X10_set true 5 rfl (by refine ⟨?_, trivial⟩ <;> (omega)) ?_
          refine aj_getR (f := 1) (k := 0) (g := 2) (o := 0) (u := 0) (ax_lk_ok (q := (1, 0)) rfl) rfl rfl hs.2.2.2.1 hs.2.2.2.2 (ax_dec2 (i := .getfield 10) (n := 3) ok_X10_set rfl) ?_
          refine aj_run (C := True) (pc' := 53) (la' := [some (.inr (.inr (some (1, 0)))), some (.inl a), some (.inl w), some (.inl v), some (.inl (g 500 a w))]) (st' := [.inl a, .inr (.inr (some (200, 0)))]) (M' := (P, g, r0, n)) ok_X10_set true 2 rfl trivial ?_
          refine aj_aald (f := 200) (g := 5) (o := 0) (i := a) (u := a) (E := "AntsTurn$Ant") rfl rfl rfl ⟨by omega, by have z9 := hAs.1.1; show a < n 200 0; omega⟩ (hAs.2 a (by omega) (by omega)).1.1 (hAs.2 a (by omega) (by omega)).1.2 (ax_dec2 (i := .aaload) (n := 1) ok_X10_set rfl) ?_
          refine aj_run (C := (0 ≤ w ∧ w < n 500 a) ∧ True) (pc' := 61) (la' := [some (.inr (.inr (some (1, 0)))), some (.inl a), some (.inl w), some (.inl v), some (.inl (g 500 a w))]) (st' := [.inr (.inr (some (1, 0)))]) (M' := (P, ax_u3 g 500 a w v, r0, n)) ok_X10_set true 5 rfl (by refine ⟨?_, trivial⟩ <;> (omega)) ?_
          refine aj_getR (f := 1) (k := 0) (g := 2) (o := 0) (u := 0) (ax_lk_ok (q := (1, 0)) rfl) rfl rfl hs.2.2.2.1 hs.2.2.2.2 (ax_dec2 (i := .getfield 10) (n := 3) ok_X10_set rfl) ?_
          refine aj_callV (av := []) (st := []) (f := 2) (o := 0) (ci := 2) cal_X2_forget lk_10_77 ins_X2_forget rfl sel_X2_forget rfl (fun c9 h9 _ => by simpa [ax_ok] using h9) (cp_forget _ _ _ _ (by exact hst2)) ⟨by decide, by decide, by decide, by decide⟩ (Nat.le_of_ble_eq_true rfl) (ax_dec2 (i := .invokevirtual 77) (n := 3) ok_X10_set rfl) (fun r M' hq => ?_)
          obtain ⟨rfl, rfl⟩ := hq
          change ax_J _ _ _ _ _ _ _ _ _ 67 [some (.inr (.inr (some (1, 0)))), some (.inl a), some (.inl w), some (.inl v), some (.inl (g 500 a w))] [] (P, ax_u3 (ax_u3 g 500 a w v) 2 0 11 (g 2 0 11 + 1), r0, n)
          refine aj_run (C := True) (pc' := 69) (la' := [some (.inr (.inr (some (1, 0)))), some (.inl a), some (.inl w), some (.inl v), some (.inl (g 500 a w))]) (st' := [.inl (g 500 a w)]) (M' := (P, ax_u3 (ax_u3 g 500 a w v) 2 0 11 (g 2 0 11 + 1), r0, n)) ok_X10_set true 1 rfl trivial ?_
          refine aj_ret (r := some (.inl (g 500 a w))) (ax_dec2 (i := .ireturn) (n := 1) ok_X10_set rfl) ⟨?_, ?_, by decide, by decide⟩ rfl
          · exact ⟨ax_si (by unfold mSet; rw [if_pos (by rw [hmo]; omega)]; exact hto), ax_u3 (ax_u3 g 500 a w v) 2 0 11 (g 2 0 11 + 1), rfl, by unfold mSet; rw [if_pos (by rw [hmo]; omega)]; exact cWd_set hw (by omega) (by omega) (by rw [hmo]; omega), fun f o j z => by (repeat rw [ax_u3_n (by unfold TCl at z; omega)]), Int.le_of_eq ax_u3_s⟩
          · exact ax_ro_i
        · replace c4 := bI_e0 c4
          refine aj_run (C := True) (pc' := 28) (la' := [some (.inr (.inr (some (1, 0)))), some (.inl a), some (.inl w), some (.inl v), none]) (st' := [.inl (-2)]) (M' := (P, g, r0, n)) ok_X10_set true 1 rfl trivial ?_
          refine aj_ret (r := some (.inl (-2))) (ax_dec2 (i := .ireturn) (n := 1) ok_X10_set rfl) ⟨?_, ?_, by decide, by decide⟩ rfl
          · first | (exfalso; omega) | exact ⟨ax_si (by unfold mSet; rw [if_neg (by rw [hmo]; omega)]), g, rfl, by unfold mSet; rw [if_neg (by rw [hmo]; omega)]; exact hw, fun _ _ _ _ => rfl, by omega⟩
          · exact ax_ro_i

set_option maxRecDepth 100000 in
set_option maxHeartbeats 4000000 in
theorem cp_lengthen (v : Int) (P : Nat → Int → Prop) (g : Nat → Int → Int → Int) (r0 : Nat → Int → Int → Option (Nat × Int)) (n : Nat → Int → Int) (h : Nat → Int → Int → Int) (hw : cWd P r0 n g h) (hst : 0 ≤ g 2 0 11 ∧ g 2 0 11 ≤ 100000) : ax_S yX10_lengthen cX10_lengthen 3 (some FieldType.int) 1 0 0 [.inr (.inr (some (1, 0))), .inl v] (P, g, r0, n) (fun r M' => r = some (.inl (mPlank h 0 v).1) ∧ ∃ g', M' = (P, g', r0, n) ∧ cWd P r0 n g' (mPlank h 0 v).2 ∧ cFr TCl g' g ∧ g' 2 0 11 ≤ g 2 0 11 + 1) := by
  have hs := cWd_sta hw
  have hT := hw.2.2.1
  have hTp := hw.2.2.2.2.2.2
  have hT2 := hT.2.1
  have hTp2 := hTp.2.1
  have hAs := hs.1.1
  have hPs := hs.1.2.1
  have hOs := hs.1.2.2
  have hP1 := hPs.1
  have hA1 := hAs.1
  have hsz := hOs.2.2.1
  have hxz := hPs.1.1
  have hkk : 2 ≤ g 2 0 2 ∧ g 2 0 2 ≤ 40 := by rw [hP1.2.1]; exact hOs.1
  have hst2 : 0 ≤ g 2 0 11 ∧ g 2 0 11 ≤ 1000000 := by omega
  refine ax_S_of (own := 10) (by decide) rfl (fun h => absurd h (by decide)) rfl (Nat.le_of_ble_eq_true rfl) ?_
  change ax_J _ _ _ _ _ _ _ _ _ _ [some (.inr (.inr (some (1, 0)))), some (.inl v), none] _ _
  refine aj_run (C := True) (pc' := 2) (la' := [some (.inr (.inr (some (1, 0)))), some (.inl v), none]) (st' := [.inl 2, .inl v]) (M' := (P, g, r0, n)) ok_X10_lengthen true 2 rfl trivial ?_
  refine aj_icmp_lt (tgt := 11) (ax_dec2 (i := .if_icmp .lt 9) (n := 3) ok_X10_lengthen rfl) (by decide) (fun c1 => ?_) (fun c1 => ?_)
  · refine aj_run (C := True) (pc' := 13) (la' := [some (.inr (.inr (some (1, 0)))), some (.inl v), none]) (st' := [.inl (-2)]) (M' := (P, g, r0, n)) ok_X10_lengthen true 1 rfl trivial ?_
    refine aj_ret (r := some (.inl (-2))) (ax_dec2 (i := .ireturn) (n := 1) ok_X10_lengthen rfl) ⟨?_, ?_, by decide, by decide⟩ rfl
    · exact ⟨ax_si (by unfold mPlank; rw [if_pos rfl, if_neg (by omega)]), g, rfl, by unfold mPlank; rw [if_pos rfl, if_neg (by omega)]; exact hw, fun _ _ _ _ => rfl, by omega⟩
    · exact ax_ro_i
  · refine aj_run (C := True) (pc' := 8) (la' := [some (.inr (.inr (some (1, 0)))), some (.inl v), none]) (st' := [.inl 40, .inl v]) (M' := (P, g, r0, n)) ok_X10_lengthen true 2 rfl trivial ?_
    refine aj_icmp_le (tgt := 14) (ax_dec2 (i := .if_icmp .le 6) (n := 3) ok_X10_lengthen rfl) (by decide) (fun c2 => ?_) (fun c2 => ?_)
    · refine aj_run (C := True) (pc' := 16) (la' := [some (.inr (.inr (some (1, 0)))), some (.inl v), some (.inl 0)]) (st' := []) (M' := (P, g, r0, n)) ok_X10_lengthen true 2 rfl trivial ?_
      refine aj_loop (σ := (Int)) (fun xL => 0 ≤ xL ∧ xL ≤ g 2 0 1 ∧ ∀ a, 0 ≤ a → a < xL → h 104 0 a ≤ v - 1) (fun xL => (g 2 0 1 - xL).toNat) (fun xL => [some (.inr (.inr (some (1, 0)))), some (.inl v), some (.inl xL)]) (fun xL => []) (fun xL => (P, g, r0, n)) ?_ (0) ?_
      rotate_left
      · (try dsimp only); exact ⟨by omega, by omega, fun a z1 z2 => by omega⟩
      rintro i hI ih16
      try dsimp only at hI ih16
      obtain ⟨i1, i2, i3⟩ := hI
      change ax_J _ _ _ _ _ _ _ _ _ 16 [some (.inr (.inr (some (1, 0)))), some (.inl v), some (.inl i)] [] (P, g, r0, n)
      refine aj_run (C := True) (pc' := 18) (la' := [some (.inr (.inr (some (1, 0)))), some (.inl v), some (.inl i)]) (st' := [.inr (.inr (some (1, 0))), .inl i]) (M' := (P, g, r0, n)) ok_X10_lengthen true 2 rfl trivial ?_
      refine aj_getR (f := 1) (k := 0) (g := 2) (o := 0) (u := 0) (ax_lk_ok (q := (1, 0)) rfl) rfl rfl hs.2.2.2.1 hs.2.2.2.2 (ax_dec2 (i := .getfield 10) (n := 3) ok_X10_lengthen rfl) ?_
      refine aj_run (C := True) (pc' := 24) (la' := [some (.inr (.inr (some (1, 0)))), some (.inl v), some (.inl i)]) (st' := [.inl (g 2 0 1), .inl i]) (M' := (P, g, r0, n)) ok_X10_lengthen true 1 rfl trivial ?_
      refine aj_icmp_ge (tgt := 56) (ax_dec2 (i := .if_icmp .ge 32) (n := 3) ok_X10_lengthen rfl) (by decide) (fun c3 => ?_) (fun c3 => ?_)
      · refine aj_run (C := True) (pc' := 57) (la' := [some (.inr (.inr (some (1, 0)))), some (.inl v), some (.inl i)]) (st' := [.inr (.inr (some (1, 0)))]) (M' := (P, g, r0, n)) ok_X10_lengthen true 1 rfl trivial ?_
        refine aj_getR (f := 1) (k := 0) (g := 2) (o := 0) (u := 0) (ax_lk_ok (q := (1, 0)) rfl) rfl rfl hs.2.2.2.1 hs.2.2.2.2 (ax_dec2 (i := .getfield 10) (n := 3) ok_X10_lengthen rfl) ?_
        refine aj_run (C := True) (pc' := 65) (la' := [some (.inr (.inr (some (1, 0)))), some (.inl v), some (.inl (g 2 0 2))]) (st' := [.inr (.inr (some (1, 0)))]) (M' := (P, g, r0, n)) ok_X10_lengthen true 3 rfl trivial ?_
        refine aj_getR (f := 1) (k := 0) (g := 2) (o := 0) (u := 0) (ax_lk_ok (q := (1, 0)) rfl) rfl rfl hs.2.2.2.1 hs.2.2.2.2 (ax_dec2 (i := .getfield 10) (n := 3) ok_X10_lengthen rfl) ?_
        refine aj_run (C := True) (pc' := 73) (la' := [some (.inr (.inr (some (1, 0)))), some (.inl v), some (.inl (g 2 0 2))]) (st' := [.inr (.inr (some (1, 0)))]) (M' := (P, ax_u3 g 2 0 2 v, r0, n)) ok_X10_lengthen true 3 rfl trivial ?_
        refine aj_getR (f := 1) (k := 0) (g := 2) (o := 0) (u := 0) (ax_lk_ok (q := (1, 0)) rfl) rfl rfl hs.2.2.2.1 hs.2.2.2.2 (ax_dec2 (i := .getfield 10) (n := 3) ok_X10_lengthen rfl) ?_
        refine aj_callV (av := []) (st := []) (f := 2) (o := 0) (ci := 2) cal_X2_forget lk_10_77 ins_X2_forget rfl sel_X2_forget rfl (fun c9 h9 _ => by simpa [ax_ok] using h9) (cp_forget _ _ _ _ (by exact hst2)) ⟨by decide, by decide, by decide, by decide⟩ (Nat.le_of_ble_eq_true rfl) (ax_dec2 (i := .invokevirtual 77) (n := 3) ok_X10_lengthen rfl) (fun r M' hq => ?_)
        obtain ⟨rfl, rfl⟩ := hq
        change ax_J _ _ _ _ _ _ _ _ _ 79 [some (.inr (.inr (some (1, 0)))), some (.inl v), some (.inl (g 2 0 2))] [] (P, ax_u3 (ax_u3 g 2 0 2 v) 2 0 11 (g 2 0 11 + 1), r0, n)
        refine aj_run (C := True) (pc' := 80) (la' := [some (.inr (.inr (some (1, 0)))), some (.inl v), some (.inl (g 2 0 2))]) (st' := [.inl (g 2 0 2)]) (M' := (P, ax_u3 (ax_u3 g 2 0 2 v) 2 0 11 (g 2 0 11 + 1), r0, n)) ok_X10_lengthen true 1 rfl trivial ?_
        refine aj_ret (r := some (.inl (g 2 0 2))) (ax_dec2 (i := .ireturn) (n := 1) ok_X10_lengthen rfl) ⟨?_, ?_, by decide, by decide⟩ rfl
        · (have hyes : ∀ a, 0 ≤ a → a < h 50 0 2 → h 104 0 a ≤ v - 1 := fun a z1 z2 => i3 a z1 (by omega); exact ⟨ax_si (by unfold mPlank; rw [if_pos rfl, if_pos (by omega), if_pos hyes]; omega), ax_u3 (ax_u3 g 2 0 2 v) 2 0 11 (g 2 0 11 + 1), rfl, by unfold mPlank; rw [if_pos rfl, if_pos (by omega), if_pos hyes]; exact cWd_knots hw (by omega) hyes, fun f o j z => by (repeat rw [ax_u3_n (by unfold TCl at z; omega)]), Int.le_of_eq ax_u3_s⟩)
        · exact ax_ro_i
      · obtain ⟨e0, e1, e2, e3, e4⟩ := hPs.2 i i1 (by omega)
        have h54 := (hAs.2 i (by omega) (by omega)).2.1.1
        refine aj_run (C := True) (pc' := 28) (la' := [some (.inr (.inr (some (1, 0)))), some (.inl v), some (.inl i)]) (st' := [.inr (.inr (some (1, 0)))]) (M' := (P, g, r0, n)) ok_X10_lengthen true 1 rfl trivial ?_
        refine aj_getR (f := 1) (k := 0) (g := 2) (o := 0) (u := 0) (ax_lk_ok (q := (1, 0)) rfl) rfl rfl hs.2.2.2.1 hs.2.2.2.2 (ax_dec2 (i := .getfield 10) (n := 3) ok_X10_lengthen rfl) ?_
        refine aj_run (C := True) (pc' := 35) (la' := [some (.inr (.inr (some (1, 0)))), some (.inl v), some (.inl i)]) (st' := [.inl i, .inr (.inr (some (200, 0)))]) (M' := (P, g, r0, n)) ok_X10_lengthen true 2 rfl trivial ?_
        refine aj_aald (f := 200) (g := 5) (o := 0) (i := i) (u := i) (E := "AntsTurn$Ant") rfl rfl rfl ⟨by omega, by have z9 := hAs.1.1; show i < n 200 0; omega⟩ (hAs.2 i (by omega) (by omega)).1.1 (hAs.2 i (by omega) (by omega)).1.2 (ax_dec2 (i := .aaload) (n := 1) ok_X10_lengthen rfl) ?_
        refine aj_run (C := (0 ≤ 0 ∧ 0 < n 500 i) ∧ (-2147483648 ≤ v - 1 ∧ v - 1 ≤ 2147483647) ∧ True) (pc' := 44) (la' := [some (.inr (.inr (some (1, 0)))), some (.inl v), some (.inl i)]) (st' := [.inl (v - 1), .inl (g 500 i 0)]) (M' := (P, g, r0, n)) ok_X10_lengthen true 6 rfl (by refine ⟨?_, ?_, trivial⟩ <;> (omega)) ?_
        refine aj_icmp_le (tgt := 50) (ax_dec2 (i := .if_icmp .le 6) (n := 3) ok_X10_lengthen rfl) (by decide) (fun c4 => ?_) (fun c4 => ?_)
        · refine aj_run (C := (-2147483648 ≤ i + 1 ∧ i + 1 ≤ 2147483647) ∧ True) (pc' := 16) (la' := [some (.inr (.inr (some (1, 0)))), some (.inl v), some (.inl (i + 1))]) (st' := []) (M' := (P, g, r0, n)) ok_X10_lengthen true 2 rfl (by refine ⟨?_, trivial⟩ <;> (omega)) ?_
          refine ih16 (i + 1) ?_ ?_
          · (try dsimp only); exact ⟨by omega, by omega, fun a z1 z2 => (by by_cases c : a = i; (rw [c]; omega); exact i3 a z1 (by omega))⟩
          · omega
        · refine aj_run (C := True) (pc' := 49) (la' := [some (.inr (.inr (some (1, 0)))), some (.inl v), some (.inl i)]) (st' := [.inl (-3)]) (M' := (P, g, r0, n)) ok_X10_lengthen true 1 rfl trivial ?_
          refine aj_ret (r := some (.inl (-3))) (ax_dec2 (i := .ireturn) (n := 1) ok_X10_lengthen rfl) ⟨?_, ?_, by decide, by decide⟩ rfl
          · (have hno : ¬ ∀ a, 0 ≤ a → a < h 50 0 2 → h 104 0 a ≤ v - 1 := (fun z => by have := z i i1 (by omega); omega); exact ⟨ax_si (by unfold mPlank; rw [if_pos rfl, if_pos (by omega), if_neg hno]), g, rfl, by unfold mPlank; rw [if_pos rfl, if_pos (by omega), if_neg hno]; exact hw, fun _ _ _ _ => rfl, by omega⟩)
          · exact ax_ro_i
    · refine aj_run (C := True) (pc' := 13) (la' := [some (.inr (.inr (some (1, 0)))), some (.inl v), none]) (st' := [.inl (-2)]) (M' := (P, g, r0, n)) ok_X10_lengthen true 1 rfl trivial ?_
      refine aj_ret (r := some (.inl (-2))) (ax_dec2 (i := .ireturn) (n := 1) ok_X10_lengthen rfl) ⟨?_, ?_, by decide, by decide⟩ rfl
      · exact ⟨ax_si (by unfold mPlank; rw [if_pos rfl, if_neg (by omega)]), g, rfl, by unfold mPlank; rw [if_pos rfl, if_neg (by omega)]; exact hw, fun _ _ _ _ => rfl, by omega⟩
      · exact ax_ro_i

set_option maxRecDepth 100000 in
set_option maxHeartbeats 4000000 in
theorem cp_plank (w v : Int) (P : Nat → Int → Prop) (g : Nat → Int → Int → Int) (r0 : Nat → Int → Int → Option (Nat × Int)) (n : Nat → Int → Int) (h : Nat → Int → Int → Int) (hw : cWd P r0 n g h) (hst : 0 ≤ g 2 0 11 ∧ g 2 0 11 ≤ 100000) : ax_S yX10_plank cX10_plank 4 (some FieldType.int) 2 0 0 [.inr (.inr (some (1, 0))), .inl w, .inl v] (P, g, r0, n) (fun r M' => r = some (.inl (mPlank h w v).1) ∧ ∃ g', M' = (P, g', r0, n) ∧ cWd P r0 n g' (mPlank h w v).2 ∧ cFr TCl g' g ∧ g' 2 0 11 ≤ g 2 0 11 + 1) := by
  have hs := cWd_sta hw
  have hT := hw.2.2.1
  have hTp := hw.2.2.2.2.2.2
  have hT2 := hT.2.1
  have hTp2 := hTp.2.1
  have hAs := hs.1.1
  have hPs := hs.1.2.1
  have hOs := hs.1.2.2
  have hP1 := hPs.1
  have hA1 := hAs.1
  have hsz := hOs.2.2.1
  have hxz := hPs.1.1
  have hkk : 2 ≤ g 2 0 2 ∧ g 2 0 2 ≤ 40 := by rw [hP1.2.1]; exact hOs.1
  have hst2 : 0 ≤ g 2 0 11 ∧ g 2 0 11 ≤ 1000000 := by omega
  refine ax_S_of (own := 10) (by decide) rfl (fun h => absurd h (by decide)) rfl (Nat.le_of_ble_eq_true rfl) ?_
  change ax_J _ _ _ _ _ _ _ _ _ _ [some (.inr (.inr (some (1, 0)))), some (.inl w), some (.inl v), none] _ _
  refine aj_run (C := True) (pc' := 1) (la' := [some (.inr (.inr (some (1, 0)))), some (.inl w), some (.inl v), none]) (st' := [.inl w]) (M' := (P, g, r0, n)) ok_X10_plank true 1 rfl trivial ?_
  refine aj_if_ne (tgt := 10) (ax_dec2 (i := .ifCond .ne 9) (n := 3) ok_X10_plank rfl) (by decide) (fun c1 => ?_) (fun c1 => ?_)
  · refine aj_run (C := True) (pc' := 12) (la' := [some (.inr (.inr (some (1, 0)))), some (.inl w), some (.inl v), none]) (st' := [.inl 1, .inl w]) (M' := (P, g, r0, n)) ok_X10_plank true 2 rfl trivial ?_
    refine aj_icmp_ne (tgt := 24) (ax_dec2 (i := .if_icmp .ne 12) (n := 3) ok_X10_plank rfl) (by decide) (fun c2 => ?_) (fun c2 => ?_)
    · refine aj_run (C := True) (pc' := 26) (la' := [some (.inr (.inr (some (1, 0)))), some (.inl w), some (.inl v), none]) (st' := [.inl (-2)]) (M' := (P, g, r0, n)) ok_X10_plank true 1 rfl trivial ?_
      refine aj_ret (r := some (.inl (-2))) (ax_dec2 (i := .ireturn) (n := 1) ok_X10_plank rfl) ⟨?_, ?_, by decide, by decide⟩ rfl
      · exact ⟨ax_si (by unfold mPlank; rw [if_neg (by omega), if_neg (by omega)]), g, rfl, by unfold mPlank; rw [if_neg (by omega), if_neg (by omega)]; exact hw, fun _ _ _ _ => rfl, by omega⟩
      · exact ax_ro_i
    · refine aj_run (C := True) (pc' := 16) (la' := [some (.inr (.inr (some (1, 0)))), some (.inl w), some (.inl v), none]) (st' := [.inl v]) (M' := (P, g, r0, n)) ok_X10_plank true 1 rfl trivial ?_
      refine aj_if_lt (tgt := 24) (ax_dec2 (i := .ifCond .lt 8) (n := 3) ok_X10_plank rfl) (by decide) (fun c3 => ?_) (fun c3 => ?_)
      · refine aj_run (C := True) (pc' := 26) (la' := [some (.inr (.inr (some (1, 0)))), some (.inl w), some (.inl v), none]) (st' := [.inl (-2)]) (M' := (P, g, r0, n)) ok_X10_plank true 1 rfl trivial ?_
        refine aj_ret (r := some (.inl (-2))) (ax_dec2 (i := .ireturn) (n := 1) ok_X10_plank rfl) ⟨?_, ?_, by decide, by decide⟩ rfl
        · exact ⟨ax_si (by unfold mPlank; rw [if_neg (by omega), if_neg (by omega)]), g, rfl, by unfold mPlank; rw [if_neg (by omega), if_neg (by omega)]; exact hw, fun _ _ _ _ => rfl, by omega⟩
        · exact ax_ro_i
      · refine aj_run (C := True) (pc' := 21) (la' := [some (.inr (.inr (some (1, 0)))), some (.inl w), some (.inl v), none]) (st' := [.inl 1, .inl v]) (M' := (P, g, r0, n)) ok_X10_plank true 2 rfl trivial ?_
        refine aj_icmp_le (tgt := 27) (ax_dec2 (i := .if_icmp .le 6) (n := 3) ok_X10_plank rfl) (by decide) (fun c4 => ?_) (fun c4 => ?_)
        · refine aj_run (C := True) (pc' := 28) (la' := [some (.inr (.inr (some (1, 0)))), some (.inl w), some (.inl v), none]) (st' := [.inr (.inr (some (1, 0)))]) (M' := (P, g, r0, n)) ok_X10_plank true 1 rfl trivial ?_
          refine aj_getR (f := 1) (k := 0) (g := 2) (o := 0) (u := 0) (ax_lk_ok (q := (1, 0)) rfl) rfl rfl hs.2.2.2.1 hs.2.2.2.2 (ax_dec2 (i := .getfield 10) (n := 3) ok_X10_plank rfl) ?_
          refine aj_run (C := True) (pc' := 36) (la' := [some (.inr (.inr (some (1, 0)))), some (.inl w), some (.inl v), some (.inl (g 2 0 3))]) (st' := [.inr (.inr (some (1, 0)))]) (M' := (P, g, r0, n)) ok_X10_plank true 3 rfl trivial ?_
          refine aj_getR (f := 1) (k := 0) (g := 2) (o := 0) (u := 0) (ax_lk_ok (q := (1, 0)) rfl) rfl rfl hs.2.2.2.1 hs.2.2.2.2 (ax_dec2 (i := .getfield 10) (n := 3) ok_X10_plank rfl) ?_
          refine aj_run (C := True) (pc' := 44) (la' := [some (.inr (.inr (some (1, 0)))), some (.inl w), some (.inl v), some (.inl (g 2 0 3))]) (st' := [.inr (.inr (some (1, 0)))]) (M' := (P, ax_u3 g 2 0 3 v, r0, n)) ok_X10_plank true 3 rfl trivial ?_
          refine aj_getR (f := 1) (k := 0) (g := 2) (o := 0) (u := 0) (ax_lk_ok (q := (1, 0)) rfl) rfl rfl hs.2.2.2.1 hs.2.2.2.2 (ax_dec2 (i := .getfield 10) (n := 3) ok_X10_plank rfl) ?_
          refine aj_callV (av := []) (st := []) (f := 2) (o := 0) (ci := 2) cal_X2_forget lk_10_77 ins_X2_forget rfl sel_X2_forget rfl (fun c9 h9 _ => by simpa [ax_ok] using h9) (cp_forget _ _ _ _ (by exact hst2)) ⟨by decide, by decide, by decide, by decide⟩ (Nat.le_of_ble_eq_true rfl) (ax_dec2 (i := .invokevirtual 77) (n := 3) ok_X10_plank rfl) (fun r M' hq => ?_)
          obtain ⟨rfl, rfl⟩ := hq
          change ax_J _ _ _ _ _ _ _ _ _ 50 [some (.inr (.inr (some (1, 0)))), some (.inl w), some (.inl v), some (.inl (g 2 0 3))] [] (P, ax_u3 (ax_u3 g 2 0 3 v) 2 0 11 (g 2 0 11 + 1), r0, n)
          refine aj_run (C := True) (pc' := 51) (la' := [some (.inr (.inr (some (1, 0)))), some (.inl w), some (.inl v), some (.inl (g 2 0 3))]) (st' := [.inl (g 2 0 3)]) (M' := (P, ax_u3 (ax_u3 g 2 0 3 v) 2 0 11 (g 2 0 11 + 1), r0, n)) ok_X10_plank true 1 rfl trivial ?_
          refine aj_ret (r := some (.inl (g 2 0 3))) (ax_dec2 (i := .ireturn) (n := 1) ok_X10_plank rfl) ⟨?_, ?_, by decide, by decide⟩ rfl
          · exact ⟨ax_si (by unfold mPlank; rw [if_neg (by omega), if_pos (by omega)]; omega), ax_u3 (ax_u3 g 2 0 3 v) 2 0 11 (g 2 0 11 + 1), rfl, by unfold mPlank; rw [if_neg (by omega), if_pos (by omega)]; exact cWd_ring hw (by omega), fun f o j z => by (repeat rw [ax_u3_n (by unfold TCl at z; omega)]), Int.le_of_eq ax_u3_s⟩
          · exact ax_ro_i
        · refine aj_run (C := True) (pc' := 26) (la' := [some (.inr (.inr (some (1, 0)))), some (.inl w), some (.inl v), none]) (st' := [.inl (-2)]) (M' := (P, g, r0, n)) ok_X10_plank true 1 rfl trivial ?_
          refine aj_ret (r := some (.inl (-2))) (ax_dec2 (i := .ireturn) (n := 1) ok_X10_plank rfl) ⟨?_, ?_, by decide, by decide⟩ rfl
          · exact ⟨ax_si (by unfold mPlank; rw [if_neg (by omega), if_neg (by omega)]), g, rfl, by unfold mPlank; rw [if_neg (by omega), if_neg (by omega)]; exact hw, fun _ _ _ _ => rfl, by omega⟩
          · exact ax_ro_i
  · refine aj_run (C := True) (pc' := 6) (la' := [some (.inr (.inr (some (1, 0)))), some (.inl w), some (.inl v), none]) (st' := [.inl v, .inr (.inr (some (1, 0)))]) (M' := (P, g, r0, n)) ok_X10_plank true 2 rfl trivial ?_
    refine aj_callV (av := [.inl v]) (st := []) (f := 1) (o := 0) (ci := 10) cal_X10_lengthen lk_10_70 ins_X10_lengthen rfl sel_X10_lengthen rfl (fun c9 h9 _ => by simpa [ax_ok] using h9) (cp_lengthen v _ _ _ _ h hw hst) ⟨by decide, by decide, by decide, by decide⟩ (Nat.le_of_ble_eq_true rfl) (ax_dec2 (i := .invokevirtual 70) (n := 3) ok_X10_plank rfl) (fun r M' hq => ?_)
    obtain ⟨rfl, g3, rfl, hw3, fr3, st3⟩ := hq
    change ax_J _ _ _ _ _ _ _ _ _ 9 [some (.inr (.inr (some (1, 0)))), some (.inl w), some (.inl v), none] [.inl ((mPlank h 0 v).1)] (P, g3, r0, n)
    refine aj_ret (r := some (.inl ((mPlank h 0 v).1))) (ax_dec2 (i := .ireturn) (n := 1) ok_X10_plank rfl) ⟨?_, ?_, by decide, by decide⟩ rfl
    · exact ⟨ax_si (by rw [show w = 0 by omega]), g3, rfl, by rw [show w = 0 by omega]; exact hw3, fr3, st3⟩
    · exact ax_ro_i

set_option maxRecDepth 100000 in
set_option maxHeartbeats 4000000 in
theorem cp_put (x : Int) (P : Nat → Int → Prop) (g : Nat → Int → Int → Int) (r0 : Nat → Int → Int → Option (Nat × Int)) (n : Nat → Int → Int) (hn2 : n 302 0 = 160) (hz : 0 ≤ g 3 0 0 ∧ g 3 0 0 ≤ 160) : ax_S yX8_put cX8_put 2 (some FieldType.boolean) 0 0 0 [.inr (.inr (some (3, 0))), .inl x] (P, g, r0, n) (fun r M' => r = some (.inl (bI (g 3 0 0 < 160))) ∧ M' = (P, if g 3 0 0 < 160 then ax_u3 (ax_u3 g 302 0 (g 3 0 0) x) 3 0 0 (g 3 0 0 + 1) else g, r0, n)) := by
  refine ax_S_of (own := 8) (by decide) rfl (fun h => absurd h (by decide)) rfl (Nat.le_of_ble_eq_true rfl) ?_
  change ax_J _ _ _ _ _ _ _ _ _ _ [some (.inr (.inr (some (3, 0)))), some (.inl x)] _ _
  refine aj_run (C := True) (pc' := 7) (la' := [some (.inr (.inr (some (3, 0)))), some (.inl x)]) (st' := [.inl 160, .inl (g 3 0 0)]) (M' := (P, g, r0, n)) ok_X8_put true 3 rfl trivial ?_
  refine aj_icmp_lt (tgt := 12) (ax_dec2 (i := .if_icmp .lt 5) (n := 3) ok_X8_put rfl) (by decide) (fun c1 => ?_) (fun c1 => ?_)
  · refine aj_run (C := (0 ≤ g 3 0 0 ∧ g 3 0 0 < n 302 0) ∧ (-2147483648 ≤ (g 3 0 0) + 1 ∧ (g 3 0 0) + 1 ≤ 2147483647) ∧ True) (pc' := 33) (la' := [some (.inr (.inr (some (3, 0)))), some (.inl x)]) (st' := [.inl 1]) (M' := (P, ax_u3 (ax_u3 g 302 0 (g 3 0 0) x) 3 0 0 ((g 3 0 0) + 1), r0, n)) ok_X8_put true 13 rfl (by refine ⟨?_, ?_, trivial⟩ <;> (omega)) ?_
    refine aj_ret (r := some (.inl 1)) (ax_dec2 (i := .ireturn) (n := 1) ok_X8_put rfl) ⟨?_, ?_, by decide, by decide⟩ rfl
    · exact ⟨ax_si (by (repeat first | rw [if_pos (by omega)] | rw [if_neg (by omega)] | rw [bI_t (by omega)] | rw [bI_f (by omega)])), by (repeat first | rw [if_pos (by omega)] | rw [if_neg (by omega)] | rw [bI_t (by omega)] | rw [bI_f (by omega)])⟩
    · exact ax_ro_b (by decide)
  · refine aj_run (C := True) (pc' := 11) (la' := [some (.inr (.inr (some (3, 0)))), some (.inl x)]) (st' := [.inl 0]) (M' := (P, g, r0, n)) ok_X8_put true 1 rfl trivial ?_
    refine aj_ret (r := some (.inl 0)) (ax_dec2 (i := .ireturn) (n := 1) ok_X8_put rfl) ⟨?_, ?_, by decide, by decide⟩ rfl
    · exact ⟨ax_si (by (repeat first | rw [if_pos (by omega)] | rw [if_neg (by omega)] | rw [bI_t (by omega)] | rw [bI_f (by omega)])), by (repeat first | rw [if_pos (by omega)] | rw [if_neg (by omega)] | rw [bI_t (by omega)] | rw [bI_f (by omega)])⟩
    · exact ax_ro_b (by decide)

set_option maxRecDepth 100000 in
set_option maxHeartbeats 4000000 in
theorem cp_feed (x : Int) (P : Nat → Int → Prop) (g : Nat → Int → Int → Int) (r0 : Nat → Int → Int → Option (Nat × Int)) (n : Nat → Int → Int) (h : Nat → Int → Int → Int) (hw : cWd P r0 n g h) (hst : 0 ≤ g 2 0 11 ∧ g 2 0 11 ≤ 100000) : ax_S yX10_feed cX10_feed 2 (some FieldType.int) 1 0 0 [.inr (.inr (some (1, 0))), .inl x] (P, g, r0, n) (fun r M' => r = some (.inl (mFeed h x).1) ∧ ∃ g', M' = (P, g', r0, n) ∧ cWd P r0 n g' (mFeed h x).2 ∧ cFr TCl g' g ∧ g' 2 0 11 ≤ g 2 0 11 + 1) := by
  have hs := cWd_sta hw
  have hT := hw.2.2.1
  have hTp := hw.2.2.2.2.2.2
  have hT2 := hT.2.1
  have hTp2 := hTp.2.1
  have hAs := hs.1.1
  have hPs := hs.1.2.1
  have hOs := hs.1.2.2
  have hP1 := hPs.1
  have hA1 := hAs.1
  have hsz := hOs.2.2.1
  have hxz := hPs.1.1
  have hkk : 2 ≤ g 2 0 2 ∧ g 2 0 2 ≤ 40 := by rw [hP1.2.1]; exact hOs.1
  have hst2 : 0 ≤ g 2 0 11 ∧ g 2 0 11 ≤ 1000000 := by omega
  refine ax_S_of (own := 10) (by decide) rfl (fun h => absurd h (by decide)) rfl (Nat.le_of_ble_eq_true rfl) ?_
  change ax_J _ _ _ _ _ _ _ _ _ _ [some (.inr (.inr (some (1, 0)))), some (.inl x)] _ _
  refine aj_run (C := True) (pc' := 1) (la' := [some (.inr (.inr (some (1, 0)))), some (.inl x)]) (st' := [.inl x]) (M' := (P, g, r0, n)) ok_X10_feed true 1 rfl trivial ?_
  refine aj_if_lt (tgt := 11) (ax_dec2 (i := .ifCond .lt 10) (n := 3) ok_X10_feed rfl) (by decide) (fun c1 => ?_) (fun c1 => ?_)
  · refine aj_run (C := True) (pc' := 13) (la' := [some (.inr (.inr (some (1, 0)))), some (.inl x)]) (st' := [.inl (-2)]) (M' := (P, g, r0, n)) ok_X10_feed true 1 rfl trivial ?_
    refine aj_ret (r := some (.inl (-2))) (ax_dec2 (i := .ireturn) (n := 1) ok_X10_feed rfl) ⟨?_, ?_, by decide, by decide⟩ rfl
    · first | (exfalso; omega) | exact ⟨ax_si (by unfold mFeed; (repeat first | rw [if_pos (by omega)] | rw [if_neg (by omega)] | rw [bI_t (by omega)] | rw [bI_f (by omega)]); try rfl), g, rfl, by unfold mFeed; (repeat first | rw [if_pos (by omega)] | rw [if_neg (by omega)] | rw [bI_t (by omega)] | rw [bI_f (by omega)]); exact hw, fun _ _ _ _ => rfl, by omega⟩
    · exact ax_ro_i
  · refine aj_run (C := True) (pc' := 8) (la' := [some (.inr (.inr (some (1, 0)))), some (.inl x)]) (st' := [.inl 255, .inl x]) (M' := (P, g, r0, n)) ok_X10_feed true 2 rfl trivial ?_
    refine aj_icmp_le (tgt := 14) (ax_dec2 (i := .if_icmp .le 6) (n := 3) ok_X10_feed rfl) (by decide) (fun c2 => ?_) (fun c2 => ?_)
    · refine aj_run (C := True) (pc' := 15) (la' := [some (.inr (.inr (some (1, 0)))), some (.inl x)]) (st' := [.inr (.inr (some (1, 0)))]) (M' := (P, g, r0, n)) ok_X10_feed true 1 rfl trivial ?_
      refine aj_getR (f := 1) (k := 1) (g := 3) (o := 0) (u := 0) (ax_lk_ok (q := (1, 1)) rfl) rfl rfl hT.1.2.1.1 hT.1.2.1.2 (ax_dec2 (i := .getfield 19) (n := 3) ok_X10_feed rfl) ?_
      refine aj_run (C := True) (pc' := 19) (la' := [some (.inr (.inr (some (1, 0)))), some (.inl x)]) (st' := [.inl x, .inr (.inr (some (3, 0)))]) (M' := (P, g, r0, n)) ok_X10_feed true 1 rfl trivial ?_
      refine aj_callV (av := [.inl x]) (st := []) (f := 3) (o := 0) (ci := 8) cal_X8_put lk_10_52 ins_X8_put rfl sel_X8_put rfl (fun c9 h9 _ => by simpa [ax_ok] using h9) (cp_put x _ _ _ _ hTp.1.1 (by omega)) ⟨by decide, by decide, by decide, by decide⟩ (Nat.le_of_ble_eq_true rfl) (ax_dec2 (i := .invokevirtual 52) (n := 3) ok_X10_feed rfl) (fun r M' hq => ?_)
      obtain ⟨rfl, rfl⟩ := hq
      by_cases hlt : g 3 0 0 < 160
      · rw [if_pos hlt]
        change ax_J _ _ _ _ _ _ _ _ _ 22 [some (.inr (.inr (some (1, 0)))), some (.inl x)] [.inl (bI (g 3 0 0 < 160))] (P, ax_u3 (ax_u3 g 302 0 (g 3 0 0) x) 3 0 0 (g 3 0 0 + 1), r0, n)
        refine aj_if_eq (tgt := 35) (ax_dec2 (i := .ifCond .eq 13) (n := 3) ok_X10_feed rfl) (by decide) (fun c3 => ?_) (fun c3 => ?_)
        · replace c3 := bI_e0 c3
          refine aj_run (C := True) (pc' := 37) (la' := [some (.inr (.inr (some (1, 0)))), some (.inl x)]) (st' := [.inl (-4)]) (M' := (P, ax_u3 (ax_u3 g 302 0 (g 3 0 0) x) 3 0 0 (g 3 0 0 + 1), r0, n)) ok_X10_feed true 1 rfl trivial ?_
          refine aj_ret (r := some (.inl (-4))) (ax_dec2 (i := .ireturn) (n := 1) ok_X10_feed rfl) ⟨?_, ?_, by decide, by decide⟩ rfl
          · first | (exfalso; omega) | exact ⟨ax_si (by unfold mFeed; rw [if_pos (by omega), if_neg (by omega)]; omega), ax_u3 (ax_u3 g 302 0 (g 3 0 0) x) 3 0 0 (g 3 0 0 + 1), rfl, by unfold mFeed; rw [if_pos (by omega), if_neg (by omega)]; exact cWd_feed hw (by omega) hlt, fun f o j z => by (repeat rw [ax_u3_n (by unfold TCl at z; omega)]), by rw [show (ax_u3 (ax_u3 g 302 0 (g 3 0 0) x) 3 0 0 (g 3 0 0 + 1)) 2 0 11 = g 2 0 11 from (ax_u3_n (by omega)).trans (ax_u3_n (by omega))]; omega⟩
          · exact ax_ro_i
        · replace c3 := bI_n0 c3
          refine aj_run (C := True) (pc' := 26) (la' := [some (.inr (.inr (some (1, 0)))), some (.inl x)]) (st' := [.inr (.inr (some (1, 0)))]) (M' := (P, ax_u3 (ax_u3 g 302 0 (g 3 0 0) x) 3 0 0 (g 3 0 0 + 1), r0, n)) ok_X10_feed true 1 rfl trivial ?_
          refine aj_getR (f := 1) (k := 1) (g := 3) (o := 0) (u := 0) (ax_lk_ok (q := (1, 1)) rfl) rfl rfl hT.1.2.1.1 hT.1.2.1.2 (ax_dec2 (i := .getfield 19) (n := 3) ok_X10_feed rfl) ?_
          refine aj_run (C := True) (pc' := 37) (la' := [some (.inr (.inr (some (1, 0)))), some (.inl x)]) (st' := [.inl (g 3 0 0 + 1)]) (M' := (P, ax_u3 (ax_u3 g 302 0 (g 3 0 0) x) 3 0 0 (g 3 0 0 + 1), r0, n)) ok_X10_feed true 2 rfl trivial ?_
          refine aj_ret (r := some (.inl (g 3 0 0 + 1))) (ax_dec2 (i := .ireturn) (n := 1) ok_X10_feed rfl) ⟨?_, ?_, by decide, by decide⟩ rfl
          · first | (exfalso; omega) | exact ⟨ax_si (by unfold mFeed; rw [if_pos (by omega), if_neg (by omega)]; omega), ax_u3 (ax_u3 g 302 0 (g 3 0 0) x) 3 0 0 (g 3 0 0 + 1), rfl, by unfold mFeed; rw [if_pos (by omega), if_neg (by omega)]; exact cWd_feed hw (by omega) hlt, fun f o j z => by (repeat rw [ax_u3_n (by unfold TCl at z; omega)]), by rw [show (ax_u3 (ax_u3 g 302 0 (g 3 0 0) x) 3 0 0 (g 3 0 0 + 1)) 2 0 11 = g 2 0 11 from (ax_u3_n (by omega)).trans (ax_u3_n (by omega))]; omega⟩
          · exact ax_ro_i
      · rw [if_neg hlt]
        change ax_J _ _ _ _ _ _ _ _ _ 22 [some (.inr (.inr (some (1, 0)))), some (.inl x)] [.inl (bI (g 3 0 0 < 160))] (P, g, r0, n)
        refine aj_if_eq (tgt := 35) (ax_dec2 (i := .ifCond .eq 13) (n := 3) ok_X10_feed rfl) (by decide) (fun c4 => ?_) (fun c4 => ?_)
        · replace c4 := bI_e0 c4
          refine aj_run (C := True) (pc' := 37) (la' := [some (.inr (.inr (some (1, 0)))), some (.inl x)]) (st' := [.inl (-4)]) (M' := (P, g, r0, n)) ok_X10_feed true 1 rfl trivial ?_
          refine aj_ret (r := some (.inl (-4))) (ax_dec2 (i := .ireturn) (n := 1) ok_X10_feed rfl) ⟨?_, ?_, by decide, by decide⟩ rfl
          · first | (exfalso; omega) | exact ⟨ax_si (by unfold mFeed; (repeat first | rw [if_pos (by omega)] | rw [if_neg (by omega)] | rw [bI_t (by omega)] | rw [bI_f (by omega)]); try rfl), g, rfl, by unfold mFeed; (repeat first | rw [if_pos (by omega)] | rw [if_neg (by omega)] | rw [bI_t (by omega)] | rw [bI_f (by omega)]); exact hw, fun _ _ _ _ => rfl, by omega⟩
          · exact ax_ro_i
        · replace c4 := bI_n0 c4
          refine aj_run (C := True) (pc' := 26) (la' := [some (.inr (.inr (some (1, 0)))), some (.inl x)]) (st' := [.inr (.inr (some (1, 0)))]) (M' := (P, g, r0, n)) ok_X10_feed true 1 rfl trivial ?_
          refine aj_getR (f := 1) (k := 1) (g := 3) (o := 0) (u := 0) (ax_lk_ok (q := (1, 1)) rfl) rfl rfl hT.1.2.1.1 hT.1.2.1.2 (ax_dec2 (i := .getfield 19) (n := 3) ok_X10_feed rfl) ?_
          refine aj_run (C := True) (pc' := 37) (la' := [some (.inr (.inr (some (1, 0)))), some (.inl x)]) (st' := [.inl (g 3 0 0)]) (M' := (P, g, r0, n)) ok_X10_feed true 2 rfl trivial ?_
          refine aj_ret (r := some (.inl (g 3 0 0))) (ax_dec2 (i := .ireturn) (n := 1) ok_X10_feed rfl) ⟨?_, ?_, by decide, by decide⟩ rfl
          · first | (exfalso; omega) | exact ⟨ax_si (by unfold mFeed; (repeat first | rw [if_pos (by omega)] | rw [if_neg (by omega)] | rw [bI_t (by omega)] | rw [bI_f (by omega)]); try rfl), g, rfl, by unfold mFeed; (repeat first | rw [if_pos (by omega)] | rw [if_neg (by omega)] | rw [bI_t (by omega)] | rw [bI_f (by omega)]); exact hw, fun _ _ _ _ => rfl, by omega⟩
          · exact ax_ro_i
    · refine aj_run (C := True) (pc' := 13) (la' := [some (.inr (.inr (some (1, 0)))), some (.inl x)]) (st' := [.inl (-2)]) (M' := (P, g, r0, n)) ok_X10_feed true 1 rfl trivial ?_
      refine aj_ret (r := some (.inl (-2))) (ax_dec2 (i := .ireturn) (n := 1) ok_X10_feed rfl) ⟨?_, ?_, by decide, by decide⟩ rfl
      · first | (exfalso; omega) | exact ⟨ax_si (by unfold mFeed; (repeat first | rw [if_pos (by omega)] | rw [if_neg (by omega)] | rw [bI_t (by omega)] | rw [bI_f (by omega)]); try rfl), g, rfl, by unfold mFeed; (repeat first | rw [if_pos (by omega)] | rw [if_neg (by omega)] | rw [bI_t (by omega)] | rw [bI_f (by omega)]); exact hw, fun _ _ _ _ => rfl, by omega⟩
      · exact ax_ro_i

