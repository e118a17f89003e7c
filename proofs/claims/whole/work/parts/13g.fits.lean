/-! ===== sheets of the class; ways that fit ===== -/
def cShe (P : Nat → Int → Prop) (r0 : Nat → Int → Int → Option (Nat × Int)) (n : Nat → Int → Int) (g h : Nat → Int → Int → Int) : Prop := n 703 0 = 4 ∧ ∀ s, 0 ≤ s → s < 4 → (r0 703 0 s = some (4, s) ∧ P 4 s) ∧ n 402 s = 40 ∧ (g 4 s 0 = h 155 0 s ∧ g 4 s 1 = h 156 0 s) ∧ ((-1 ≤ h 155 0 s ∧ h 155 0 s ≤ 2) ∧ 0 ≤ h 156 0 s ∧ h 156 0 s ≤ 40) ∧ ∀ i, 0 ≤ i → i < 40 → g 402 s i = h 157 0 (40 * s + i)
theorem cShe_w {P : Nat → Int → Prop} {r0 : Nat → Int → Int → Option (Nat × Int)} {n : Nat → Int → Int} {g g' h : Nat → Int → Int → Int} (hf : cFr TW g' g) (hs : cShe P r0 n g h) : cShe P r0 n g' h := by
  unfold cShe at *
  have e4 : ∀ s j, g' 4 s j = g 4 s j := fun s j => hf 4 s j (by unfold TW TG; omega)
  have e5 : ∀ s j, g' 402 s j = g 402 s j := fun s j => hf 402 s j (by unfold TW TG; omega)
  simp only [e4, e5]
  exact hs
theorem wMi_lt {h : Nat → Int → Int → Int} : ∀ k : Nat, -1 ≤ wMi h k ∧ wMi h k < k
  | 0 => ⟨Int.le_refl _, by show (-1 : Int) < 0; decide⟩
  | k + 1 => by
    have := wMi_lt (h := h) k
    unfold wMi
    split <;> omega
theorem wMi_s {h : Nat → Int → Int → Int} {w b : Int} (hb : 0 ≤ b) : wMi (wBegin h w) (b + 1).toNat = b ↔ gAny h w b ≠ 0 := by
  rw [show (b + 1).toNat = b.toNat + 1 by omega]
  have := wMi_lt (h := wBegin h w) b.toNat
  show (if wAny (wSt1 (wIt (wBegin h w) b.toNat)) (wBegin h w 50 0 2) ≠ 0 then ((b.toNat : Nat) : Int) else wMi (wBegin h w) b.toNat) = b ↔ gAny h w b ≠ 0
  rw [beg_sz]
  unfold gAny
  by_cases c : wAny (wSt1 (wIt (wBegin h w) b.toNat)) (h 50 0 2) ≠ 0
  · rw [if_pos c]
    exact ⟨fun _ => c, fun _ => by omega⟩
  · rw [if_neg c]
    exact ⟨fun z => by omega, fun z => absurd z c⟩
/-- once all are off nobody is heard -/
theorem gAny_off {g h : Nat → Int → Int → Int} (hs : wOs h) {w k : Int} (hk : 0 ≤ k) (hz : g 2 0 8 ≤ 0) (hS : cSm g (wBegin h w) k) (d : Nat) (hd : k + d ≤ 1000) : gAny h w (k + d) = 0 := by
  have s := (cSm_off (beg_oa hs) beg_b hk hz hS d (by omega)).1
  obtain ⟨o1, o2⟩ := it_oa (beg_oa hs (ways := w)) beg_b (k + d).toNat (by omega)
  have hst : cSt (wIt (wBegin h w) (k + d).toNat) = 0 := by
    have := cSt_in (h := wIt (wBegin h w) (k + d).toNat) (by have := o1.1.2.2.1; omega)
    have := s.2.1.2.2.1
    omega
  have := (off_step o1 (by omega) hst).2.2.2
  rw [it_sz, beg_sz] at this
  exact this
theorem gHr_off {g h : Nat → Int → Int → Int} (hs : wOs h) {w k s : Int} (hk : 0 ≤ k) (hz : g 2 0 8 ≤ 0) (hS : cSm g (wBegin h w) k) : ∀ d : Nat, k + d ≤ 1000 → gHr h s w (k + d) = gHr h s w k
  | 0, _ => by rw [show k + ((0 : Nat) : Int) = k by omega]
  | d + 1, hd => by
    rw [show k + ((d + 1 : Nat) : Int) = (k + d) + 1 by omega, gHr_s (by omega), if_neg (fun z => z (gAny_off hs hk hz hS d (by omega)))]
    exact gHr_off hs hk hz hS d (by omega)
theorem gHr_0 {h : Nat → Int → Int → Int} {w k s : Int} (hk : 0 ≤ k) (hz : (gHr h s w k).1 = 0) : ∀ d : Nat, (gHr h s w (k + d)).1 = 0
  | 0 => by rw [show k + ((0 : Nat) : Int) = k by omega]; exact hz
  | d + 1 => by
    rw [show k + ((d + 1 : Nat) : Int) = (k + d) + 1 by omega, gHr_s (by omega)]
    split
    · dsimp only
      rw [if_neg (fun z => z.1 (gHr_0 hk hz d))]
    · exact gHr_0 hk hz d
theorem gFi_0 {h : Nat → Int → Int → Int} {w k s : Int} (hk : 0 ≤ k) (hz : gFi h s w k = 0) : ∀ d : Nat, gFi h s w (k + d) = 0
  | 0 => by rw [show k + ((0 : Nat) : Int) = k by omega]; exact hz
  | d + 1 => by
    rw [show k + ((d + 1 : Nat) : Int) = (k + d) + 1 by omega, gFi_s (by omega), if_neg (fun z => z.1 (gFi_0 hk hz d))]
set_option maxRecDepth 100000 in
set_option maxHeartbeats 4000000 in
theorem cp_isMissing (s : Int) (P : Nat → Int → Prop) (g : Nat → Int → Int → Int) (r0 : Nat → Int → Int → Option (Nat × Int)) (n : Nat → Int → Int) : ax_S yX5_isMissing cX5_isMissing 1 (some FieldType.boolean) 0 0 0 [.inr (.inr (some (4, s)))] (P, g, r0, n) (fun r M' => r = some (.inl (bI (g 4 s 0 = -1))) ∧ M' = (P, g, r0, n)) := by
  refine ax_S_of (own := 5) (by decide) rfl (fun h => absurd h (by decide)) rfl (Nat.le_of_ble_eq_true rfl) ?_
  change ax_J _ _ _ _ _ _ _ _ _ _ [some (.inr (.inr (some (4, s))))] _ _
  refine aj_run (C := True) (pc' := 5) (la' := [some (.inr (.inr (some (4, s))))]) (st' := [.inl (-1), .inl (g 4 s 0)]) (M' := (P, g, r0, n)) ok_X5_isMissing true 3 rfl trivial ?_
  refine aj_icmp_ne (tgt := 12) (ax_dec2 (i := .if_icmp .ne 7) (n := 3) ok_X5_isMissing rfl) (by decide) (fun c1 => ?_) (fun c1 => ?_)
  · refine aj_run (C := True) (pc' := 13) (la' := [some (.inr (.inr (some (4, s))))]) (st' := [.inl 0]) (M' := (P, g, r0, n)) ok_X5_isMissing true 1 rfl trivial ?_
    refine aj_ret (r := some (.inl 0)) (ax_dec2 (i := .ireturn) (n := 1) ok_X5_isMissing rfl) ⟨?_, ?_, by decide, by decide⟩ rfl
    · exact ⟨ax_si (by first | rw [bI_t (by omega)] | rw [bI_f (by omega)]), rfl⟩
    · exact ax_ro_b (by decide)
  · refine aj_run (C := True) (pc' := 13) (la' := [some (.inr (.inr (some (4, s))))]) (st' := [.inl 1]) (M' := (P, g, r0, n)) ok_X5_isMissing true 2 rfl trivial ?_
    refine aj_ret (r := some (.inl 1)) (ax_dec2 (i := .ireturn) (n := 1) ok_X5_isMissing rfl) ⟨?_, ?_, by decide, by decide⟩ rfl
    · exact ⟨ax_si (by first | rw [bI_t (by omega)] | rw [bI_f (by omega)]), rfl⟩
    · exact ax_ro_b (by decide)

set_option maxRecDepth 100000 in
set_option maxHeartbeats 4000000 in
theorem cp_comeOffAs (s w : Int) (P : Nat → Int → Prop) (g : Nat → Int → Int → Int) (r0 : Nat → Int → Int → Option (Nat × Int)) (n : Nat → Int → Int) (h : Nat → Int → Int → Int) (hs : cSta P r0 n g h) (hd : cDy g h) (hw : 0 ≤ w ∧ w < 128) (hsh : cShe P r0 n g h) (hs4 : 0 ≤ s ∧ s < 4) : ax_S yX10_comeOffAs cX10_comeOffAs 5 (some FieldType.boolean) 13 0 0 [.inr (.inr (some (1, 0))), .inr (.inr (some (4, s))), .inl w] (P, g, r0, n) (fun r M' => r = some (.inl (fFi h s w)) ∧ ∃ g', M' = (P, g', r0, n) ∧ cDy g' h ∧ cFr TW g' g) := by
  have hAs := hs.1.1
  have hPs := hs.1.2.1
  have hOs := hs.1.2.2
  have hP1 := hPs.1
  have hA1 := hAs.1
  have hsz := hOs.2.2.1
  have hm := hd.1
  have hca := hd.2
  have hln := hs.2.1
  have hxz := hPs.1.1
  refine ax_S_of (own := 10) (by decide) rfl (fun h => absurd h (by decide)) rfl (Nat.le_of_ble_eq_true rfl) ?_
  change ax_J _ _ _ _ _ _ _ _ _ _ [some (.inr (.inr (some (1, 0)))), some (.inr (.inr (some (4, s)))), some (.inl w), none, none] _ _
  refine aj_run (C := True) (pc' := 1) (la' := [some (.inr (.inr (some (1, 0)))), some (.inr (.inr (some (4, s)))), some (.inl w), none, none]) (st' := [.inr (.inr (some (1, 0)))]) (M' := (P, g, r0, n)) ok_X10_comeOffAs true 1 rfl trivial ?_
  refine aj_getR (f := 1) (k := 0) (g := 2) (o := 0) (u := 0) (ax_lk_ok (q := (1, 0)) rfl) rfl rfl hs.2.2.2.1 hs.2.2.2.2 (ax_dec2 (i := .getfield 10) (n := 3) ok_X10_comeOffAs rfl) ?_
  refine aj_run (C := True) (pc' := 5) (la' := [some (.inr (.inr (some (1, 0)))), some (.inr (.inr (some (4, s)))), some (.inl w), none, none]) (st' := [.inl w, .inr (.inr (some (2, 0)))]) (M' := (P, g, r0, n)) ok_X10_comeOffAs true 1 rfl trivial ?_
  refine aj_callV (av := [.inl w]) (st := []) (f := 2) (o := 0) (ci := 2) cal_X2_rowOf lk_10_213 ins_X2_rowOf rfl sel_X2_rowOf rfl (fun c9 h9 _ => by simpa [ax_ok] using h9) (cp_rowOf w _ _ _ _ h hs hd (by omega)) ⟨by decide, by decide, by decide, by decide⟩ (Nat.le_of_ble_eq_true rfl) (ax_dec2 (i := .invokevirtual 213) (n := 3) ok_X10_comeOffAs rfl) (fun r M' hq => ?_)
  obtain ⟨rfl, g4, rfl, hd4, fr4, row4⟩ := hq
  have hq4 := (cShe_w fr4 hsh).2 s hs4.1 hs4.2
  have hs41 : g4 2 0 1 = g 2 0 1 := fr4 2 0 1 (by unfold TW TG; omega)
  have hln := hs.2.1
  change ax_J _ _ _ _ _ _ _ _ _ 8 [some (.inr (.inr (some (1, 0)))), some (.inr (.inr (some (4, s)))), some (.inl w), none, none] [.inl (w * 7)] (P, g4, r0, n)
  refine aj_run (C := True) (pc' := 12) (la' := [some (.inr (.inr (some (1, 0)))), some (.inr (.inr (some (4, s)))), some (.inl w), some (.inl (w * 7)), some (.inl 0)]) (st' := []) (M' := (P, g4, r0, n)) ok_X10_comeOffAs true 3 rfl trivial ?_
  refine aj_loop (σ := (Int)) (fun xL => 0 ≤ xL ∧ xL ≤ g 2 0 1 ∧ gFi h s w xL = 1) (fun xL => (g 2 0 1 - xL).toNat) (fun xL => [some (.inr (.inr (some (1, 0)))), some (.inr (.inr (some (4, s)))), some (.inl w), some (.inl (w * 7)), some (.inl xL)]) (fun xL => []) (fun xL => (P, g4, r0, n)) ?_ (0) ?_
  rotate_left
  · (try dsimp only); exact ⟨by omega, by omega, rfl⟩
  rintro i hI ih12
  try dsimp only at hI ih12
  obtain ⟨i1, i2, i3⟩ := hI
  change ax_J _ _ _ _ _ _ _ _ _ 12 [some (.inr (.inr (some (1, 0)))), some (.inr (.inr (some (4, s)))), some (.inl w), some (.inl (w * 7)), some (.inl i)] [] (P, g4, r0, n)
  refine aj_run (C := True) (pc' := 15) (la' := [some (.inr (.inr (some (1, 0)))), some (.inr (.inr (some (4, s)))), some (.inl w), some (.inl (w * 7)), some (.inl i)]) (st' := [.inr (.inr (some (1, 0))), .inl i]) (M' := (P, g4, r0, n)) ok_X10_comeOffAs true 2 rfl trivial ?_
  refine aj_getR (f := 1) (k := 0) (g := 2) (o := 0) (u := 0) (ax_lk_ok (q := (1, 0)) rfl) rfl rfl hs.2.2.2.1 hs.2.2.2.2 (ax_dec2 (i := .getfield 10) (n := 3) ok_X10_comeOffAs rfl) ?_
  refine aj_run (C := True) (pc' := 21) (la' := [some (.inr (.inr (some (1, 0)))), some (.inr (.inr (some (4, s)))), some (.inl w), some (.inl (w * 7)), some (.inl i)]) (st' := [.inl (g4 2 0 1), .inl i]) (M' := (P, g4, r0, n)) ok_X10_comeOffAs true 1 rfl trivial ?_
  refine aj_icmp_ge (tgt := 54) (ax_dec2 (i := .if_icmp .ge 33) (n := 3) ok_X10_comeOffAs rfl) (by decide) (fun c1 => ?_) (fun c1 => ?_)
  · refine aj_run (C := True) (pc' := 55) (la' := [some (.inr (.inr (some (1, 0)))), some (.inr (.inr (some (4, s)))), some (.inl w), some (.inl (w * 7)), some (.inl i)]) (st' := [.inl 1]) (M' := (P, g4, r0, n)) ok_X10_comeOffAs true 1 rfl trivial ?_
    refine aj_ret (r := some (.inl 1)) (ax_dec2 (i := .ireturn) (n := 1) ok_X10_comeOffAs rfl) ⟨?_, ?_, by decide, by decide⟩ rfl
    · exact ⟨ax_si (by unfold fFi; rw [show h 50 0 2 = i by omega]; exact i3.symm), g4, rfl, hd4, fr4⟩
    · exact ax_ro_b (Or.inr rfl)
  · have hr4 := row4 i i1 (by omega)
    have hc4 := hq4.2.2.2.2 i i1 (by omega)
    refine aj_run (C := (0 ≤ i ∧ i < n 402 s) ∧ True) (pc' := 32) (la' := [some (.inr (.inr (some (1, 0)))), some (.inr (.inr (some (4, s)))), some (.inl w), some (.inl (w * 7)), some (.inl i)]) (st' := [.inr (.inr (some (1, 0))), .inl (g4 402 s i)]) (M' := (P, g4, r0, n)) ok_X10_comeOffAs true 5 rfl (by refine ⟨?_, trivial⟩ <;> (omega)) ?_
    refine aj_getR (f := 1) (k := 0) (g := 2) (o := 0) (u := 0) (ax_lk_ok (q := (1, 0)) rfl) rfl rfl hs.2.2.2.1 hs.2.2.2.2 (ax_dec2 (i := .getfield 10) (n := 3) ok_X10_comeOffAs rfl) ?_
    refine aj_run (C := (-2147483648 ≤ (w * 7) + i ∧ (w * 7) + i ≤ 2147483647) ∧ (0 ≤ (w * 7) + i ∧ (w * 7) + i < n 209 0) ∧ True) (pc' := 43) (la' := [some (.inr (.inr (some (1, 0)))), some (.inr (.inr (some (4, s)))), some (.inl w), some (.inl (w * 7)), some (.inl i)]) (st' := [.inl (g4 209 0 ((w * 7) + i)), .inl (g4 402 s i)]) (M' := (P, g4, r0, n)) ok_X10_comeOffAs true 5 rfl (by refine ⟨?_, ?_, trivial⟩ <;> (omega)) ?_
    refine aj_icmp_eq (tgt := 48) (ax_dec2 (i := .if_icmp .eq 5) (n := 3) ok_X10_comeOffAs rfl) (by decide) (fun c2 => ?_) (fun c2 => ?_)
    · refine aj_run (C := (-2147483648 ≤ i + 1 ∧ i + 1 ≤ 2147483647) ∧ True) (pc' := 12) (la' := [some (.inr (.inr (some (1, 0)))), some (.inr (.inr (some (4, s)))), some (.inl w), some (.inl (w * 7)), some (.inl (i + 1))]) (st' := []) (M' := (P, g4, r0, n)) ok_X10_comeOffAs true 2 rfl (by refine ⟨?_, trivial⟩ <;> (omega)) ?_
      refine ih12 (i + 1) ?_ ?_
      · (try dsimp only); exact ⟨by omega, by omega, by rw [gFi_s i1, if_pos ⟨by omega, by omega⟩]⟩
      · omega
    · refine aj_run (C := True) (pc' := 47) (la' := [some (.inr (.inr (some (1, 0)))), some (.inr (.inr (some (4, s)))), some (.inl w), some (.inl (w * 7)), some (.inl i)]) (st' := [.inl 0]) (M' := (P, g4, r0, n)) ok_X10_comeOffAs true 1 rfl trivial ?_
      refine aj_ret (r := some (.inl 0)) (ax_dec2 (i := .ireturn) (n := 1) ok_X10_comeOffAs rfl) ⟨?_, ?_, by decide, by decide⟩ rfl
      · (have hz : gFi h s w (i + 1) = 0 := (by rw [gFi_s i1, if_neg (fun q => by omega)]); have h9 := gFi_0 (by omega) hz (h 50 0 2 - (i + 1)).toNat; rw [show i + 1 + (((h 50 0 2 - (i + 1)).toNat : Nat) : Int) = h 50 0 2 by omega] at h9; exact ⟨ax_si (by unfold fFi; exact h9.symm), g4, rfl, hd4, fr4⟩)
      · exact ax_ro_b (Or.inl rfl)

set_option maxRecDepth 100000 in
set_option maxHeartbeats 4000000 in
theorem cp_areHeardAs (s w : Int) (P : Nat → Int → Prop) (g : Nat → Int → Int → Int) (r0 : Nat → Int → Int → Option (Nat × Int)) (n : Nat → Int → Int) (h : Nat → Int → Int → Int) (hs : cSta P r0 n g h) (hd : cDy g h) (hw : 0 ≤ w ∧ w < 128) (hsh : cShe P r0 n g h) (hs4 : 0 ≤ s ∧ s < 4) : ax_S yX10_areHeardAs cX10_areHeardAs 5 (some FieldType.boolean) 12 0 0 [.inr (.inr (some (1, 0))), .inr (.inr (some (4, s))), .inl w] (P, g, r0, n) (fun r M' => r = some (.inl (fHr h s w)) ∧ ∃ g', M' = (P, g', r0, n) ∧ cDy g' h ∧ cFr TW g' g) := by
  have hAs := hs.1.1
  have hPs := hs.1.2.1
  have hOs := hs.1.2.2
  have hP1 := hPs.1
  have hA1 := hAs.1
  have hsz := hOs.2.2.1
  have hm := hd.1
  have hca := hd.2
  have hln := hs.2.1
  have hxz := hPs.1.1
  refine ax_S_of (own := 10) (by decide) rfl (fun h => absurd h (by decide)) rfl (Nat.le_of_ble_eq_true rfl) ?_
  change ax_J _ _ _ _ _ _ _ _ _ _ [some (.inr (.inr (some (1, 0)))), some (.inr (.inr (some (4, s)))), some (.inl w), none, none] _ _
  refine aj_run (C := True) (pc' := 1) (la' := [some (.inr (.inr (some (1, 0)))), some (.inr (.inr (some (4, s)))), some (.inl w), none, none]) (st' := [.inr (.inr (some (1, 0)))]) (M' := (P, g, r0, n)) ok_X10_areHeardAs true 1 rfl trivial ?_
  refine aj_getR (f := 1) (k := 0) (g := 2) (o := 0) (u := 0) (ax_lk_ok (q := (1, 0)) rfl) rfl rfl hs.2.2.2.1 hs.2.2.2.2 (ax_dec2 (i := .getfield 10) (n := 3) ok_X10_areHeardAs rfl) ?_
  refine aj_run (C := True) (pc' := 6) (la' := [some (.inr (.inr (some (1, 0)))), some (.inr (.inr (some (4, s)))), some (.inl w), none, none]) (st' := [.inl 0, .inl w, .inr (.inr (some (2, 0)))]) (M' := (P, g, r0, n)) ok_X10_areHeardAs true 2 rfl trivial ?_
  refine aj_callV (av := [.inl w, .inl 0]) (st := []) (f := 2) (o := 0) (ci := 2) cal_X2_begin lk_10_197 ins_X2_begin rfl sel_X2_begin rfl (fun c9 h9 _ => by simpa [ax_ok] using h9) (cp_begin w 0 _ _ _ _ hAs (by decide)) ⟨by decide, by decide, by decide, by decide⟩ (Nat.le_of_ble_eq_true rfl) (ax_dec2 (i := .invokevirtual 197) (n := 3) ok_X10_areHeardAs rfl) (fun r M' hq => ?_)
  obtain ⟨rfl, rfl⟩ := hq
  change ax_J _ _ _ _ _ _ _ _ _ 9 [some (.inr (.inr (some (1, 0)))), some (.inr (.inr (some (4, s)))), some (.inl w), none, none] [] (P, cBegin g w 0, r0, n)
  obtain ⟨hb1, hb2, hb3, hb4, hb5, hb6, hb7⟩ := beg_all hs hm w 0
  rw [beg_42] at hb2 hb3 hb4 hb5 hb7
  have hq4 := hsh.2 s hs4.1 hs4.2
  refine aj_run (C := True) (pc' := 14) (la' := [some (.inr (.inr (some (1, 0)))), some (.inr (.inr (some (4, s)))), some (.inl w), some (.inl 0), some (.inl 0)]) (st' := []) (M' := (P, cBegin g w 0, r0, n)) ok_X10_areHeardAs true 4 rfl trivial ?_
  refine aj_cast (congrArg (fun (z9 : Int) => ([some (.inr (.inr (some (1, 0)))), some (.inr (.inr (some (4, s)))), some (.inl w), some (.inl z9), some (.inl 0)] : List (Option ax_V))) (show 0 = (gHr h s w 0).2 from by rfl)) rfl rfl ?_
  refine aj_loop (σ := (Int) × (Nat → Int → Int → Int)) (fun xL => 0 ≤ xL.1 ∧ xL.1 ≤ 201 ∧ cSm xL.2 (wBegin h w) xL.1 ∧ cFr (TGo (g 2 0 1)) xL.2 (cBegin g w 0) ∧ (gHr h s w xL.1).1 = 1) (fun xL => (201 - xL.1).toNat) (fun xL => [some (.inr (.inr (some (1, 0)))), some (.inr (.inr (some (4, s)))), some (.inl w), some (.inl ((gHr h s w xL.1).2)), some (.inl xL.1)]) (fun xL => []) (fun xL => (P, xL.2, r0, n)) ?_ (0, cBegin g w 0) ?_
  rotate_left
  · (try dsimp only); exact ⟨by omega, by omega, hb5, fun _ _ _ _ => rfl, rfl⟩
  rintro ⟨b, g1⟩ hI ih14
  try dsimp only at hI ih14
  obtain ⟨i1, i2, i3, i4, i5⟩ := hI
  change ax_J _ _ _ _ _ _ _ _ _ 14 [some (.inr (.inr (some (1, 0)))), some (.inr (.inr (some (4, s)))), some (.inl w), some (.inl ((gHr h s w b).2)), some (.inl b)] [] (P, g1, r0, n)
  have hz1 : g1 2 0 1 = g 2 0 1 := (i4 2 0 1 (by unfold TGo; omega)).trans (cBg_fr 2 0 1 (by unfold TG; omega))
  have hgi := gHr_in (g := h) (s := s) (w := w) i1
  have h41a : g1 4 s 1 = g 4 s 1 := (i4 4 s 1 (by unfold TGo; omega)).trans (cBg_fr 4 s 1 (by unfold TG; omega))
  refine aj_run (C := True) (pc' := 19) (la' := [some (.inr (.inr (some (1, 0)))), some (.inr (.inr (some (4, s)))), some (.inl w), some (.inl ((gHr h s w b).2)), some (.inl b)]) (st' := [.inl 200, .inl b]) (M' := (P, g1, r0, n)) ok_X10_areHeardAs true 2 rfl trivial ?_
  refine aj_icmp_gt (tgt := 83) (ax_dec2 (i := .if_icmp .gt 64) (n := 3) ok_X10_areHeardAs rfl) (by decide) (fun c1 => ?_) (fun c1 => ?_)
  · refine aj_run (C := True) (pc' := 88) (la' := [some (.inr (.inr (some (1, 0)))), some (.inr (.inr (some (4, s)))), some (.inl w), some (.inl ((gHr h s w b).2)), some (.inl b)]) (st' := [.inl (g1 4 s 1), .inl ((gHr h s w b).2)]) (M' := (P, g1, r0, n)) ok_X10_areHeardAs true 3 rfl trivial ?_
    refine aj_icmp_ne (tgt := 95) (ax_dec2 (i := .if_icmp .ne 7) (n := 3) ok_X10_areHeardAs rfl) (by decide) (fun c2 => ?_) (fun c2 => ?_)
    · refine aj_run (C := True) (pc' := 96) (la' := [some (.inr (.inr (some (1, 0)))), some (.inr (.inr (some (4, s)))), some (.inl w), some (.inl ((gHr h s w b).2)), some (.inl b)]) (st' := [.inl 0]) (M' := (P, g1, r0, n)) ok_X10_areHeardAs true 1 rfl trivial ?_
      refine aj_ret (r := some (.inl 0)) (ax_dec2 (i := .ireturn) (n := 1) ok_X10_areHeardAs rfl) ⟨?_, ?_, by decide, by decide⟩ rfl
      · (have fr9 : cFr TG g1 g := (fun f o j q => (i4 f o j (TGo_TG q)).trans (cBg_fr f o j q)); have h201 : gHr h s w 201 = gHr h s w b := (by by_cases z : b = 201; (rw [z]); (have y := gHr_off (s := s) hOs i1 (by omega) i3 (201 - b).toNat (by omega); rw [show b + (((201 - b).toNat : Nat) : Int) = 201 by omega] at y; exact y)); exact ⟨ax_si (by unfold fHr; rw [h201, bI_f (fun z => by omega)]), g1, rfl, ⟨cSm_mz i3, cCa_g fr9 hca⟩, cFr_TG fr9⟩)
      · exact ax_ro_b (Or.inl rfl)
    · refine aj_run (C := True) (pc' := 96) (la' := [some (.inr (.inr (some (1, 0)))), some (.inr (.inr (some (4, s)))), some (.inl w), some (.inl ((gHr h s w b).2)), some (.inl b)]) (st' := [.inl 1]) (M' := (P, g1, r0, n)) ok_X10_areHeardAs true 2 rfl trivial ?_
      refine aj_ret (r := some (.inl 1)) (ax_dec2 (i := .ireturn) (n := 1) ok_X10_areHeardAs rfl) ⟨?_, ?_, by decide, by decide⟩ rfl
      · (have fr9 : cFr TG g1 g := (fun f o j q => (i4 f o j (TGo_TG q)).trans (cBg_fr f o j q)); have h201 : gHr h s w 201 = gHr h s w b := (by by_cases z : b = 201; (rw [z]); (have y := gHr_off (s := s) hOs i1 (by omega) i3 (201 - b).toNat (by omega); rw [show b + (((201 - b).toNat : Nat) : Int) = 201 by omega] at y; exact y)); exact ⟨ax_si (by unfold fHr; rw [h201, bI_t ⟨by omega, by omega⟩]), g1, rfl, ⟨cSm_mz i3, cCa_g fr9 hca⟩, cFr_TG fr9⟩)
      · exact ax_ro_b (Or.inr rfl)
  · refine aj_run (C := True) (pc' := 23) (la' := [some (.inr (.inr (some (1, 0)))), some (.inr (.inr (some (4, s)))), some (.inl w), some (.inl ((gHr h s w b).2)), some (.inl b)]) (st' := [.inr (.inr (some (1, 0)))]) (M' := (P, g1, r0, n)) ok_X10_areHeardAs true 1 rfl trivial ?_
    refine aj_getR (f := 1) (k := 0) (g := 2) (o := 0) (u := 0) (ax_lk_ok (q := (1, 0)) rfl) rfl rfl hs.2.2.2.1 hs.2.2.2.2 (ax_dec2 (i := .getfield 10) (n := 3) ok_X10_areHeardAs rfl) ?_
    refine aj_run (C := True) (pc' := 29) (la' := [some (.inr (.inr (some (1, 0)))), some (.inr (.inr (some (4, s)))), some (.inl w), some (.inl ((gHr h s w b).2)), some (.inl b)]) (st' := [.inl (g1 2 0 8)]) (M' := (P, g1, r0, n)) ok_X10_areHeardAs true 1 rfl trivial ?_
    refine aj_if_le (tgt := 83) (ax_dec2 (i := .ifCond .le 54) (n := 3) ok_X10_areHeardAs rfl) (by decide) (fun c3 => ?_) (fun c3 => ?_)
    · refine aj_run (C := True) (pc' := 88) (la' := [some (.inr (.inr (some (1, 0)))), some (.inr (.inr (some (4, s)))), some (.inl w), some (.inl ((gHr h s w b).2)), some (.inl b)]) (st' := [.inl (g1 4 s 1), .inl ((gHr h s w b).2)]) (M' := (P, g1, r0, n)) ok_X10_areHeardAs true 3 rfl trivial ?_
      refine aj_icmp_ne (tgt := 95) (ax_dec2 (i := .if_icmp .ne 7) (n := 3) ok_X10_areHeardAs rfl) (by decide) (fun c4 => ?_) (fun c4 => ?_)
      · refine aj_run (C := True) (pc' := 96) (la' := [some (.inr (.inr (some (1, 0)))), some (.inr (.inr (some (4, s)))), some (.inl w), some (.inl ((gHr h s w b).2)), some (.inl b)]) (st' := [.inl 0]) (M' := (P, g1, r0, n)) ok_X10_areHeardAs true 1 rfl trivial ?_
        refine aj_ret (r := some (.inl 0)) (ax_dec2 (i := .ireturn) (n := 1) ok_X10_areHeardAs rfl) ⟨?_, ?_, by decide, by decide⟩ rfl
        · (have fr9 : cFr TG g1 g := (fun f o j q => (i4 f o j (TGo_TG q)).trans (cBg_fr f o j q)); have h201 : gHr h s w 201 = gHr h s w b := (by by_cases z : b = 201; (rw [z]); (have y := gHr_off (s := s) hOs i1 (by omega) i3 (201 - b).toNat (by omega); rw [show b + (((201 - b).toNat : Nat) : Int) = 201 by omega] at y; exact y)); exact ⟨ax_si (by unfold fHr; rw [h201, bI_f (fun z => by omega)]), g1, rfl, ⟨cSm_mz i3, cCa_g fr9 hca⟩, cFr_TG fr9⟩)
        · exact ax_ro_b (Or.inl rfl)
      · refine aj_run (C := True) (pc' := 96) (la' := [some (.inr (.inr (some (1, 0)))), some (.inr (.inr (some (4, s)))), some (.inl w), some (.inl ((gHr h s w b).2)), some (.inl b)]) (st' := [.inl 1]) (M' := (P, g1, r0, n)) ok_X10_areHeardAs true 2 rfl trivial ?_
        refine aj_ret (r := some (.inl 1)) (ax_dec2 (i := .ireturn) (n := 1) ok_X10_areHeardAs rfl) ⟨?_, ?_, by decide, by decide⟩ rfl
        · (have fr9 : cFr TG g1 g := (fun f o j q => (i4 f o j (TGo_TG q)).trans (cBg_fr f o j q)); have h201 : gHr h s w 201 = gHr h s w b := (by by_cases z : b = 201; (rw [z]); (have y := gHr_off (s := s) hOs i1 (by omega) i3 (201 - b).toNat (by omega); rw [show b + (((201 - b).toNat : Nat) : Int) = 201 by omega] at y; exact y)); exact ⟨ax_si (by unfold fHr; rw [h201, bI_t ⟨by omega, by omega⟩]), g1, rfl, ⟨cSm_mz i3, cCa_g fr9 hca⟩, cFr_TG fr9⟩)
        · exact ax_ro_b (Or.inr rfl)
    · refine aj_run (C := True) (pc' := 33) (la' := [some (.inr (.inr (some (1, 0)))), some (.inr (.inr (some (4, s)))), some (.inl w), some (.inl ((gHr h s w b).2)), some (.inl b)]) (st' := [.inr (.inr (some (1, 0)))]) (M' := (P, g1, r0, n)) ok_X10_areHeardAs true 1 rfl trivial ?_
      refine aj_getR (f := 1) (k := 0) (g := 2) (o := 0) (u := 0) (ax_lk_ok (q := (1, 0)) rfl) rfl rfl hs.2.2.2.1 hs.2.2.2.2 (ax_dec2 (i := .getfield 10) (n := 3) ok_X10_areHeardAs rfl) ?_
      refine aj_run (C := True) (pc' := 38) (la' := [some (.inr (.inr (some (1, 0)))), some (.inr (.inr (some (4, s)))), some (.inl w), some (.inl ((gHr h s w b).2)), some (.inl b)]) (st' := [.inl b, .inr (.inr (some (2, 0)))]) (M' := (P, g1, r0, n)) ok_X10_areHeardAs true 1 rfl trivial ?_
      refine aj_callV (av := [.inl b]) (st := []) (f := 2) (o := 0) (ci := 2) cal_X2_goOn lk_10_201 ins_X2_goOn rfl sel_X2_goOn rfl (fun c9 h9 _ => by simpa [ax_ok] using h9) (cp_goOn b b _ _ _ _ (by rw [hz1]; exact hb1) ⟨hs.2.1.1, hs.2.1.2.1⟩ hs.2.1.2.2.1 (wBegin h w) (cPl_g (fun j z1 z2 => i4 2 0 j (by unfold TGo; omega)) (fun a j => i4 500 a j (by unfold TGo; omega)) hb2) hb3 hb4 (by omega) (by omega) (by omega) i3 _ _ ⟨hs.2.2.1.1, cRu_c (fun f j z1 z2 => i4 f _ j (by unfold TGo; omega)) hb6⟩ cV_n hb7) ⟨by decide, by decide, by decide, by decide⟩ (Nat.le_of_ble_eq_true rfl) (ax_dec2 (i := .invokevirtual 201) (n := 3) ok_X10_areHeardAs rfl) (fun r M' hq => ?_)
      obtain ⟨rfl, g5, rfl, sm3, fr3⟩ := hq
      rw [hz1] at fr3
      have fr5 := cFr_t fr3 i4
      have hmi : g5 2 0 7 = wMi (wBegin h w) (b + 1).toNat := sm3.2.1
      have hms := wMi_s (h := h) (w := w) (b := b) (by omega)
      rw [← hmi] at hms
      have hgs := gHr_s (g := h) (s := s) (w := w) (k := b) i1
      have h41 : g5 4 s 1 = g 4 s 1 := (fr5 4 s 1 (by unfold TGo; omega)).trans (cBg_fr 4 s 1 (by unfold TG; omega))
      have hcl := fun i => (fr5 402 s i (by unfold TGo; omega)).trans (cBg_fr 402 s i (by unfold TG; omega))
      change ax_J _ _ _ _ _ _ _ _ _ 41 [some (.inr (.inr (some (1, 0)))), some (.inr (.inr (some (4, s)))), some (.inl w), some (.inl ((gHr h s w b).2)), some (.inl b)] [] (P, g5, r0, n)
      refine aj_run (C := True) (pc' := 42) (la' := [some (.inr (.inr (some (1, 0)))), some (.inr (.inr (some (4, s)))), some (.inl w), some (.inl ((gHr h s w b).2)), some (.inl b)]) (st' := [.inr (.inr (some (1, 0)))]) (M' := (P, g5, r0, n)) ok_X10_areHeardAs true 1 rfl trivial ?_
      refine aj_getR (f := 1) (k := 0) (g := 2) (o := 0) (u := 0) (ax_lk_ok (q := (1, 0)) rfl) rfl rfl hs.2.2.2.1 hs.2.2.2.2 (ax_dec2 (i := .getfield 10) (n := 3) ok_X10_areHeardAs rfl) ?_
      refine aj_run (C := True) (pc' := 50) (la' := [some (.inr (.inr (some (1, 0)))), some (.inr (.inr (some (4, s)))), some (.inl w), some (.inl ((gHr h s w b).2)), some (.inl b)]) (st' := [.inl b, .inl (g5 2 0 7)]) (M' := (P, g5, r0, n)) ok_X10_areHeardAs true 2 rfl trivial ?_
      refine aj_icmp_ne (tgt := 77) (ax_dec2 (i := .if_icmp .ne 27) (n := 3) ok_X10_areHeardAs rfl) (by decide) (fun c5 => ?_) (fun c5 => ?_)
      · refine aj_run (C := (-2147483648 ≤ b + 1 ∧ b + 1 ≤ 2147483647) ∧ True) (pc' := 14) (la' := [some (.inr (.inr (some (1, 0)))), some (.inr (.inr (some (4, s)))), some (.inl w), some (.inl ((gHr h s w b).2)), some (.inl (b + 1))]) (st' := []) (M' := (P, g5, r0, n)) ok_X10_areHeardAs true 2 rfl (by refine ⟨?_, trivial⟩ <;> (omega)) ?_
        refine aj_cast (congrArg (fun (z9 : Int) => ([some (.inr (.inr (some (1, 0)))), some (.inr (.inr (some (4, s)))), some (.inl w), some (.inl z9), some (.inl (b + 1))] : List (Option ax_V))) (show ((gHr h s w b).2) = (gHr h s w (b + 1)).2 from by (rw [hgs]; (first | rw [if_pos (hms.mp (by omega))] | rw [if_neg (fun z => by have := hms.mpr z; omega)])))) rfl rfl ?_
        refine ih14 (b + 1, g5) ?_ ?_
        · (try dsimp only); exact ⟨by omega, by omega, sm3, fr5, by rw [hgs]; first | (rw [if_neg (fun z => by have := hms.mpr z; omega)]; exact i5) | (rw [if_pos (hms.mp (by omega))]; exact if_pos ⟨by omega, by omega, by omega⟩)⟩
        · omega
      · refine aj_run (C := True) (pc' := 58) (la' := [some (.inr (.inr (some (1, 0)))), some (.inr (.inr (some (4, s)))), some (.inl w), some (.inl ((gHr h s w b).2)), some (.inl b)]) (st' := [.inl (g5 4 s 1), .inl ((gHr h s w b).2)]) (M' := (P, g5, r0, n)) ok_X10_areHeardAs true 3 rfl trivial ?_
        refine aj_icmp_ge (tgt := 72) (ax_dec2 (i := .if_icmp .ge 14) (n := 3) ok_X10_areHeardAs rfl) (by decide) (fun c6 => ?_) (fun c6 => ?_)
        · refine aj_run (C := True) (pc' := 73) (la' := [some (.inr (.inr (some (1, 0)))), some (.inr (.inr (some (4, s)))), some (.inl w), some (.inl ((gHr h s w b).2)), some (.inl b)]) (st' := [.inl 0]) (M' := (P, g5, r0, n)) ok_X10_areHeardAs true 1 rfl trivial ?_
          refine aj_ret (r := some (.inl 0)) (ax_dec2 (i := .ireturn) (n := 1) ok_X10_areHeardAs rfl) ⟨?_, ?_, by decide, by decide⟩ rfl
          · (have fr9 : cFr TG g5 g := (fun f o j q => (fr5 f o j (TGo_TG q)).trans (cBg_fr f o j q)); have hz : (gHr h s w (b + 1)).1 = 0 := (by rw [hgs, if_pos (hms.mp (by omega))]; exact if_neg (fun z => by omega)); have h9 := gHr_0 (by omega) hz (201 - (b + 1)).toNat; rw [show b + 1 + (((201 - (b + 1)).toNat : Nat) : Int) = 201 by omega] at h9; exact ⟨ax_si (by unfold fHr; rw [bI_f (fun z => z.1 h9)]), g5, rfl, ⟨cSm_mz sm3, cCa_g fr9 hca⟩, cFr_TG fr9⟩)
          · exact ax_ro_b (Or.inl rfl)
        · have hcb : g5 402 s ((gHr h s w b).2) = h 157 0 (40 * s + (gHr h s w b).2) := (hcl _).trans (hq4.2.2.2.2 _ (by omega) (by omega))
          refine aj_run (C := (0 ≤ (gHr h s w b).2 ∧ (gHr h s w b).2 < n 402 s) ∧ True) (pc' := 69) (la' := [some (.inr (.inr (some (1, 0)))), some (.inr (.inr (some (4, s)))), some (.inl w), some (.inl ((gHr h s w b).2)), some (.inl b)]) (st' := [.inl b, .inl (g5 402 s ((gHr h s w b).2))]) (M' := (P, g5, r0, n)) ok_X10_areHeardAs true 5 rfl (by refine ⟨?_, trivial⟩ <;> (omega)) ?_
          refine aj_icmp_eq (tgt := 74) (ax_dec2 (i := .if_icmp .eq 5) (n := 3) ok_X10_areHeardAs rfl) (by decide) (fun c7 => ?_) (fun c7 => ?_)
          · refine aj_run (C := (-2147483648 ≤ ((gHr h s w b).2) + 1 ∧ ((gHr h s w b).2) + 1 ≤ 2147483647) ∧ (-2147483648 ≤ b + 1 ∧ b + 1 ≤ 2147483647) ∧ True) (pc' := 14) (la' := [some (.inr (.inr (some (1, 0)))), some (.inr (.inr (some (4, s)))), some (.inl w), some (.inl (((gHr h s w b).2) + 1)), some (.inl (b + 1))]) (st' := []) (M' := (P, g5, r0, n)) ok_X10_areHeardAs true 3 rfl (by refine ⟨?_, ?_, trivial⟩ <;> (omega)) ?_
            refine aj_cast (congrArg (fun (z9 : Int) => ([some (.inr (.inr (some (1, 0)))), some (.inr (.inr (some (4, s)))), some (.inl w), some (.inl z9), some (.inl (b + 1))] : List (Option ax_V))) (show (((gHr h s w b).2) + 1) = (gHr h s w (b + 1)).2 from by (rw [hgs]; (first | rw [if_pos (hms.mp (by omega))] | rw [if_neg (fun z => by have := hms.mpr z; omega)])))) rfl rfl ?_
            refine ih14 (b + 1, g5) ?_ ?_
            · (try dsimp only); exact ⟨by omega, by omega, sm3, fr5, by rw [hgs]; first | (rw [if_neg (fun z => by have := hms.mpr z; omega)]; exact i5) | (rw [if_pos (hms.mp (by omega))]; exact if_pos ⟨by omega, by omega, by omega⟩)⟩
            · omega
          · refine aj_run (C := True) (pc' := 73) (la' := [some (.inr (.inr (some (1, 0)))), some (.inr (.inr (some (4, s)))), some (.inl w), some (.inl ((gHr h s w b).2)), some (.inl b)]) (st' := [.inl 0]) (M' := (P, g5, r0, n)) ok_X10_areHeardAs true 1 rfl trivial ?_
            refine aj_ret (r := some (.inl 0)) (ax_dec2 (i := .ireturn) (n := 1) ok_X10_areHeardAs rfl) ⟨?_, ?_, by decide, by decide⟩ rfl
            · (have fr9 : cFr TG g5 g := (fun f o j q => (fr5 f o j (TGo_TG q)).trans (cBg_fr f o j q)); have hz : (gHr h s w (b + 1)).1 = 0 := (by rw [hgs, if_pos (hms.mp (by omega))]; exact if_neg (fun z => by omega)); have h9 := gHr_0 (by omega) hz (201 - (b + 1)).toNat; rw [show b + 1 + (((201 - (b + 1)).toNat : Nat) : Int) = 201 by omega] at h9; exact ⟨ax_si (by unfold fHr; rw [bI_f (fun z => z.1 h9)]), g5, rfl, ⟨cSm_mz sm3, cCa_g fr9 hca⟩, cFr_TG fr9⟩)
            · exact ax_ro_b (Or.inl rfl)

set_option maxRecDepth 100000 in
set_option maxHeartbeats 4000000 in
theorem cp_fits (s t w : Int) (P : Nat → Int → Prop) (g : Nat → Int → Int → Int) (r0 : Nat → Int → Int → Option (Nat × Int)) (n : Nat → Int → Int) (h : Nat → Int → Int → Int) (hs : cSta P r0 n g h) (hd : cDy g h) (hsh : cShe P r0 n g h) : ax_S yX10_fits cX10_fits 8 (some FieldType.int) 14 0 0 [.inr (.inr (some (1, 0))), .inl s, .inl t, .inl w] (P, g, r0, n) (fun r M' => r = some (.inl (fFit h s t w)) ∧ ∃ g', M' = (P, g', r0, n) ∧ cDy g' h ∧ cFr TW g' g) := by
  have hAs := hs.1.1
  have hPs := hs.1.2.1
  have hOs := hs.1.2.2
  have hP1 := hPs.1
  have hA1 := hAs.1
  have hsz := hOs.2.2.1
  have hm := hd.1
  have hca := hd.2
  have hxz := hPs.1.1
  refine ax_S_of (own := 10) (by decide) rfl (fun h => absurd h (by decide)) rfl (Nat.le_of_ble_eq_true rfl) ?_
  change ax_J _ _ _ _ _ _ _ _ _ _ [some (.inr (.inr (some (1, 0)))), some (.inl s), some (.inl t), some (.inl w), none, none, none, none] _ _
  refine aj_run (C := True) (pc' := 1) (la' := [some (.inr (.inr (some (1, 0)))), some (.inl s), some (.inl t), some (.inl w), none, none, none, none]) (st' := [.inl s]) (M' := (P, g, r0, n)) ok_X10_fits true 1 rfl trivial ?_
  refine aj_callS (av := [.inl s]) (st := []) cal_X10_isSheet lk_10_216 stc_X10_isSheet (cp_isSheet s _ _ _ _) ⟨by decide, by decide, by decide, by decide⟩ (Nat.le_of_ble_eq_true rfl) (ax_dec2 (i := .invokestatic 216) (n := 3) ok_X10_fits rfl) (fun r M' hq => ?_)
  obtain ⟨rfl, rfl⟩ := hq
  change ax_J _ _ _ _ _ _ _ _ _ 4 [some (.inr (.inr (some (1, 0)))), some (.inl s), some (.inl t), some (.inl w), none, none, none, none] [.inl (bI (0 ≤ s ∧ s ≤ 3))] (P, g, r0, n)
  refine aj_if_eq (tgt := 21) (ax_dec2 (i := .ifCond .eq 17) (n := 3) ok_X10_fits rfl) (by decide) (fun c1 => ?_) (fun c1 => ?_)
  · replace c1 := bI_e0 c1
    refine aj_run (C := True) (pc' := 23) (la' := [some (.inr (.inr (some (1, 0)))), some (.inl s), some (.inl t), some (.inl w), none, none, none, none]) (st' := [.inl (-2)]) (M' := (P, g, r0, n)) ok_X10_fits true 1 rfl trivial ?_
    refine aj_ret (r := some (.inl (-2))) (ax_dec2 (i := .ireturn) (n := 1) ok_X10_fits rfl) ⟨?_, ?_, by decide, by decide⟩ rfl
    · (first | (exfalso; omega) | exact ⟨ax_si (by unfold fFit; rw [if_neg (by omega)]), g, rfl, hd, fun _ _ _ _ => rfl⟩ | (obtain ⟨q1, q2, ⟨q3, q5⟩, q6, q7⟩ := hsh.2 s (by omega) (by omega); exact ⟨ax_si (by unfold fFit; rw [if_pos (by omega)]; first | rw [if_pos (by omega)] | (rw [if_neg (by omega), if_pos (by omega)])), g, rfl, hd, fun _ _ _ _ => rfl⟩))
    · exact ax_ro_i
  · replace c1 := bI_n0 c1
    refine aj_run (C := True) (pc' := 8) (la' := [some (.inr (.inr (some (1, 0)))), some (.inl s), some (.inl t), some (.inl w), none, none, none, none]) (st' := [.inl t]) (M' := (P, g, r0, n)) ok_X10_fits true 1 rfl trivial ?_
    refine aj_callS (av := [.inl t]) (st := []) cal_X10_isEither lk_10_163 stc_X10_isEither (cp_isEither t _ _ _ _) ⟨by decide, by decide, by decide, by decide⟩ (Nat.le_of_ble_eq_true rfl) (ax_dec2 (i := .invokestatic 163) (n := 3) ok_X10_fits rfl) (fun r M' hq => ?_)
    obtain ⟨rfl, rfl⟩ := hq
    change ax_J _ _ _ _ _ _ _ _ _ 11 [some (.inr (.inr (some (1, 0)))), some (.inl s), some (.inl t), some (.inl w), none, none, none, none] [.inl (bI (0 ≤ t ∧ t ≤ 1))] (P, g, r0, n)
    refine aj_if_eq (tgt := 21) (ax_dec2 (i := .ifCond .eq 10) (n := 3) ok_X10_fits rfl) (by decide) (fun c2 => ?_) (fun c2 => ?_)
    · replace c2 := bI_e0 c2
      refine aj_run (C := True) (pc' := 23) (la' := [some (.inr (.inr (some (1, 0)))), some (.inl s), some (.inl t), some (.inl w), none, none, none, none]) (st' := [.inl (-2)]) (M' := (P, g, r0, n)) ok_X10_fits true 1 rfl trivial ?_
      refine aj_ret (r := some (.inl (-2))) (ax_dec2 (i := .ireturn) (n := 1) ok_X10_fits rfl) ⟨?_, ?_, by decide, by decide⟩ rfl
      · (first | (exfalso; omega) | exact ⟨ax_si (by unfold fFit; rw [if_neg (by omega)]), g, rfl, hd, fun _ _ _ _ => rfl⟩ | (obtain ⟨q1, q2, ⟨q3, q5⟩, q6, q7⟩ := hsh.2 s (by omega) (by omega); exact ⟨ax_si (by unfold fFit; rw [if_pos (by omega)]; first | rw [if_pos (by omega)] | (rw [if_neg (by omega), if_pos (by omega)])), g, rfl, hd, fun _ _ _ _ => rfl⟩))
      · exact ax_ro_i
    · replace c2 := bI_n0 c2
      refine aj_run (C := True) (pc' := 15) (la' := [some (.inr (.inr (some (1, 0)))), some (.inl s), some (.inl t), some (.inl w), none, none, none, none]) (st' := [.inl w]) (M' := (P, g, r0, n)) ok_X10_fits true 1 rfl trivial ?_
      refine aj_callS (av := [.inl w]) (st := []) cal_X10_isEither lk_10_163 stc_X10_isEither (cp_isEither w _ _ _ _) ⟨by decide, by decide, by decide, by decide⟩ (Nat.le_of_ble_eq_true rfl) (ax_dec2 (i := .invokestatic 163) (n := 3) ok_X10_fits rfl) (fun r M' hq => ?_)
      obtain ⟨rfl, rfl⟩ := hq
      change ax_J _ _ _ _ _ _ _ _ _ 18 [some (.inr (.inr (some (1, 0)))), some (.inl s), some (.inl t), some (.inl w), none, none, none, none] [.inl (bI (0 ≤ w ∧ w ≤ 1))] (P, g, r0, n)
      refine aj_if_ne (tgt := 24) (ax_dec2 (i := .ifCond .ne 6) (n := 3) ok_X10_fits rfl) (by decide) (fun c3 => ?_) (fun c3 => ?_)
      · replace c3 := bI_n0 c3
        refine aj_run (C := True) (pc' := 29) (la' := [some (.inr (.inr (some (1, 0)))), some (.inl s), some (.inl t), some (.inl w), none, none, none, none]) (st' := [.inl s, .inr (.inr (some (703, 0)))]) (M' := (P, g, r0, n)) ok_X10_fits true 3 rfl trivial ?_
        refine aj_aald (f := 703) (g := 4) (o := 0) (i := s) (u := s) (E := "AntsTurn$Sheet") rfl rfl rfl ⟨by omega, by have z9 := hsh.1; show s < n 703 0; omega⟩ (hsh.2 s (by omega) (by omega)).1.1 (hsh.2 s (by omega) (by omega)).1.2 (ax_dec2 (i := .aaload) (n := 1) ok_X10_fits rfl) ?_
        refine aj_run (C := True) (pc' := 32) (la' := [some (.inr (.inr (some (1, 0)))), some (.inl s), some (.inl t), some (.inl w), some (.inr (.inr (some (4, s)))), none, none, none]) (st' := []) (M' := (P, g, r0, n)) ok_X10_fits true 1 rfl trivial ?_
        have hq4 := hsh.2 s (by omega) (by omega)
        refine aj_run (C := True) (pc' := 34) (la' := [some (.inr (.inr (some (1, 0)))), some (.inl s), some (.inl t), some (.inl w), some (.inr (.inr (some (4, s)))), none, none, none]) (st' := [.inr (.inr (some (4, s)))]) (M' := (P, g, r0, n)) ok_X10_fits true 1 rfl trivial ?_
        refine aj_callV (av := []) (st := []) (f := 4) (o := s) (ci := 5) cal_X5_isMissing lk_10_219 ins_X5_isMissing rfl sel_X5_isMissing rfl (fun c9 h9 _ => by simpa [ax_ok] using h9) (cp_isMissing s _ _ _ _) ⟨by decide, by decide, by decide, by decide⟩ (Nat.le_of_ble_eq_true rfl) (ax_dec2 (i := .invokevirtual 219) (n := 3) ok_X10_fits rfl) (fun r M' hq => ?_)
        obtain ⟨rfl, rfl⟩ := hq
        change ax_J _ _ _ _ _ _ _ _ _ 37 [some (.inr (.inr (some (1, 0)))), some (.inl s), some (.inl t), some (.inl w), some (.inr (.inr (some (4, s)))), none, none, none] [.inl (bI (g 4 s 0 = -1))] (P, g, r0, n)
        refine aj_if_eq (tgt := 43) (ax_dec2 (i := .ifCond .eq 6) (n := 3) ok_X10_fits rfl) (by decide) (fun c4 => ?_) (fun c4 => ?_)
        · replace c4 := bI_e0 c4
          refine aj_run (C := True) (pc' := 44) (la' := [some (.inr (.inr (some (1, 0)))), some (.inl s), some (.inl t), some (.inl w), some (.inr (.inr (some (4, s)))), none, none, none]) (st' := [.inl t]) (M' := (P, g, r0, n)) ok_X10_fits true 1 rfl trivial ?_
          refine aj_if_ne (tgt := 65) (ax_dec2 (i := .ifCond .ne 21) (n := 3) ok_X10_fits rfl) (by decide) (fun c5 => ?_) (fun c5 => ?_)
          · refine aj_run (C := True) (pc' := 74) (la' := [some (.inr (.inr (some (1, 0)))), some (.inl s), some (.inl t), some (.inl w), some (.inr (.inr (some (4, s)))), some (.inl 0), some (.inl (-1)), some (.inl 0)]) (st' := []) (M' := (P, g, r0, n)) ok_X10_fits true 6 rfl trivial ?_
            refine aj_cast (congrArg (fun (z9 : Int) => ([some (.inr (.inr (some (1, 0)))), some (.inl s), some (.inl t), some (.inl w), some (.inr (.inr (some (4, s)))), some (.inl z9), some (.inl (-1)), some (.inl 0)] : List (Option ax_V))) (show 0 = (wCf (pFit h s t) 0).1 from by rfl)) rfl rfl ?_
            refine aj_cast (congrArg (fun (z9 : Int) => ([some (.inr (.inr (some (1, 0)))), some (.inl s), some (.inl t), some (.inl w), some (.inr (.inr (some (4, s)))), some (.inl ((wCf (pFit h s t) 0).1)), some (.inl z9), some (.inl 0)] : List (Option ax_V))) (show (-1) = (wCf (pFit h s t) 0).2 from by rfl)) rfl rfl ?_
            refine aj_loop (σ := (Int) × (Nat → Int → Int → Int)) (fun xL => 0 ≤ xL.1 ∧ xL.1 ≤ wWy h ∧ cDy xL.2 h ∧ cFr TW xL.2 g) (fun xL => (wWy h - xL.1).toNat) (fun xL => [some (.inr (.inr (some (1, 0)))), some (.inl s), some (.inl t), some (.inl w), some (.inr (.inr (some (4, s)))), some (.inl ((wCf (pFit h s t) xL.1).1)), some (.inl ((wCf (pFit h s t) xL.1).2)), some (.inl xL.1)]) (fun xL => []) (fun xL => (P, xL.2, r0, n)) ?_ (0, g) ?_
            rotate_left
            · (try dsimp only); exact ⟨by omega, by have := wWy_in hOs; omega, hd, fun _ _ _ _ => rfl⟩
            rintro ⟨k, g1⟩ hI ih74
            try dsimp only at hI ih74
            obtain ⟨i1, i2, i3, i4⟩ := hI
            change ax_J _ _ _ _ _ _ _ _ _ 74 [some (.inr (.inr (some (1, 0)))), some (.inl s), some (.inl t), some (.inl w), some (.inr (.inr (some (4, s)))), some (.inl ((wCf (pFit h s t) k).1)), some (.inl ((wCf (pFit h s t) k).2)), some (.inl k)] [] (P, g1, r0, n)
            have hs1 : g1 2 0 1 = g 2 0 1 := i4 2 0 1 (by unfold TW TG; omega)
            have hwy : ax_shl 1 (g1 2 0 1) = wWy h := by rw [hs1, hxz]; rfl
            have hw9 := wWy_in hOs
            have hsk := cSta_w i4 hs
            have hcl := wCf_l (p := pFit h s t) i1
            have hci := wCf_in (p := pFit h s t) i1
            refine aj_run (C := True) (pc' := 77) (la' := [some (.inr (.inr (some (1, 0)))), some (.inl s), some (.inl t), some (.inl w), some (.inr (.inr (some (4, s)))), some (.inl ((wCf (pFit h s t) k).1)), some (.inl ((wCf (pFit h s t) k).2)), some (.inl k)]) (st' := [.inr (.inr (some (1, 0))), .inl k]) (M' := (P, g1, r0, n)) ok_X10_fits true 2 rfl trivial ?_
            refine aj_getR (f := 1) (k := 0) (g := 2) (o := 0) (u := 0) (ax_lk_ok (q := (1, 0)) rfl) rfl rfl hs.2.2.2.1 hs.2.2.2.2 (ax_dec2 (i := .getfield 10) (n := 3) ok_X10_fits rfl) ?_
            refine aj_callV (av := []) (st := [.inl k]) (f := 2) (o := 0) (ci := 2) cal_X2_ways lk_10_207 ins_X2_ways rfl sel_X2_ways rfl (fun c9 h9 _ => by simpa [ax_ok] using h9) (cp_ways _ _ _ _) ⟨by decide, by decide, by decide, by decide⟩ (Nat.le_of_ble_eq_true rfl) (ax_dec2 (i := .invokevirtual 207) (n := 3) ok_X10_fits rfl) (fun r M' hq => ?_)
            obtain ⟨rfl, rfl⟩ := hq
            change ax_J _ _ _ _ _ _ _ _ _ 83 [some (.inr (.inr (some (1, 0)))), some (.inl s), some (.inl t), some (.inl w), some (.inr (.inr (some (4, s)))), some (.inl ((wCf (pFit h s t) k).1)), some (.inl ((wCf (pFit h s t) k).2)), some (.inl k)] [.inl (ax_shl 1 (g1 2 0 1)), .inl k] (P, g1, r0, n)
            refine aj_icmp_ge (tgt := 139) (ax_dec2 (i := .if_icmp .ge 56) (n := 3) ok_X10_fits rfl) (by decide) (fun c6 => ?_) (fun c6 => ?_)
            · refine aj_run (C := True) (pc' := 140) (la' := [some (.inr (.inr (some (1, 0)))), some (.inl s), some (.inl t), some (.inl w), some (.inr (.inr (some (4, s)))), some (.inl ((wCf (pFit h s t) k).1)), some (.inl ((wCf (pFit h s t) k).2)), some (.inl k)]) (st' := [.inl w]) (M' := (P, g1, r0, n)) ok_X10_fits true 1 rfl trivial ?_
              refine aj_if_ne (tgt := 148) (ax_dec2 (i := .ifCond .ne 8) (n := 3) ok_X10_fits rfl) (by decide) (fun c7 => ?_) (fun c7 => ?_)
              · refine aj_run (C := True) (pc' := 150) (la' := [some (.inr (.inr (some (1, 0)))), some (.inl s), some (.inl t), some (.inl w), some (.inr (.inr (some (4, s)))), some (.inl ((wCf (pFit h s t) k).1)), some (.inl ((wCf (pFit h s t) k).2)), some (.inl k)]) (st' := [.inl ((wCf (pFit h s t) k).2)]) (M' := (P, g1, r0, n)) ok_X10_fits true 1 rfl trivial ?_
                refine aj_ret (r := some (.inl ((wCf (pFit h s t) k).2))) (ax_dec2 (i := .ireturn) (n := 1) ok_X10_fits rfl) ⟨?_, ?_, by decide, by decide⟩ rfl
                · (obtain ⟨q1, q2, ⟨q3, q5⟩, q6, q7⟩ := hsh.2 s (by omega) (by omega); exact ⟨ax_si (by unfold fFit; rw [if_pos (c := (0 ≤ s ∧ s ≤ 3) ∧ _) (by omega), if_neg (by omega), if_neg (by omega)]; (first | rw [if_pos (by omega)] | rw [if_neg (by omega)]); rw [show wWy h = k by omega]), g1, rfl, i3, i4⟩)
                · exact ax_ro_i
              · refine aj_run (C := True) (pc' := 150) (la' := [some (.inr (.inr (some (1, 0)))), some (.inl s), some (.inl t), some (.inl w), some (.inr (.inr (some (4, s)))), some (.inl ((wCf (pFit h s t) k).1)), some (.inl ((wCf (pFit h s t) k).2)), some (.inl k)]) (st' := [.inl ((wCf (pFit h s t) k).1)]) (M' := (P, g1, r0, n)) ok_X10_fits true 2 rfl trivial ?_
                refine aj_ret (r := some (.inl ((wCf (pFit h s t) k).1))) (ax_dec2 (i := .ireturn) (n := 1) ok_X10_fits rfl) ⟨?_, ?_, by decide, by decide⟩ rfl
                · (obtain ⟨q1, q2, ⟨q3, q5⟩, q6, q7⟩ := hsh.2 s (by omega) (by omega); exact ⟨ax_si (by unfold fFit; rw [if_pos (c := (0 ≤ s ∧ s ≤ 3) ∧ _) (by omega), if_neg (by omega), if_neg (by omega)]; (first | rw [if_pos (by omega)] | rw [if_neg (by omega)]); rw [show wWy h = k by omega]), g1, rfl, i3, i4⟩)
                · exact ax_ro_i
            · refine aj_run (C := True) (pc' := 87) (la' := [some (.inr (.inr (some (1, 0)))), some (.inl s), some (.inl t), some (.inl w), some (.inr (.inr (some (4, s)))), some (.inl ((wCf (pFit h s t) k).1)), some (.inl ((wCf (pFit h s t) k).2)), some (.inl k)]) (st' := [.inl t]) (M' := (P, g1, r0, n)) ok_X10_fits true 1 rfl trivial ?_
              refine aj_if_ne (tgt := 104) (ax_dec2 (i := .ifCond .ne 17) (n := 3) ok_X10_fits rfl) (by decide) (fun c8 => ?_) (fun c8 => ?_)
              · refine aj_run (C := True) (pc' := 109) (la' := [some (.inr (.inr (some (1, 0)))), some (.inl s), some (.inl t), some (.inl w), some (.inr (.inr (some (4, s)))), some (.inl ((wCf (pFit h s t) k).1)), some (.inl ((wCf (pFit h s t) k).2)), some (.inl k)]) (st' := [.inl k, .inr (.inr (some (4, s))), .inr (.inr (some (1, 0)))]) (M' := (P, g1, r0, n)) ok_X10_fits true 3 rfl trivial ?_
                refine aj_callV (av := [.inr (.inr (some (4, s))), .inl k]) (st := []) (f := 1) (o := 0) (ci := 10) cal_X10_areHeardAs lk_10_228 ins_X10_areHeardAs rfl sel_X10_areHeardAs rfl (fun c9 h9 _ => by simpa [ax_ok] using h9) (cp_areHeardAs s k _ _ _ _ h hsk i3 (by omega) (cShe_w i4 hsh) (by omega)) ⟨by decide, by decide, by decide, by decide⟩ (Nat.le_of_ble_eq_true rfl) (ax_dec2 (i := .invokevirtual 228) (n := 3) ok_X10_fits rfl) (fun r M' hq => ?_)
                obtain ⟨rfl, g4, rfl, hd4, fr4⟩ := hq
                have fr9 := cFr_t fr4 i4
                have hpf : pFit h s t k = fHr h s k := by unfold pFit; first | rw [if_pos (by omega)] | rw [if_neg (by omega)]
                have hp01 : fHr h s k = 0 ∨ fHr h s k = 1 := by first | exact gFi_01 | exact bI_01
                change ax_J _ _ _ _ _ _ _ _ _ 112 [some (.inr (.inr (some (1, 0)))), some (.inl s), some (.inl t), some (.inl w), some (.inr (.inr (some (4, s)))), some (.inl ((wCf (pFit h s t) k).1)), some (.inl ((wCf (pFit h s t) k).2)), some (.inl k)] [.inl (fHr h s k)] (P, g4, r0, n)
                refine aj_if_eq (tgt := 133) (ax_dec2 (i := .ifCond .eq 21) (n := 3) ok_X10_fits rfl) (by decide) (fun c9 => ?_) (fun c9 => ?_)
                · refine aj_run (C := (-2147483648 ≤ k + 1 ∧ k + 1 ≤ 2147483647) ∧ True) (pc' := 74) (la' := [some (.inr (.inr (some (1, 0)))), some (.inl s), some (.inl t), some (.inl w), some (.inr (.inr (some (4, s)))), some (.inl ((wCf (pFit h s t) k).1)), some (.inl ((wCf (pFit h s t) k).2)), some (.inl (k + 1))]) (st' := []) (M' := (P, g4, r0, n)) ok_X10_fits true 2 rfl (by refine ⟨?_, trivial⟩ <;> (omega)) ?_
                  refine aj_cast (congrArg (fun (z9 : Int) => ([some (.inr (.inr (some (1, 0)))), some (.inl s), some (.inl t), some (.inl w), some (.inr (.inr (some (4, s)))), some (.inl z9), some (.inl ((wCf (pFit h s t) k).2)), some (.inl (k + 1))] : List (Option ax_V))) (show ((wCf (pFit h s t) k).1) = (wCf (pFit h s t) (k + 1)).1 from by (rw [wCf_s i1]; (first | rw [if_pos (by omega)] | rw [if_neg (by omega)]) <;> (dsimp only; first | rfl | rw [if_pos (by omega)] | rw [if_neg (by omega)])))) rfl rfl ?_
                  refine aj_cast (congrArg (fun (z9 : Int) => ([some (.inr (.inr (some (1, 0)))), some (.inl s), some (.inl t), some (.inl w), some (.inr (.inr (some (4, s)))), some (.inl ((wCf (pFit h s t) (k + 1)).1)), some (.inl z9), some (.inl (k + 1))] : List (Option ax_V))) (show ((wCf (pFit h s t) k).2) = (wCf (pFit h s t) (k + 1)).2 from by (rw [wCf_s i1]; (first | rw [if_pos (by omega)] | rw [if_neg (by omega)]) <;> (dsimp only; first | rfl | rw [if_pos (by omega)] | rw [if_neg (by omega)])))) rfl rfl ?_
                  refine ih74 (k + 1, g4) ?_ ?_
                  · (try dsimp only); exact ⟨by omega, by omega, hd4, fr9⟩
                  · omega
                · refine aj_run (C := (-2147483648 ≤ ((wCf (pFit h s t) k).1) + 1 ∧ ((wCf (pFit h s t) k).1) + 1 ≤ 2147483647) ∧ True) (pc' := 121) (la' := [some (.inr (.inr (some (1, 0)))), some (.inl s), some (.inl t), some (.inl w), some (.inr (.inr (some (4, s)))), some (.inl (((wCf (pFit h s t) k).1) + 1)), some (.inl ((wCf (pFit h s t) k).2)), some (.inl k)]) (st' := [.inl (-1), .inl ((wCf (pFit h s t) k).2)]) (M' := (P, g4, r0, n)) ok_X10_fits true 3 rfl (by refine ⟨?_, trivial⟩ <;> (omega)) ?_
                  refine aj_icmp_ne (tgt := 129) (ax_dec2 (i := .if_icmp .ne 8) (n := 3) ok_X10_fits rfl) (by decide) (fun c10 => ?_) (fun c10 => ?_)
                  · refine aj_run (C := (-2147483648 ≤ k + 1 ∧ k + 1 ≤ 2147483647) ∧ True) (pc' := 74) (la' := [some (.inr (.inr (some (1, 0)))), some (.inl s), some (.inl t), some (.inl w), some (.inr (.inr (some (4, s)))), some (.inl (((wCf (pFit h s t) k).1) + 1)), some (.inl ((wCf (pFit h s t) k).2)), some (.inl (k + 1))]) (st' := []) (M' := (P, g4, r0, n)) ok_X10_fits true 4 rfl (by refine ⟨?_, trivial⟩ <;> (omega)) ?_
                    refine aj_cast (congrArg (fun (z9 : Int) => ([some (.inr (.inr (some (1, 0)))), some (.inl s), some (.inl t), some (.inl w), some (.inr (.inr (some (4, s)))), some (.inl z9), some (.inl ((wCf (pFit h s t) k).2)), some (.inl (k + 1))] : List (Option ax_V))) (show (((wCf (pFit h s t) k).1) + 1) = (wCf (pFit h s t) (k + 1)).1 from by (rw [wCf_s i1]; (first | rw [if_pos (by omega)] | rw [if_neg (by omega)]) <;> (dsimp only; first | rfl | rw [if_pos (by omega)] | rw [if_neg (by omega)])))) rfl rfl ?_
                    refine aj_cast (congrArg (fun (z9 : Int) => ([some (.inr (.inr (some (1, 0)))), some (.inl s), some (.inl t), some (.inl w), some (.inr (.inr (some (4, s)))), some (.inl ((wCf (pFit h s t) (k + 1)).1)), some (.inl z9), some (.inl (k + 1))] : List (Option ax_V))) (show ((wCf (pFit h s t) k).2) = (wCf (pFit h s t) (k + 1)).2 from by (rw [wCf_s i1]; (first | rw [if_pos (by omega)] | rw [if_neg (by omega)]) <;> (dsimp only; first | rfl | rw [if_pos (by omega)] | rw [if_neg (by omega)])))) rfl rfl ?_
                    refine ih74 (k + 1, g4) ?_ ?_
                    · (try dsimp only); exact ⟨by omega, by omega, hd4, fr9⟩
                    · omega
                  · refine aj_run (C := (-2147483648 ≤ k + 1 ∧ k + 1 ≤ 2147483647) ∧ True) (pc' := 74) (la' := [some (.inr (.inr (some (1, 0)))), some (.inl s), some (.inl t), some (.inl w), some (.inr (.inr (some (4, s)))), some (.inl (((wCf (pFit h s t) k).1) + 1)), some (.inl k), some (.inl (k + 1))]) (st' := []) (M' := (P, g4, r0, n)) ok_X10_fits true 5 rfl (by refine ⟨?_, trivial⟩ <;> (omega)) ?_
                    refine aj_cast (congrArg (fun (z9 : Int) => ([some (.inr (.inr (some (1, 0)))), some (.inl s), some (.inl t), some (.inl w), some (.inr (.inr (some (4, s)))), some (.inl z9), some (.inl k), some (.inl (k + 1))] : List (Option ax_V))) (show (((wCf (pFit h s t) k).1) + 1) = (wCf (pFit h s t) (k + 1)).1 from by (rw [wCf_s i1]; (first | rw [if_pos (by omega)] | rw [if_neg (by omega)]) <;> (dsimp only; first | rfl | rw [if_pos (by omega)] | rw [if_neg (by omega)])))) rfl rfl ?_
                    refine aj_cast (congrArg (fun (z9 : Int) => ([some (.inr (.inr (some (1, 0)))), some (.inl s), some (.inl t), some (.inl w), some (.inr (.inr (some (4, s)))), some (.inl ((wCf (pFit h s t) (k + 1)).1)), some (.inl z9), some (.inl (k + 1))] : List (Option ax_V))) (show k = (wCf (pFit h s t) (k + 1)).2 from by (rw [wCf_s i1]; (first | rw [if_pos (by omega)] | rw [if_neg (by omega)]) <;> (dsimp only; first | rfl | rw [if_pos (by omega)] | rw [if_neg (by omega)])))) rfl rfl ?_
                    refine ih74 (k + 1, g4) ?_ ?_
                    · (try dsimp only); exact ⟨by omega, by omega, hd4, fr9⟩
                    · omega
              · exact absurd c8 (by omega)
          · refine aj_run (C := True) (pc' := 53) (la' := [some (.inr (.inr (some (1, 0)))), some (.inl s), some (.inl t), some (.inl w), some (.inr (.inr (some (4, s)))), none, none, none]) (st' := [.inr (.inr (some (1, 0))), .inl (g 4 s 1)]) (M' := (P, g, r0, n)) ok_X10_fits true 3 rfl trivial ?_
            refine aj_getR (f := 1) (k := 0) (g := 2) (o := 0) (u := 0) (ax_lk_ok (q := (1, 0)) rfl) rfl rfl hs.2.2.2.1 hs.2.2.2.2 (ax_dec2 (i := .getfield 10) (n := 3) ok_X10_fits rfl) ?_
            refine aj_run (C := True) (pc' := 59) (la' := [some (.inr (.inr (some (1, 0)))), some (.inl s), some (.inl t), some (.inl w), some (.inr (.inr (some (4, s)))), none, none, none]) (st' := [.inl (g 2 0 1), .inl (g 4 s 1)]) (M' := (P, g, r0, n)) ok_X10_fits true 1 rfl trivial ?_
            refine aj_icmp_eq (tgt := 65) (ax_dec2 (i := .if_icmp .eq 6) (n := 3) ok_X10_fits rfl) (by decide) (fun c11 => ?_) (fun c11 => ?_)
            · refine aj_run (C := True) (pc' := 74) (la' := [some (.inr (.inr (some (1, 0)))), some (.inl s), some (.inl t), some (.inl w), some (.inr (.inr (some (4, s)))), some (.inl 0), some (.inl (-1)), some (.inl 0)]) (st' := []) (M' := (P, g, r0, n)) ok_X10_fits true 6 rfl trivial ?_
              refine aj_cast (congrArg (fun (z9 : Int) => ([some (.inr (.inr (some (1, 0)))), some (.inl s), some (.inl t), some (.inl w), some (.inr (.inr (some (4, s)))), some (.inl z9), some (.inl (-1)), some (.inl 0)] : List (Option ax_V))) (show 0 = (wCf (pFit h s t) 0).1 from by rfl)) rfl rfl ?_
              refine aj_cast (congrArg (fun (z9 : Int) => ([some (.inr (.inr (some (1, 0)))), some (.inl s), some (.inl t), some (.inl w), some (.inr (.inr (some (4, s)))), some (.inl ((wCf (pFit h s t) 0).1)), some (.inl z9), some (.inl 0)] : List (Option ax_V))) (show (-1) = (wCf (pFit h s t) 0).2 from by rfl)) rfl rfl ?_
              refine aj_loop (σ := (Int) × (Nat → Int → Int → Int)) (fun xL => 0 ≤ xL.1 ∧ xL.1 ≤ wWy h ∧ cDy xL.2 h ∧ cFr TW xL.2 g) (fun xL => (wWy h - xL.1).toNat) (fun xL => [some (.inr (.inr (some (1, 0)))), some (.inl s), some (.inl t), some (.inl w), some (.inr (.inr (some (4, s)))), some (.inl ((wCf (pFit h s t) xL.1).1)), some (.inl ((wCf (pFit h s t) xL.1).2)), some (.inl xL.1)]) (fun xL => []) (fun xL => (P, xL.2, r0, n)) ?_ (0, g) ?_
              rotate_left
              · (try dsimp only); exact ⟨by omega, by have := wWy_in hOs; omega, hd, fun _ _ _ _ => rfl⟩
              rintro ⟨k, g1⟩ hI ih74
              try dsimp only at hI ih74
              obtain ⟨i1, i2, i3, i4⟩ := hI
              change ax_J _ _ _ _ _ _ _ _ _ 74 [some (.inr (.inr (some (1, 0)))), some (.inl s), some (.inl t), some (.inl w), some (.inr (.inr (some (4, s)))), some (.inl ((wCf (pFit h s t) k).1)), some (.inl ((wCf (pFit h s t) k).2)), some (.inl k)] [] (P, g1, r0, n)
              have hs1 : g1 2 0 1 = g 2 0 1 := i4 2 0 1 (by unfold TW TG; omega)
              have hwy : ax_shl 1 (g1 2 0 1) = wWy h := by rw [hs1, hxz]; rfl
              have hw9 := wWy_in hOs
              have hsk := cSta_w i4 hs
              have hcl := wCf_l (p := pFit h s t) i1
              have hci := wCf_in (p := pFit h s t) i1
              refine aj_run (C := True) (pc' := 77) (la' := [some (.inr (.inr (some (1, 0)))), some (.inl s), some (.inl t), some (.inl w), some (.inr (.inr (some (4, s)))), some (.inl ((wCf (pFit h s t) k).1)), some (.inl ((wCf (pFit h s t) k).2)), some (.inl k)]) (st' := [.inr (.inr (some (1, 0))), .inl k]) (M' := (P, g1, r0, n)) ok_X10_fits true 2 rfl trivial ?_
              refine aj_getR (f := 1) (k := 0) (g := 2) (o := 0) (u := 0) (ax_lk_ok (q := (1, 0)) rfl) rfl rfl hs.2.2.2.1 hs.2.2.2.2 (ax_dec2 (i := .getfield 10) (n := 3) ok_X10_fits rfl) ?_
              refine aj_callV (av := []) (st := [.inl k]) (f := 2) (o := 0) (ci := 2) cal_X2_ways lk_10_207 ins_X2_ways rfl sel_X2_ways rfl (fun c9 h9 _ => by simpa [ax_ok] using h9) (cp_ways _ _ _ _) ⟨by decide, by decide, by decide, by decide⟩ (Nat.le_of_ble_eq_true rfl) (ax_dec2 (i := .invokevirtual 207) (n := 3) ok_X10_fits rfl) (fun r M' hq => ?_)
              obtain ⟨rfl, rfl⟩ := hq
              change ax_J _ _ _ _ _ _ _ _ _ 83 [some (.inr (.inr (some (1, 0)))), some (.inl s), some (.inl t), some (.inl w), some (.inr (.inr (some (4, s)))), some (.inl ((wCf (pFit h s t) k).1)), some (.inl ((wCf (pFit h s t) k).2)), some (.inl k)] [.inl (ax_shl 1 (g1 2 0 1)), .inl k] (P, g1, r0, n)
              refine aj_icmp_ge (tgt := 139) (ax_dec2 (i := .if_icmp .ge 56) (n := 3) ok_X10_fits rfl) (by decide) (fun c12 => ?_) (fun c12 => ?_)
              · refine aj_run (C := True) (pc' := 140) (la' := [some (.inr (.inr (some (1, 0)))), some (.inl s), some (.inl t), some (.inl w), some (.inr (.inr (some (4, s)))), some (.inl ((wCf (pFit h s t) k).1)), some (.inl ((wCf (pFit h s t) k).2)), some (.inl k)]) (st' := [.inl w]) (M' := (P, g1, r0, n)) ok_X10_fits true 1 rfl trivial ?_
                refine aj_if_ne (tgt := 148) (ax_dec2 (i := .ifCond .ne 8) (n := 3) ok_X10_fits rfl) (by decide) (fun c13 => ?_) (fun c13 => ?_)
                · refine aj_run (C := True) (pc' := 150) (la' := [some (.inr (.inr (some (1, 0)))), some (.inl s), some (.inl t), some (.inl w), some (.inr (.inr (some (4, s)))), some (.inl ((wCf (pFit h s t) k).1)), some (.inl ((wCf (pFit h s t) k).2)), some (.inl k)]) (st' := [.inl ((wCf (pFit h s t) k).2)]) (M' := (P, g1, r0, n)) ok_X10_fits true 1 rfl trivial ?_
                  refine aj_ret (r := some (.inl ((wCf (pFit h s t) k).2))) (ax_dec2 (i := .ireturn) (n := 1) ok_X10_fits rfl) ⟨?_, ?_, by decide, by decide⟩ rfl
                  · (obtain ⟨q1, q2, ⟨q3, q5⟩, q6, q7⟩ := hsh.2 s (by omega) (by omega); exact ⟨ax_si (by unfold fFit; rw [if_pos (c := (0 ≤ s ∧ s ≤ 3) ∧ _) (by omega), if_neg (by omega), if_neg (by omega)]; (first | rw [if_pos (by omega)] | rw [if_neg (by omega)]); rw [show wWy h = k by omega]), g1, rfl, i3, i4⟩)
                  · exact ax_ro_i
                · refine aj_run (C := True) (pc' := 150) (la' := [some (.inr (.inr (some (1, 0)))), some (.inl s), some (.inl t), some (.inl w), some (.inr (.inr (some (4, s)))), some (.inl ((wCf (pFit h s t) k).1)), some (.inl ((wCf (pFit h s t) k).2)), some (.inl k)]) (st' := [.inl ((wCf (pFit h s t) k).1)]) (M' := (P, g1, r0, n)) ok_X10_fits true 2 rfl trivial ?_
                  refine aj_ret (r := some (.inl ((wCf (pFit h s t) k).1))) (ax_dec2 (i := .ireturn) (n := 1) ok_X10_fits rfl) ⟨?_, ?_, by decide, by decide⟩ rfl
                  · (obtain ⟨q1, q2, ⟨q3, q5⟩, q6, q7⟩ := hsh.2 s (by omega) (by omega); exact ⟨ax_si (by unfold fFit; rw [if_pos (c := (0 ≤ s ∧ s ≤ 3) ∧ _) (by omega), if_neg (by omega), if_neg (by omega)]; (first | rw [if_pos (by omega)] | rw [if_neg (by omega)]); rw [show wWy h = k by omega]), g1, rfl, i3, i4⟩)
                  · exact ax_ro_i
              · refine aj_run (C := True) (pc' := 87) (la' := [some (.inr (.inr (some (1, 0)))), some (.inl s), some (.inl t), some (.inl w), some (.inr (.inr (some (4, s)))), some (.inl ((wCf (pFit h s t) k).1)), some (.inl ((wCf (pFit h s t) k).2)), some (.inl k)]) (st' := [.inl t]) (M' := (P, g1, r0, n)) ok_X10_fits true 1 rfl trivial ?_
                refine aj_if_ne (tgt := 104) (ax_dec2 (i := .ifCond .ne 17) (n := 3) ok_X10_fits rfl) (by decide) (fun c14 => ?_) (fun c14 => ?_)
                · exact absurd c14 (by omega)
                · refine aj_run (C := True) (pc' := 95) (la' := [some (.inr (.inr (some (1, 0)))), some (.inl s), some (.inl t), some (.inl w), some (.inr (.inr (some (4, s)))), some (.inl ((wCf (pFit h s t) k).1)), some (.inl ((wCf (pFit h s t) k).2)), some (.inl k)]) (st' := [.inl k, .inr (.inr (some (4, s))), .inr (.inr (some (1, 0)))]) (M' := (P, g1, r0, n)) ok_X10_fits true 3 rfl trivial ?_
                  refine aj_callV (av := [.inr (.inr (some (4, s))), .inl k]) (st := []) (f := 1) (o := 0) (ci := 10) cal_X10_comeOffAs lk_10_224 ins_X10_comeOffAs rfl sel_X10_comeOffAs rfl (fun c9 h9 _ => by simpa [ax_ok] using h9) (cp_comeOffAs s k _ _ _ _ h hsk i3 (by omega) (cShe_w i4 hsh) (by omega)) ⟨by decide, by decide, by decide, by decide⟩ (Nat.le_of_ble_eq_true rfl) (ax_dec2 (i := .invokevirtual 224) (n := 3) ok_X10_fits rfl) (fun r M' hq => ?_)
                  obtain ⟨rfl, g4, rfl, hd4, fr4⟩ := hq
                  have fr9 := cFr_t fr4 i4
                  have hpf : pFit h s t k = fFi h s k := by unfold pFit; first | rw [if_pos (by omega)] | rw [if_neg (by omega)]
                  have hp01 : fFi h s k = 0 ∨ fFi h s k = 1 := by first | exact gFi_01 | exact bI_01
                  change ax_J _ _ _ _ _ _ _ _ _ 98 [some (.inr (.inr (some (1, 0)))), some (.inl s), some (.inl t), some (.inl w), some (.inr (.inr (some (4, s)))), some (.inl ((wCf (pFit h s t) k).1)), some (.inl ((wCf (pFit h s t) k).2)), some (.inl k)] [.inl (fFi h s k)] (P, g4, r0, n)
                  refine aj_if_eq (tgt := 133) (ax_dec2 (i := .ifCond .eq 35) (n := 3) ok_X10_fits rfl) (by decide) (fun c15 => ?_) (fun c15 => ?_)
                  · refine aj_run (C := (-2147483648 ≤ k + 1 ∧ k + 1 ≤ 2147483647) ∧ True) (pc' := 74) (la' := [some (.inr (.inr (some (1, 0)))), some (.inl s), some (.inl t), some (.inl w), some (.inr (.inr (some (4, s)))), some (.inl ((wCf (pFit h s t) k).1)), some (.inl ((wCf (pFit h s t) k).2)), some (.inl (k + 1))]) (st' := []) (M' := (P, g4, r0, n)) ok_X10_fits true 2 rfl (by refine ⟨?_, trivial⟩ <;> (omega)) ?_
                    refine aj_cast (congrArg (fun (z9 : Int) => ([some (.inr (.inr (some (1, 0)))), some (.inl s), some (.inl t), some (.inl w), some (.inr (.inr (some (4, s)))), some (.inl z9), some (.inl ((wCf (pFit h s t) k).2)), some (.inl (k + 1))] : List (Option ax_V))) (show ((wCf (pFit h s t) k).1) = (wCf (pFit h s t) (k + 1)).1 from by (rw [wCf_s i1]; (first | rw [if_pos (by omega)] | rw [if_neg (by omega)]) <;> (dsimp only; first | rfl | rw [if_pos (by omega)] | rw [if_neg (by omega)])))) rfl rfl ?_
                    refine aj_cast (congrArg (fun (z9 : Int) => ([some (.inr (.inr (some (1, 0)))), some (.inl s), some (.inl t), some (.inl w), some (.inr (.inr (some (4, s)))), some (.inl ((wCf (pFit h s t) (k + 1)).1)), some (.inl z9), some (.inl (k + 1))] : List (Option ax_V))) (show ((wCf (pFit h s t) k).2) = (wCf (pFit h s t) (k + 1)).2 from by (rw [wCf_s i1]; (first | rw [if_pos (by omega)] | rw [if_neg (by omega)]) <;> (dsimp only; first | rfl | rw [if_pos (by omega)] | rw [if_neg (by omega)])))) rfl rfl ?_
                    refine ih74 (k + 1, g4) ?_ ?_
                    · (try dsimp only); exact ⟨by omega, by omega, hd4, fr9⟩
                    · omega
                  · refine aj_run (C := (-2147483648 ≤ ((wCf (pFit h s t) k).1) + 1 ∧ ((wCf (pFit h s t) k).1) + 1 ≤ 2147483647) ∧ True) (pc' := 121) (la' := [some (.inr (.inr (some (1, 0)))), some (.inl s), some (.inl t), some (.inl w), some (.inr (.inr (some (4, s)))), some (.inl (((wCf (pFit h s t) k).1) + 1)), some (.inl ((wCf (pFit h s t) k).2)), some (.inl k)]) (st' := [.inl (-1), .inl ((wCf (pFit h s t) k).2)]) (M' := (P, g4, r0, n)) ok_X10_fits true 4 rfl (by refine ⟨?_, trivial⟩ <;> (omega)) ?_
                    refine aj_icmp_ne (tgt := 129) (ax_dec2 (i := .if_icmp .ne 8) (n := 3) ok_X10_fits rfl) (by decide) (fun c16 => ?_) (fun c16 => ?_)
                    · refine aj_run (C := (-2147483648 ≤ k + 1 ∧ k + 1 ≤ 2147483647) ∧ True) (pc' := 74) (la' := [some (.inr (.inr (some (1, 0)))), some (.inl s), some (.inl t), some (.inl w), some (.inr (.inr (some (4, s)))), some (.inl (((wCf (pFit h s t) k).1) + 1)), some (.inl ((wCf (pFit h s t) k).2)), some (.inl (k + 1))]) (st' := []) (M' := (P, g4, r0, n)) ok_X10_fits true 4 rfl (by refine ⟨?_, trivial⟩ <;> (omega)) ?_
                      refine aj_cast (congrArg (fun (z9 : Int) => ([some (.inr (.inr (some (1, 0)))), some (.inl s), some (.inl t), some (.inl w), some (.inr (.inr (some (4, s)))), some (.inl z9), some (.inl ((wCf (pFit h s t) k).2)), some (.inl (k + 1))] : List (Option ax_V))) (show (((wCf (pFit h s t) k).1) + 1) = (wCf (pFit h s t) (k + 1)).1 from by (rw [wCf_s i1]; (first | rw [if_pos (by omega)] | rw [if_neg (by omega)]) <;> (dsimp only; first | rfl | rw [if_pos (by omega)] | rw [if_neg (by omega)])))) rfl rfl ?_
                      refine aj_cast (congrArg (fun (z9 : Int) => ([some (.inr (.inr (some (1, 0)))), some (.inl s), some (.inl t), some (.inl w), some (.inr (.inr (some (4, s)))), some (.inl ((wCf (pFit h s t) (k + 1)).1)), some (.inl z9), some (.inl (k + 1))] : List (Option ax_V))) (show ((wCf (pFit h s t) k).2) = (wCf (pFit h s t) (k + 1)).2 from by (rw [wCf_s i1]; (first | rw [if_pos (by omega)] | rw [if_neg (by omega)]) <;> (dsimp only; first | rfl | rw [if_pos (by omega)] | rw [if_neg (by omega)])))) rfl rfl ?_
                      refine ih74 (k + 1, g4) ?_ ?_
                      · (try dsimp only); exact ⟨by omega, by omega, hd4, fr9⟩
                      · omega
                    · refine aj_run (C := (-2147483648 ≤ k + 1 ∧ k + 1 ≤ 2147483647) ∧ True) (pc' := 74) (la' := [some (.inr (.inr (some (1, 0)))), some (.inl s), some (.inl t), some (.inl w), some (.inr (.inr (some (4, s)))), some (.inl (((wCf (pFit h s t) k).1) + 1)), some (.inl k), some (.inl (k + 1))]) (st' := []) (M' := (P, g4, r0, n)) ok_X10_fits true 5 rfl (by refine ⟨?_, trivial⟩ <;> (omega)) ?_
                      refine aj_cast (congrArg (fun (z9 : Int) => ([some (.inr (.inr (some (1, 0)))), some (.inl s), some (.inl t), some (.inl w), some (.inr (.inr (some (4, s)))), some (.inl z9), some (.inl k), some (.inl (k + 1))] : List (Option ax_V))) (show (((wCf (pFit h s t) k).1) + 1) = (wCf (pFit h s t) (k + 1)).1 from by (rw [wCf_s i1]; (first | rw [if_pos (by omega)] | rw [if_neg (by omega)]) <;> (dsimp only; first | rfl | rw [if_pos (by omega)] | rw [if_neg (by omega)])))) rfl rfl ?_
                      refine aj_cast (congrArg (fun (z9 : Int) => ([some (.inr (.inr (some (1, 0)))), some (.inl s), some (.inl t), some (.inl w), some (.inr (.inr (some (4, s)))), some (.inl ((wCf (pFit h s t) (k + 1)).1)), some (.inl z9), some (.inl (k + 1))] : List (Option ax_V))) (show k = (wCf (pFit h s t) (k + 1)).2 from by (rw [wCf_s i1]; (first | rw [if_pos (by omega)] | rw [if_neg (by omega)]) <;> (dsimp only; first | rfl | rw [if_pos (by omega)] | rw [if_neg (by omega)])))) rfl rfl ?_
                      refine ih74 (k + 1, g4) ?_ ?_
                      · (try dsimp only); exact ⟨by omega, by omega, hd4, fr9⟩
                      · omega
            · refine aj_run (C := True) (pc' := 64) (la' := [some (.inr (.inr (some (1, 0)))), some (.inl s), some (.inl t), some (.inl w), some (.inr (.inr (some (4, s)))), none, none, none]) (st' := [.inl (-2)]) (M' := (P, g, r0, n)) ok_X10_fits true 1 rfl trivial ?_
              refine aj_ret (r := some (.inl (-2))) (ax_dec2 (i := .ireturn) (n := 1) ok_X10_fits rfl) ⟨?_, ?_, by decide, by decide⟩ rfl
              · (first | (exfalso; omega) | exact ⟨ax_si (by unfold fFit; rw [if_neg (by omega)]), g, rfl, hd, fun _ _ _ _ => rfl⟩ | (obtain ⟨q1, q2, ⟨q3, q5⟩, q6, q7⟩ := hsh.2 s (by omega) (by omega); exact ⟨ax_si (by unfold fFit; rw [if_pos (by omega)]; first | rw [if_pos (by omega)] | (rw [if_neg (by omega), if_pos (by omega)])), g, rfl, hd, fun _ _ _ _ => rfl⟩))
              · exact ax_ro_i
        · replace c4 := bI_n0 c4
          refine aj_run (C := True) (pc' := 42) (la' := [some (.inr (.inr (some (1, 0)))), some (.inl s), some (.inl t), some (.inl w), some (.inr (.inr (some (4, s)))), none, none, none]) (st' := [.inl (-11)]) (M' := (P, g, r0, n)) ok_X10_fits true 1 rfl trivial ?_
          refine aj_ret (r := some (.inl (-11))) (ax_dec2 (i := .ireturn) (n := 1) ok_X10_fits rfl) ⟨?_, ?_, by decide, by decide⟩ rfl
          · (first | (exfalso; omega) | exact ⟨ax_si (by unfold fFit; rw [if_neg (by omega)]), g, rfl, hd, fun _ _ _ _ => rfl⟩ | (obtain ⟨q1, q2, ⟨q3, q5⟩, q6, q7⟩ := hsh.2 s (by omega) (by omega); exact ⟨ax_si (by unfold fFit; rw [if_pos (by omega)]; first | rw [if_pos (by omega)] | (rw [if_neg (by omega), if_pos (by omega)])), g, rfl, hd, fun _ _ _ _ => rfl⟩))
          · exact ax_ro_i
      · replace c3 := bI_e0 c3
        refine aj_run (C := True) (pc' := 23) (la' := [some (.inr (.inr (some (1, 0)))), some (.inl s), some (.inl t), some (.inl w), none, none, none, none]) (st' := [.inl (-2)]) (M' := (P, g, r0, n)) ok_X10_fits true 1 rfl trivial ?_
        refine aj_ret (r := some (.inl (-2))) (ax_dec2 (i := .ireturn) (n := 1) ok_X10_fits rfl) ⟨?_, ?_, by decide, by decide⟩ rfl
        · (first | (exfalso; omega) | exact ⟨ax_si (by unfold fFit; rw [if_neg (by omega)]), g, rfl, hd, fun _ _ _ _ => rfl⟩ | (obtain ⟨q1, q2, ⟨q3, q5⟩, q6, q7⟩ := hsh.2 s (by omega) (by omega); exact ⟨ax_si (by unfold fFit; rw [if_pos (by omega)]; first | rw [if_pos (by omega)] | (rw [if_neg (by omega), if_pos (by omega)])), g, rfl, hd, fun _ _ _ _ => rfl⟩))
        · exact ax_ro_i

