theorem wLik_z {r1 r2 : Int → Int} {m k : Int} (hk : 0 ≤ k) (hz : wLik r1 r2 m k = 0) : ∀ d : Nat, wLik r1 r2 m (k + d) = 0
  | 0 => by rw [show k + ((0 : Nat) : Int) = k by omega]; exact hz
  | d + 1 => by
    rw [show k + ((d + 1 : Nat) : Int) = (k + d) + 1 by omega, wLik_s (by omega), if_neg]
    rintro ⟨q, -⟩
    exact q (wLik_z hk hz d)
/-- beats at which they would be off, went they through one another -/
def gTw (h : Nat → Int → Int → Int) (w : Int) : Int → Int := wIt (ax_u3 (wBegin h w) 50 0 42 1) 201 135 0
def cNx (H : Nat → Int → Int → Int) (c m : Int) : Int := wFI (fun i x => if (0 ≤ H 129 0 i ∧ ax_and (ax_shr c i) 1 = 0) ∧ (x = -1 ∨ H 129 0 i < H 129 0 x) then i else x) (-1) m
theorem cNx_s {H : Nat → Int → Int → Int} {c m : Int} (hm : 0 ≤ m) : cNx H c (m + 1) = if (0 ≤ H 129 0 m ∧ ax_and (ax_shr c m) 1 = 0) ∧ (cNx H c m = -1 ∨ H 129 0 m < H 129 0 (cNx H c m)) then m else cNx H c m := wFI_s hm
theorem cNx_i {H : Nat → Int → Int → Int} {c : Int} : ∀ m : Nat, cNx H c m = -1 ∨ ((0 ≤ cNx H c m ∧ cNx H c m < m) ∧ 0 ≤ H 129 0 (cNx H c m))
  | 0 => Or.inl rfl
  | m + 1 => by
    have ih := cNx_i (H := H) (c := c) m
    rw [show ((m + 1 : Nat) : Int) = (m : Int) + 1 by omega, cNx_s (by omega)]
    split
    · rename_i q; exact Or.inr ⟨by omega, q.1.1⟩
    · omega
theorem cNx_in {H : Nat → Int → Int → Int} {c m : Int} (hm : 0 ≤ m) : cNx H c m = -1 ∨ ((0 ≤ cNx H c m ∧ cNx H c m < m) ∧ 0 ≤ H 129 0 (cNx H c m)) := by
  have := cNx_i (H := H) (c := c) m.toNat
  rw [show ((m.toNat : Nat) : Int) = m by omega] at this
  exact this
def cAs (g : Nat → Int → Int → Int) (m : Int) : Int := wFI (fun i l => if l ≠ 0 ∧ g 5 i 3 = g 5 i 11 ∧ g 5 i 4 = g 5 i 12 then 1 else 0) 1 m
theorem cAs_s {g : Nat → Int → Int → Int} {m : Int} (hm : 0 ≤ m) : cAs g (m + 1) = if cAs g m ≠ 0 ∧ g 5 m 3 = g 5 m 11 ∧ g 5 m 4 = g 5 m 12 then 1 else 0 := wFI_s hm
theorem cAs_z {g : Nat → Int → Int → Int} {k : Int} (hk : 0 ≤ k) (hz : cAs g k = 0) : ∀ d : Nat, cAs g (k + d) = 0
  | 0 => by rw [show k + ((0 : Nat) : Int) = k by omega]; exact hz
  | d + 1 => by
    rw [show k + ((d + 1 : Nat) : Int) = (k + d) + 1 by omega, cAs_s (by omega), if_neg]
    rintro ⟨q, -⟩
    exact q (cAs_z hk hz d)
set_option maxRecDepth 100000 in
set_option maxHeartbeats 4000000 in
theorem cp_isLikeThrough (w : Int) (P : Nat → Int → Prop) (g : Nat → Int → Int → Int) (r0 : Nat → Int → Int → Option (Nat × Int)) (n : Nat → Int → Int) (h : Nat → Int → Int → Int) (hs : cSta P r0 n g h) (hd : cDy g h) (hw : 0 ≤ w ∧ w < 128) : ax_S yX2_isLikeThrough cX2_isLikeThrough 6 (some FieldType.boolean) 13 0 0 [.inr (.inr (some (2, 0))), .inl w] (P, g, r0, n) (fun r M' => r = some (.inl (wLik (gA h w 135 0) (gTw h w) (h 50 0 2) (h 50 0 2))) ∧ ∃ g', M' = (P, g', r0, n) ∧ cDy g' h ∧ cFr TW g' g) := by
  have hAs := hs.1.1
  have hPs := hs.1.2.1
  have hOs := hs.1.2.2
  have hP1 := hPs.1
  have hA1 := hAs.1
  have hsz := hOs.2.2.1
  have hm := hd.1
  have hca := hd.2
  have hln := hs.2.1
  have hxz := hPs.1.1
  refine ax_S_of (own := 2) (by decide) rfl (fun h => absurd h (by decide)) rfl (Nat.le_of_ble_eq_true rfl) ?_
  change ax_J _ _ _ _ _ _ _ _ _ _ [some (.inr (.inr (some (2, 0)))), some (.inl w), none, none, none, none] _ _
  refine aj_run (C := True) (pc' := 2) (la' := [some (.inr (.inr (some (2, 0)))), some (.inl w), none, none, none, none]) (st' := [.inl w, .inr (.inr (some (2, 0)))]) (M' := (P, g, r0, n)) ok_X2_isLikeThrough true 2 rfl trivial ?_
  refine aj_callV (av := [.inl w]) (st := []) (f := 2) (o := 0) (ci := 2) cal_X2_rowOf lk_2_168 ins_X2_rowOf rfl sel_X2_rowOf rfl (fun c9 h9 _ => by simpa [ax_ok] using h9) (cp_rowOf w _ _ _ _ h hs hd (by omega)) ⟨by decide, by decide, by decide, by decide⟩ (Nat.le_of_ble_eq_true rfl) (ax_dec2 (i := .invokevirtual 168) (n := 3) ok_X2_isLikeThrough rfl) (fun r M' hq => ?_)
  obtain ⟨rfl, g4, rfl, hd4, fr4, row4⟩ := hq
  have hs4 := cSta_w fr4 hs
  have hs41 : g4 2 0 1 = g 2 0 1 := fr4 2 0 1 (by unfold TW TG; omega)
  change ax_J _ _ _ _ _ _ _ _ _ 5 [some (.inr (.inr (some (2, 0)))), some (.inl w), none, none, none, none] [.inl (w * 7)] (P, g4, r0, n)
  refine aj_run (C := True) (pc' := 9) (la' := [some (.inr (.inr (some (2, 0)))), some (.inl w), some (.inl (w * 7)), none, none, none]) (st' := [.inl 1, .inl w, .inr (.inr (some (2, 0)))]) (M' := (P, g4, r0, n)) ok_X2_isLikeThrough true 4 rfl trivial ?_
  refine aj_callV (av := [.inl w, .inl 1]) (st := []) (f := 2) (o := 0) (ci := 2) cal_X2_begin lk_2_159 ins_X2_begin rfl sel_X2_begin rfl (fun c9 h9 _ => by simpa [ax_ok] using h9) (cp_begin w 1 _ _ _ _ hs4.1.1 (by decide)) ⟨by decide, by decide, by decide, by decide⟩ (Nat.le_of_ble_eq_true rfl) (ax_dec2 (i := .invokevirtual 159) (n := 3) ok_X2_isLikeThrough rfl) (fun r M' hq => ?_)
  obtain ⟨rfl, rfl⟩ := hq
  change ax_J _ _ _ _ _ _ _ _ _ 12 [some (.inr (.inr (some (2, 0)))), some (.inl w), some (.inl (w * 7)), none, none, none] [] (P, cBegin g4 w 1, r0, n)
  obtain ⟨hb1, hb2, hb3, hb4, hb5, hb6, hb7⟩ := beg_all hs4 hd4.1 w 1
  refine aj_run (C := True) (pc' := 16) (la' := [some (.inr (.inr (some (2, 0)))), some (.inl w), some (.inl (w * 7)), none, none, none]) (st' := [.inl 200, .inr (.inr (some (2, 0)))]) (M' := (P, cBegin g4 w 1, r0, n)) ok_X2_isLikeThrough true 2 rfl trivial ?_
  refine aj_callV (av := [.inl 200]) (st := []) (f := 2) (o := 0) (ci := 2) cal_X2_goOn lk_2_162 ins_X2_goOn rfl sel_X2_goOn rfl (fun c9 h9 _ => by simpa [ax_ok] using h9) (cp_goOn 200 0 _ _ _ _ hb1 ⟨hs.2.1.1, hs.2.1.2.1⟩ hs.2.1.2.2.1 _ hb2 hb3 hb4 (by omega) (by omega) (by omega) hb5 _ _ ⟨hs.2.2.1.1, hb6⟩ cV_n hb7) ⟨by decide, by decide, by decide, by decide⟩ (Nat.le_of_ble_eq_true rfl) (ax_dec2 (i := .invokevirtual 162) (n := 3) ok_X2_isLikeThrough rfl) (fun r M' hq => ?_)
  obtain ⟨rfl, g5, rfl, sm3, fr3⟩ := hq
  have fr5 : cFr TG g5 g4 := fun f o j q => (fr3 f o j (TGo_TG q)).trans (cBg_fr f o j q)
  have hs51 : g5 2 0 1 = g 2 0 1 := (fr5 2 0 1 (by unfold TG; omega)).trans hs41
  have rs5 : ∀ a, 0 ≤ a → a < h 50 0 2 → g5 209 0 (w * 7 + a) = gA h w 135 0 a := fun a z1 z2 => (fr5 209 0 _ (by unfold TG; omega)).trans (row4 a z1 z2)
  have rw5 : ∀ a, 0 ≤ a → a < h 50 0 2 → g5 5 a 9 = gTw h w a := fun a z1 z2 => cSm_9 sm3 z1 (by rw [ax_u3_n (by omega), beg_sz]; exact z2)
  change ax_J _ _ _ _ _ _ _ _ _ 19 [some (.inr (.inr (some (2, 0)))), some (.inl w), some (.inl (w * 7)), none, none, none] [] (P, g5, r0, n)
  refine aj_run (C := True) (pc' := 21) (la' := [some (.inr (.inr (some (2, 0)))), some (.inl w), some (.inl (w * 7)), some (.inl 0), none, none]) (st' := []) (M' := (P, g5, r0, n)) ok_X2_isLikeThrough true 2 rfl trivial ?_
  refine aj_forget (la' := [some (.inr (.inr (some (2, 0)))), some (.inl w), some (.inl (w * 7)), some (.inl 0), none, none]) (by simp [ax_fg]) ?_
  refine aj_loop (σ := (Int)) (fun xL => 0 ≤ xL ∧ xL ≤ g 2 0 1 ∧ wLik (gA h w 135 0) (gTw h w) (h 50 0 2) xL = 1) (fun xL => (g 2 0 1 - xL).toNat) (fun xL => [some (.inr (.inr (some (2, 0)))), some (.inl w), some (.inl (w * 7)), some (.inl xL), none, none]) (fun xL => []) (fun xL => (P, g5, r0, n)) ?_ (0) ?_
  rotate_left
  · (try dsimp only); exact ⟨by omega, by omega, rfl⟩
  rintro i hI ih21
  try dsimp only at hI ih21
  obtain ⟨i1, i2, i3⟩ := hI
  change ax_J _ _ _ _ _ _ _ _ _ 21 [some (.inr (.inr (some (2, 0)))), some (.inl w), some (.inl (w * 7)), some (.inl i), none, none] [] (P, g5, r0, n)
  refine aj_run (C := True) (pc' := 26) (la' := [some (.inr (.inr (some (2, 0)))), some (.inl w), some (.inl (w * 7)), some (.inl i), none, none]) (st' := [.inl (g5 2 0 1), .inl i]) (M' := (P, g5, r0, n)) ok_X2_isLikeThrough true 3 rfl trivial ?_
  refine aj_icmp_ge (tgt := 126) (ax_dec2 (i := .if_icmp .ge 100) (n := 3) ok_X2_isLikeThrough rfl) (by decide) (fun c1 => ?_) (fun c1 => ?_)
  · refine aj_run (C := True) (pc' := 127) (la' := [some (.inr (.inr (some (2, 0)))), some (.inl w), some (.inl (w * 7)), some (.inl i), none, none]) (st' := [.inl 1]) (M' := (P, g5, r0, n)) ok_X2_isLikeThrough true 1 rfl trivial ?_
    refine aj_ret (r := some (.inl 1)) (ax_dec2 (i := .ireturn) (n := 1) ok_X2_isLikeThrough rfl) ⟨?_, ?_, by decide, by decide⟩ rfl
    · exact ⟨ax_si (by rw [← i3, show h 50 0 2 = i by omega]), g5, rfl, ⟨cSm_mz sm3, cCa_g fr5 hd4.2⟩, fun f o j q => (fr5 f o j (TG_TW q)).trans (fr4 f o j q)⟩
    · exact ax_ro_b (Or.inr rfl)
  · have hri := rw5 i i1 (by omega)
    refine aj_run (C := True) (pc' := 35) (la' := [some (.inr (.inr (some (2, 0)))), some (.inl w), some (.inl (w * 7)), some (.inl i), some (.inl 0), some (.inl 0)]) (st' := []) (M' := (P, g5, r0, n)) ok_X2_isLikeThrough true 4 rfl trivial ?_
    refine aj_cast (congrArg (fun (z9 : Int) => ([some (.inr (.inr (some (2, 0)))), some (.inl w), some (.inl (w * 7)), some (.inl i), some (.inl z9), some (.inl 0)] : List (Option ax_V))) (show 0 = wCnt (gA h w 135 0) 0 (gTw h w i) - wCnt (gTw h w) 0 (gTw h w i) from by rfl)) rfl rfl ?_
    refine aj_loop (σ := (Int)) (fun xL => 0 ≤ xL ∧ xL ≤ g 2 0 1) (fun xL => (g 2 0 1 - xL).toNat) (fun xL => [some (.inr (.inr (some (2, 0)))), some (.inl w), some (.inl (w * 7)), some (.inl i), some (.inl (wCnt (gA h w 135 0) xL (gTw h w i) - wCnt (gTw h w) xL (gTw h w i))), some (.inl xL)]) (fun xL => []) (fun xL => (P, g5, r0, n)) ?_ (0) ?_
    rotate_left
    · (try dsimp only); omega
    rintro j hI ih35
    try dsimp only at hI ih35
    obtain ⟨j1, j2⟩ := hI
    change ax_J _ _ _ _ _ _ _ _ _ 35 [some (.inr (.inr (some (2, 0)))), some (.inl w), some (.inl (w * 7)), some (.inl i), some (.inl (wCnt (gA h w 135 0) j (gTw h w i) - wCnt (gTw h w) j (gTw h w i))), some (.inl j)] [] (P, g5, r0, n)
    refine aj_run (C := True) (pc' := 41) (la' := [some (.inr (.inr (some (2, 0)))), some (.inl w), some (.inl (w * 7)), some (.inl i), some (.inl (wCnt (gA h w 135 0) j (gTw h w i) - wCnt (gTw h w) j (gTw h w i))), some (.inl j)]) (st' := [.inl (g5 2 0 1), .inl j]) (M' := (P, g5, r0, n)) ok_X2_isLikeThrough true 3 rfl trivial ?_
    refine aj_icmp_ge (tgt := 113) (ax_dec2 (i := .if_icmp .ge 72) (n := 3) ok_X2_isLikeThrough rfl) (by decide) (fun c2 => ?_) (fun c2 => ?_)
    · refine aj_run (C := True) (pc' := 115) (la' := [some (.inr (.inr (some (2, 0)))), some (.inl w), some (.inl (w * 7)), some (.inl i), some (.inl (wCnt (gA h w 135 0) j (gTw h w i) - wCnt (gTw h w) j (gTw h w i))), some (.inl j)]) (st' := [.inl (wCnt (gA h w 135 0) j (gTw h w i) - wCnt (gTw h w) j (gTw h w i))]) (M' := (P, g5, r0, n)) ok_X2_isLikeThrough true 1 rfl trivial ?_
      refine aj_if_eq (tgt := 120) (ax_dec2 (i := .ifCond .eq 5) (n := 3) ok_X2_isLikeThrough rfl) (by decide) (fun c3 => ?_) (fun c3 => ?_)
      · refine aj_run (C := (-2147483648 ≤ i + 1 ∧ i + 1 ≤ 2147483647) ∧ True) (pc' := 21) (la' := [some (.inr (.inr (some (2, 0)))), some (.inl w), some (.inl (w * 7)), some (.inl (i + 1)), some (.inl (wCnt (gA h w 135 0) j (gTw h w i) - wCnt (gTw h w) j (gTw h w i))), some (.inl j)]) (st' := []) (M' := (P, g5, r0, n)) ok_X2_isLikeThrough true 2 rfl (by refine ⟨?_, trivial⟩ <;> (omega)) ?_
        refine aj_forget (la' := [some (.inr (.inr (some (2, 0)))), some (.inl w), some (.inl (w * 7)), some (.inl (i + 1)), none, none]) (by simp [ax_fg]) ?_
        refine ih21 (i + 1) ?_ ?_
        · (try dsimp only); exact ⟨by omega, by omega, by rw [wLik_s i1, if_pos ⟨by omega, by rw [show h 50 0 2 = j by omega]; omega⟩]⟩
        · omega
      · refine aj_run (C := True) (pc' := 119) (la' := [some (.inr (.inr (some (2, 0)))), some (.inl w), some (.inl (w * 7)), some (.inl i), some (.inl (wCnt (gA h w 135 0) j (gTw h w i) - wCnt (gTw h w) j (gTw h w i))), some (.inl j)]) (st' := [.inl 0]) (M' := (P, g5, r0, n)) ok_X2_isLikeThrough true 1 rfl trivial ?_
        refine aj_ret (r := some (.inl 0)) (ax_dec2 (i := .ireturn) (n := 1) ok_X2_isLikeThrough rfl) ⟨?_, ?_, by decide, by decide⟩ rfl
        · (have hz : wLik (gA h w 135 0) (gTw h w) (h 50 0 2) (i + 1) = 0 := (by rw [wLik_s i1, if_neg (fun q => by have := q.2; rw [show h 50 0 2 = j by omega] at this; omega)]); have h9 := wLik_z (by omega) hz (h 50 0 2 - (i + 1)).toNat; rw [show i + 1 + (((h 50 0 2 - (i + 1)).toNat : Nat) : Int) = h 50 0 2 by omega] at h9; exact ⟨ax_si h9.symm, g5, rfl, ⟨cSm_mz sm3, cCa_g fr5 hd4.2⟩, fun f o j q => (fr5 f o j (TG_TW q)).trans (fr4 f o j q)⟩)
        · exact ax_ro_b (Or.inl rfl)
    · have hrj := rw5 j j1 (by omega)
      have hsj := rs5 j j1 (by omega)
      have hc1 := wCnt_in (row := gA h w 135 0) (v := gTw h w i) j1
      have hc2 := wCnt_in (row := gTw h w) (v := gTw h w i) j1
      refine aj_run (C := (-2147483648 ≤ (w * 7) + j ∧ (w * 7) + j ≤ 2147483647) ∧ (0 ≤ (w * 7) + j ∧ (w * 7) + j < n 209 0) ∧ True) (pc' := 60) (la' := [some (.inr (.inr (some (2, 0)))), some (.inl w), some (.inl (w * 7)), some (.inl i), some (.inl (wCnt (gA h w 135 0) j (gTw h w i) - wCnt (gTw h w) j (gTw h w i))), some (.inl j)]) (st' := [.inl i, .inr (.inr (some (200, 0))), .inl (g5 209 0 ((w * 7) + j)), .inl (wCnt (gA h w 135 0) j (gTw h w i) - wCnt (gTw h w) j (gTw h w i))]) (M' := (P, g5, r0, n)) ok_X2_isLikeThrough true 10 rfl (by refine ⟨?_, ?_, trivial⟩ <;> (omega)) ?_
      refine aj_aald (f := 200) (g := 5) (o := 0) (i := i) (u := i) (E := "AntsTurn$Ant") rfl rfl rfl ⟨by omega, by have z9 := hAs.1.1; show i < n 200 0; omega⟩ (hAs.2 i (by omega) (by omega)).1.1 (hAs.2 i (by omega) (by omega)).1.2 (ax_dec2 (i := .aaload) (n := 1) ok_X2_isLikeThrough rfl) ?_
      refine aj_run (C := True) (pc' := 64) (la' := [some (.inr (.inr (some (2, 0)))), some (.inl w), some (.inl (w * 7)), some (.inl i), some (.inl (wCnt (gA h w 135 0) j (gTw h w i) - wCnt (gTw h w) j (gTw h w i))), some (.inl j)]) (st' := [.inl (g5 5 i 9), .inl (g5 209 0 ((w * 7) + j)), .inl (wCnt (gA h w 135 0) j (gTw h w i) - wCnt (gTw h w) j (gTw h w i))]) (M' := (P, g5, r0, n)) ok_X2_isLikeThrough true 1 rfl trivial ?_
      refine aj_icmp_ne (tgt := 71) (ax_dec2 (i := .if_icmp .ne 7) (n := 3) ok_X2_isLikeThrough rfl) (by decide) (fun c4 => ?_) (fun c4 => ?_)
      · refine aj_run (C := (-2147483648 ≤ (wCnt (gA h w 135 0) j (gTw h w i) - wCnt (gTw h w) j (gTw h w i)) + 0 ∧ (wCnt (gA h w 135 0) j (gTw h w i) - wCnt (gTw h w) j (gTw h w i)) + 0 ≤ 2147483647) ∧ True) (pc' := 83) (la' := [some (.inr (.inr (some (2, 0)))), some (.inl w), some (.inl (w * 7)), some (.inl i), some (.inl ((wCnt (gA h w 135 0) j (gTw h w i) - wCnt (gTw h w) j (gTw h w i)) + 0)), some (.inl j)]) (st' := [.inl j, .inr (.inr (some (200, 0))), .inl ((wCnt (gA h w 135 0) j (gTw h w i) - wCnt (gTw h w) j (gTw h w i)) + 0)]) (M' := (P, g5, r0, n)) ok_X2_isLikeThrough true 7 rfl (by refine ⟨?_, trivial⟩ <;> (omega)) ?_
        refine aj_aald (f := 200) (g := 5) (o := 0) (i := j) (u := j) (E := "AntsTurn$Ant") rfl rfl rfl ⟨by omega, by have z9 := hAs.1.1; show j < n 200 0; omega⟩ (hAs.2 j (by omega) (by omega)).1.1 (hAs.2 j (by omega) (by omega)).1.2 (ax_dec2 (i := .aaload) (n := 1) ok_X2_isLikeThrough rfl) ?_
        refine aj_run (C := True) (pc' := 92) (la' := [some (.inr (.inr (some (2, 0)))), some (.inl w), some (.inl (w * 7)), some (.inl i), some (.inl ((wCnt (gA h w 135 0) j (gTw h w i) - wCnt (gTw h w) j (gTw h w i)) + 0)), some (.inl j)]) (st' := [.inl i, .inr (.inr (some (200, 0))), .inl (g5 5 j 9), .inl ((wCnt (gA h w 135 0) j (gTw h w i) - wCnt (gTw h w) j (gTw h w i)) + 0)]) (M' := (P, g5, r0, n)) ok_X2_isLikeThrough true 4 rfl trivial ?_
        refine aj_aald (f := 200) (g := 5) (o := 0) (i := i) (u := i) (E := "AntsTurn$Ant") rfl rfl rfl ⟨by omega, by have z9 := hAs.1.1; show i < n 200 0; omega⟩ (hAs.2 i (by omega) (by omega)).1.1 (hAs.2 i (by omega) (by omega)).1.2 (ax_dec2 (i := .aaload) (n := 1) ok_X2_isLikeThrough rfl) ?_
        refine aj_run (C := True) (pc' := 96) (la' := [some (.inr (.inr (some (2, 0)))), some (.inl w), some (.inl (w * 7)), some (.inl i), some (.inl ((wCnt (gA h w 135 0) j (gTw h w i) - wCnt (gTw h w) j (gTw h w i)) + 0)), some (.inl j)]) (st' := [.inl (g5 5 i 9), .inl (g5 5 j 9), .inl ((wCnt (gA h w 135 0) j (gTw h w i) - wCnt (gTw h w) j (gTw h w i)) + 0)]) (M' := (P, g5, r0, n)) ok_X2_isLikeThrough true 1 rfl trivial ?_
        refine aj_icmp_ne (tgt := 103) (ax_dec2 (i := .if_icmp .ne 7) (n := 3) ok_X2_isLikeThrough rfl) (by decide) (fun c5 => ?_) (fun c5 => ?_)
        · refine aj_run (C := (-2147483648 ≤ ((wCnt (gA h w 135 0) j (gTw h w i) - wCnt (gTw h w) j (gTw h w i)) + 0) - 0 ∧ ((wCnt (gA h w 135 0) j (gTw h w i) - wCnt (gTw h w) j (gTw h w i)) + 0) - 0 ≤ 2147483647) ∧ (-2147483648 ≤ j + 1 ∧ j + 1 ≤ 2147483647) ∧ True) (pc' := 35) (la' := [some (.inr (.inr (some (2, 0)))), some (.inl w), some (.inl (w * 7)), some (.inl i), some (.inl (((wCnt (gA h w 135 0) j (gTw h w i) - wCnt (gTw h w) j (gTw h w i)) + 0) - 0)), some (.inl (j + 1))]) (st' := []) (M' := (P, g5, r0, n)) ok_X2_isLikeThrough true 5 rfl (by refine ⟨?_, ?_, trivial⟩ <;> (omega)) ?_
          refine aj_cast (congrArg (fun (z9 : Int) => ([some (.inr (.inr (some (2, 0)))), some (.inl w), some (.inl (w * 7)), some (.inl i), some (.inl z9), some (.inl (j + 1))] : List (Option ax_V))) (show (((wCnt (gA h w 135 0) j (gTw h w i) - wCnt (gTw h w) j (gTw h w i)) + 0) - 0) = wCnt (gA h w 135 0) (j + 1) (gTw h w i) - wCnt (gTw h w) (j + 1) (gTw h w i) from by (rw [wCnt_s j1, wCnt_s j1]; first | rw [bI_t (p := (gA h w 135 0) j = (gTw h w) i) (by omega)] | rw [bI_f (p := (gA h w 135 0) j = (gTw h w) i) (by omega)]) <;> (first | rw [bI_t (p := (gTw h w) j = (gTw h w) i) (by omega)] | rw [bI_f (p := (gTw h w) j = (gTw h w) i) (by omega)]) <;> omega)) rfl rfl ?_
          refine ih35 (j + 1) ?_ ?_
          · (try dsimp only); omega
          · omega
        · refine aj_run (C := (-2147483648 ≤ ((wCnt (gA h w 135 0) j (gTw h w i) - wCnt (gTw h w) j (gTw h w i)) + 0) - 1 ∧ ((wCnt (gA h w 135 0) j (gTw h w i) - wCnt (gTw h w) j (gTw h w i)) + 0) - 1 ≤ 2147483647) ∧ (-2147483648 ≤ j + 1 ∧ j + 1 ≤ 2147483647) ∧ True) (pc' := 35) (la' := [some (.inr (.inr (some (2, 0)))), some (.inl w), some (.inl (w * 7)), some (.inl i), some (.inl (((wCnt (gA h w 135 0) j (gTw h w i) - wCnt (gTw h w) j (gTw h w i)) + 0) - 1)), some (.inl (j + 1))]) (st' := []) (M' := (P, g5, r0, n)) ok_X2_isLikeThrough true 6 rfl (by refine ⟨?_, ?_, trivial⟩ <;> (omega)) ?_
          refine aj_cast (congrArg (fun (z9 : Int) => ([some (.inr (.inr (some (2, 0)))), some (.inl w), some (.inl (w * 7)), some (.inl i), some (.inl z9), some (.inl (j + 1))] : List (Option ax_V))) (show (((wCnt (gA h w 135 0) j (gTw h w i) - wCnt (gTw h w) j (gTw h w i)) + 0) - 1) = wCnt (gA h w 135 0) (j + 1) (gTw h w i) - wCnt (gTw h w) (j + 1) (gTw h w i) from by (rw [wCnt_s j1, wCnt_s j1]; first | rw [bI_t (p := (gA h w 135 0) j = (gTw h w) i) (by omega)] | rw [bI_f (p := (gA h w 135 0) j = (gTw h w) i) (by omega)]) <;> (first | rw [bI_t (p := (gTw h w) j = (gTw h w) i) (by omega)] | rw [bI_f (p := (gTw h w) j = (gTw h w) i) (by omega)]) <;> omega)) rfl rfl ?_
          refine ih35 (j + 1) ?_ ?_
          · (try dsimp only); omega
          · omega
      · refine aj_run (C := (-2147483648 ≤ (wCnt (gA h w 135 0) j (gTw h w i) - wCnt (gTw h w) j (gTw h w i)) + 1 ∧ (wCnt (gA h w 135 0) j (gTw h w i) - wCnt (gTw h w) j (gTw h w i)) + 1 ≤ 2147483647) ∧ True) (pc' := 83) (la' := [some (.inr (.inr (some (2, 0)))), some (.inl w), some (.inl (w * 7)), some (.inl i), some (.inl ((wCnt (gA h w 135 0) j (gTw h w i) - wCnt (gTw h w) j (gTw h w i)) + 1)), some (.inl j)]) (st' := [.inl j, .inr (.inr (some (200, 0))), .inl ((wCnt (gA h w 135 0) j (gTw h w i) - wCnt (gTw h w) j (gTw h w i)) + 1)]) (M' := (P, g5, r0, n)) ok_X2_isLikeThrough true 8 rfl (by refine ⟨?_, trivial⟩ <;> (omega)) ?_
        refine aj_aald (f := 200) (g := 5) (o := 0) (i := j) (u := j) (E := "AntsTurn$Ant") rfl rfl rfl ⟨by omega, by have z9 := hAs.1.1; show j < n 200 0; omega⟩ (hAs.2 j (by omega) (by omega)).1.1 (hAs.2 j (by omega) (by omega)).1.2 (ax_dec2 (i := .aaload) (n := 1) ok_X2_isLikeThrough rfl) ?_
        refine aj_run (C := True) (pc' := 92) (la' := [some (.inr (.inr (some (2, 0)))), some (.inl w), some (.inl (w * 7)), some (.inl i), some (.inl ((wCnt (gA h w 135 0) j (gTw h w i) - wCnt (gTw h w) j (gTw h w i)) + 1)), some (.inl j)]) (st' := [.inl i, .inr (.inr (some (200, 0))), .inl (g5 5 j 9), .inl ((wCnt (gA h w 135 0) j (gTw h w i) - wCnt (gTw h w) j (gTw h w i)) + 1)]) (M' := (P, g5, r0, n)) ok_X2_isLikeThrough true 4 rfl trivial ?_
        refine aj_aald (f := 200) (g := 5) (o := 0) (i := i) (u := i) (E := "AntsTurn$Ant") rfl rfl rfl ⟨by omega, by have z9 := hAs.1.1; show i < n 200 0; omega⟩ (hAs.2 i (by omega) (by omega)).1.1 (hAs.2 i (by omega) (by omega)).1.2 (ax_dec2 (i := .aaload) (n := 1) ok_X2_isLikeThrough rfl) ?_
        refine aj_run (C := True) (pc' := 96) (la' := [some (.inr (.inr (some (2, 0)))), some (.inl w), some (.inl (w * 7)), some (.inl i), some (.inl ((wCnt (gA h w 135 0) j (gTw h w i) - wCnt (gTw h w) j (gTw h w i)) + 1)), some (.inl j)]) (st' := [.inl (g5 5 i 9), .inl (g5 5 j 9), .inl ((wCnt (gA h w 135 0) j (gTw h w i) - wCnt (gTw h w) j (gTw h w i)) + 1)]) (M' := (P, g5, r0, n)) ok_X2_isLikeThrough true 1 rfl trivial ?_
        refine aj_icmp_ne (tgt := 103) (ax_dec2 (i := .if_icmp .ne 7) (n := 3) ok_X2_isLikeThrough rfl) (by decide) (fun c6 => ?_) (fun c6 => ?_)
        · refine aj_run (C := (-2147483648 ≤ ((wCnt (gA h w 135 0) j (gTw h w i) - wCnt (gTw h w) j (gTw h w i)) + 1) - 0 ∧ ((wCnt (gA h w 135 0) j (gTw h w i) - wCnt (gTw h w) j (gTw h w i)) + 1) - 0 ≤ 2147483647) ∧ (-2147483648 ≤ j + 1 ∧ j + 1 ≤ 2147483647) ∧ True) (pc' := 35) (la' := [some (.inr (.inr (some (2, 0)))), some (.inl w), some (.inl (w * 7)), some (.inl i), some (.inl (((wCnt (gA h w 135 0) j (gTw h w i) - wCnt (gTw h w) j (gTw h w i)) + 1) - 0)), some (.inl (j + 1))]) (st' := []) (M' := (P, g5, r0, n)) ok_X2_isLikeThrough true 5 rfl (by refine ⟨?_, ?_, trivial⟩ <;> (omega)) ?_
          refine aj_cast (congrArg (fun (z9 : Int) => ([some (.inr (.inr (some (2, 0)))), some (.inl w), some (.inl (w * 7)), some (.inl i), some (.inl z9), some (.inl (j + 1))] : List (Option ax_V))) (show (((wCnt (gA h w 135 0) j (gTw h w i) - wCnt (gTw h w) j (gTw h w i)) + 1) - 0) = wCnt (gA h w 135 0) (j + 1) (gTw h w i) - wCnt (gTw h w) (j + 1) (gTw h w i) from by (rw [wCnt_s j1, wCnt_s j1]; first | rw [bI_t (p := (gA h w 135 0) j = (gTw h w) i) (by omega)] | rw [bI_f (p := (gA h w 135 0) j = (gTw h w) i) (by omega)]) <;> (first | rw [bI_t (p := (gTw h w) j = (gTw h w) i) (by omega)] | rw [bI_f (p := (gTw h w) j = (gTw h w) i) (by omega)]) <;> omega)) rfl rfl ?_
          refine ih35 (j + 1) ?_ ?_
          · (try dsimp only); omega
          · omega
        · refine aj_run (C := (-2147483648 ≤ ((wCnt (gA h w 135 0) j (gTw h w i) - wCnt (gTw h w) j (gTw h w i)) + 1) - 1 ∧ ((wCnt (gA h w 135 0) j (gTw h w i) - wCnt (gTw h w) j (gTw h w i)) + 1) - 1 ≤ 2147483647) ∧ (-2147483648 ≤ j + 1 ∧ j + 1 ≤ 2147483647) ∧ True) (pc' := 35) (la' := [some (.inr (.inr (some (2, 0)))), some (.inl w), some (.inl (w * 7)), some (.inl i), some (.inl (((wCnt (gA h w 135 0) j (gTw h w i) - wCnt (gTw h w) j (gTw h w i)) + 1) - 1)), some (.inl (j + 1))]) (st' := []) (M' := (P, g5, r0, n)) ok_X2_isLikeThrough true 6 rfl (by refine ⟨?_, ?_, trivial⟩ <;> (omega)) ?_
          refine aj_cast (congrArg (fun (z9 : Int) => ([some (.inr (.inr (some (2, 0)))), some (.inl w), some (.inl (w * 7)), some (.inl i), some (.inl z9), some (.inl (j + 1))] : List (Option ax_V))) (show (((wCnt (gA h w 135 0) j (gTw h w i) - wCnt (gTw h w) j (gTw h w i)) + 1) - 1) = wCnt (gA h w 135 0) (j + 1) (gTw h w i) - wCnt (gTw h w) (j + 1) (gTw h w i) from by (rw [wCnt_s j1, wCnt_s j1]; first | rw [bI_t (p := (gA h w 135 0) j = (gTw h w) i) (by omega)] | rw [bI_f (p := (gA h w 135 0) j = (gTw h w) i) (by omega)]) <;> (first | rw [bI_t (p := (gTw h w) j = (gTw h w) i) (by omega)] | rw [bI_f (p := (gTw h w) j = (gTw h w) i) (by omega)]) <;> omega)) rfl rfl ?_
          refine ih35 (j + 1) ?_ ?_
          · (try dsimp only); omega
          · omega

set_option maxRecDepth 100000 in
set_option maxHeartbeats 4000000 in
theorem cp_nextByPlace (c : Int) (P : Nat → Int → Prop) (g : Nat → Int → Int → Int) (r0 : Nat → Int → Int → Option (Nat × Int)) (n : Nat → Int → Int) (hA : cAn P r0 n (g 2 0 1)) (H : Nat → Int → Int → Int) (hz2 : g 2 0 1 = H 50 0 2) (hD : ∀ a, 0 ≤ a → a < H 50 0 2 → cD1 g H a) : ax_S yX2_nextByPlace cX2_nextByPlace 5 (some FieldType.int) 0 0 0 [.inr (.inr (some (2, 0))), .inl c] (P, g, r0, n) (fun r M' => r = some (.inl (cNx H c (g 2 0 1))) ∧ M' = (P, g, r0, n)) := by
  have hA1 := hA.1
  refine ax_S_of (own := 2) (by decide) rfl (fun h => absurd h (by decide)) rfl (Nat.le_of_ble_eq_true rfl) ?_
  change ax_J _ _ _ _ _ _ _ _ _ _ [some (.inr (.inr (some (2, 0)))), some (.inl c), none, none, none] _ _
  refine aj_run (C := True) (pc' := 4) (la' := [some (.inr (.inr (some (2, 0)))), some (.inl c), some (.inl (-1)), some (.inl 0), none]) (st' := []) (M' := (P, g, r0, n)) ok_X2_nextByPlace true 4 rfl trivial ?_
  refine aj_cast (congrArg (fun (z9 : Int) => ([some (.inr (.inr (some (2, 0)))), some (.inl c), some (.inl z9), some (.inl 0), none] : List (Option ax_V))) (show (-1) = cNx H c 0 from by rfl)) rfl rfl ?_
  refine aj_forget (la' := [some (.inr (.inr (some (2, 0)))), some (.inl c), some (.inl (cNx H c 0)), some (.inl 0), none]) (by simp [ax_fg]) ?_
  refine aj_loop (σ := (Int)) (fun xL => 0 ≤ xL ∧ xL ≤ g 2 0 1) (fun xL => (g 2 0 1 - xL).toNat) (fun xL => [some (.inr (.inr (some (2, 0)))), some (.inl c), some (.inl (cNx H c xL)), some (.inl xL), none]) (fun xL => []) (fun xL => (P, g, r0, n)) ?_ (0) ?_
  rotate_left
  · (try dsimp only); omega
  rintro i hI ih4
  try dsimp only at hI ih4
  obtain ⟨i1, i2⟩ := hI
  change ax_J _ _ _ _ _ _ _ _ _ 4 [some (.inr (.inr (some (2, 0)))), some (.inl c), some (.inl (cNx H c i)), some (.inl i), none] [] (P, g, r0, n)
  refine aj_run (C := True) (pc' := 9) (la' := [some (.inr (.inr (some (2, 0)))), some (.inl c), some (.inl (cNx H c i)), some (.inl i), none]) (st' := [.inl (g 2 0 1), .inl i]) (M' := (P, g, r0, n)) ok_X2_nextByPlace true 3 rfl trivial ?_
  refine aj_icmp_ge (tgt := 78) (ax_dec2 (i := .if_icmp .ge 69) (n := 3) ok_X2_nextByPlace rfl) (by decide) (fun c1 => ?_) (fun c1 => ?_)
  · refine aj_run (C := True) (pc' := 79) (la' := [some (.inr (.inr (some (2, 0)))), some (.inl c), some (.inl (cNx H c i)), some (.inl i), none]) (st' := [.inl (cNx H c i)]) (M' := (P, g, r0, n)) ok_X2_nextByPlace true 1 rfl trivial ?_
    refine aj_ret (r := some (.inl (cNx H c i))) (ax_dec2 (i := .ireturn) (n := 1) ok_X2_nextByPlace rfl) ⟨?_, ?_, by decide, by decide⟩ rfl
    · exact ⟨ax_si (by rw [show g 2 0 1 = i by omega]), rfl⟩
    · exact ax_ro_i
  · obtain ⟨d2, d3, d33, d4, d5⟩ := hD i i1 (by omega)
    have hb01 := bI_01 (p := 0 ≤ H 129 0 i)
    have hni := cNx_in (H := H) (c := c) i1
    have hns := cNx_s (H := H) (c := c) i1
    have hon : g 5 i 2 = 0 ∨ (0 ≤ H 129 0 i ∧ g 5 i 3 = H 129 0 i) := by by_cases z : 0 ≤ H 129 0 i; exact Or.inr ⟨z, d3 z⟩; exact Or.inl (by rw [d2, bI_f z])
    have hof : g 5 i 2 = 0 → ¬ 0 ≤ H 129 0 i := fun z => by rw [d2] at z; exact bI_e0 z
    refine aj_run (C := True) (pc' := 17) (la' := [some (.inr (.inr (some (2, 0)))), some (.inl c), some (.inl (cNx H c i)), some (.inl i), none]) (st' := [.inl i, .inr (.inr (some (200, 0)))]) (M' := (P, g, r0, n)) ok_X2_nextByPlace true 3 rfl trivial ?_
    refine aj_aald (f := 200) (g := 5) (o := 0) (i := i) (u := i) (E := "AntsTurn$Ant") rfl rfl rfl ⟨by omega, by have z9 := hA.1.1; show i < n 200 0; omega⟩ (hA.2 i (by omega) (by omega)).1.1 (hA.2 i (by omega) (by omega)).1.2 (ax_dec2 (i := .aaload) (n := 1) ok_X2_nextByPlace rfl) ?_
    refine aj_run (C := True) (pc' := 21) (la' := [some (.inr (.inr (some (2, 0)))), some (.inl c), some (.inl (cNx H c i)), some (.inl i), none]) (st' := [.inl (g 5 i 2)]) (M' := (P, g, r0, n)) ok_X2_nextByPlace true 1 rfl trivial ?_
    refine aj_if_eq (tgt := 36) (ax_dec2 (i := .ifCond .eq 15) (n := 3) ok_X2_nextByPlace rfl) (by decide) (fun c2 => ?_) (fun c2 => ?_)
    · refine aj_run (C := True) (pc' := 41) (la' := [some (.inr (.inr (some (2, 0)))), some (.inl c), some (.inl (cNx H c i)), some (.inl i), some (.inl 0)]) (st' := [.inl 0]) (M' := (P, g, r0, n)) ok_X2_nextByPlace true 3 rfl trivial ?_
      refine aj_if_eq (tgt := 72) (ax_dec2 (i := .ifCond .eq 31) (n := 3) ok_X2_nextByPlace rfl) (by decide) (fun c3 => ?_) (fun c3 => ?_)
      · refine aj_run (C := (-2147483648 ≤ i + 1 ∧ i + 1 ≤ 2147483647) ∧ True) (pc' := 4) (la' := [some (.inr (.inr (some (2, 0)))), some (.inl c), some (.inl (cNx H c i)), some (.inl (i + 1)), some (.inl 0)]) (st' := []) (M' := (P, g, r0, n)) ok_X2_nextByPlace true 2 rfl (by refine ⟨?_, trivial⟩ <;> (first | omega | (constructor <;> omega))) ?_
        refine aj_cast (congrArg (fun (z9 : Int) => ([some (.inr (.inr (some (2, 0)))), some (.inl c), some (.inl z9), some (.inl (i + 1)), some (.inl 0)] : List (Option ax_V))) (show (cNx H c i) = cNx H c (i + 1) from by (rw [hns]; first | rw [if_pos ⟨⟨by omega, by omega⟩, by omega⟩] | rw [if_neg (fun z => by omega)]))) rfl rfl ?_
        refine aj_forget (la' := [some (.inr (.inr (some (2, 0)))), some (.inl c), some (.inl (cNx H c (i + 1))), some (.inl (i + 1)), none]) (by simp [ax_fg]) ?_
        refine ih4 (i + 1) ?_ ?_
        · (try dsimp only); omega
        · omega
      · exact absurd c3 (by omega)
    · refine aj_run (C := True) (pc' := 29) (la' := [some (.inr (.inr (some (2, 0)))), some (.inl c), some (.inl (cNx H c i)), some (.inl i), none]) (st' := [.inl (ax_and (ax_shr c i) 1)]) (M' := (P, g, r0, n)) ok_X2_nextByPlace true 5 rfl trivial ?_
      refine aj_if_ne (tgt := 36) (ax_dec2 (i := .ifCond .ne 7) (n := 3) ok_X2_nextByPlace rfl) (by decide) (fun c4 => ?_) (fun c4 => ?_)
      · refine aj_run (C := True) (pc' := 41) (la' := [some (.inr (.inr (some (2, 0)))), some (.inl c), some (.inl (cNx H c i)), some (.inl i), some (.inl 0)]) (st' := [.inl 0]) (M' := (P, g, r0, n)) ok_X2_nextByPlace true 3 rfl trivial ?_
        refine aj_if_eq (tgt := 72) (ax_dec2 (i := .ifCond .eq 31) (n := 3) ok_X2_nextByPlace rfl) (by decide) (fun c5 => ?_) (fun c5 => ?_)
        · refine aj_run (C := (-2147483648 ≤ i + 1 ∧ i + 1 ≤ 2147483647) ∧ True) (pc' := 4) (la' := [some (.inr (.inr (some (2, 0)))), some (.inl c), some (.inl (cNx H c i)), some (.inl (i + 1)), some (.inl 0)]) (st' := []) (M' := (P, g, r0, n)) ok_X2_nextByPlace true 2 rfl (by refine ⟨?_, trivial⟩ <;> (first | omega | (constructor <;> omega))) ?_
          refine aj_cast (congrArg (fun (z9 : Int) => ([some (.inr (.inr (some (2, 0)))), some (.inl c), some (.inl z9), some (.inl (i + 1)), some (.inl 0)] : List (Option ax_V))) (show (cNx H c i) = cNx H c (i + 1) from by (rw [hns]; first | rw [if_pos ⟨⟨by omega, by omega⟩, by omega⟩] | rw [if_neg (fun z => by omega)]))) rfl rfl ?_
          refine aj_forget (la' := [some (.inr (.inr (some (2, 0)))), some (.inl c), some (.inl (cNx H c (i + 1))), some (.inl (i + 1)), none]) (by simp [ax_fg]) ?_
          refine ih4 (i + 1) ?_ ?_
          · (try dsimp only); omega
          · omega
        · exact absurd c5 (by omega)
      · refine aj_run (C := True) (pc' := 41) (la' := [some (.inr (.inr (some (2, 0)))), some (.inl c), some (.inl (cNx H c i)), some (.inl i), some (.inl 1)]) (st' := [.inl 1]) (M' := (P, g, r0, n)) ok_X2_nextByPlace true 4 rfl trivial ?_
        refine aj_if_eq (tgt := 72) (ax_dec2 (i := .ifCond .eq 31) (n := 3) ok_X2_nextByPlace rfl) (by decide) (fun c6 => ?_) (fun c6 => ?_)
        · exact absurd c6 (by omega)
        · refine aj_run (C := True) (pc' := 46) (la' := [some (.inr (.inr (some (2, 0)))), some (.inl c), some (.inl (cNx H c i)), some (.inl i), some (.inl 1)]) (st' := [.inl (-1), .inl (cNx H c i)]) (M' := (P, g, r0, n)) ok_X2_nextByPlace true 2 rfl trivial ?_
          refine aj_icmp_eq (tgt := 70) (ax_dec2 (i := .if_icmp .eq 24) (n := 3) ok_X2_nextByPlace rfl) (by decide) (fun c7 => ?_) (fun c7 => ?_)
          · refine aj_run (C := (-2147483648 ≤ i + 1 ∧ i + 1 ≤ 2147483647) ∧ True) (pc' := 4) (la' := [some (.inr (.inr (some (2, 0)))), some (.inl c), some (.inl i), some (.inl (i + 1)), some (.inl 1)]) (st' := []) (M' := (P, g, r0, n)) ok_X2_nextByPlace true 4 rfl (by refine ⟨?_, trivial⟩ <;> (first | omega | (constructor <;> omega))) ?_
            refine aj_cast (congrArg (fun (z9 : Int) => ([some (.inr (.inr (some (2, 0)))), some (.inl c), some (.inl z9), some (.inl (i + 1)), some (.inl 1)] : List (Option ax_V))) (show i = cNx H c (i + 1) from by (rw [hns]; first | rw [if_pos ⟨⟨by omega, by omega⟩, by omega⟩] | rw [if_neg (fun z => by omega)]))) rfl rfl ?_
            refine aj_forget (la' := [some (.inr (.inr (some (2, 0)))), some (.inl c), some (.inl (cNx H c (i + 1))), some (.inl (i + 1)), none]) (by simp [ax_fg]) ?_
            refine ih4 (i + 1) ?_ ?_
            · (try dsimp only); omega
            · omega
          · obtain ⟨-, y3, -⟩ := hD (cNx H c i) (by omega) (by omega)
            have y33 := y3 (by omega)
            refine aj_run (C := True) (pc' := 54) (la' := [some (.inr (.inr (some (2, 0)))), some (.inl c), some (.inl (cNx H c i)), some (.inl i), some (.inl 1)]) (st' := [.inl i, .inr (.inr (some (200, 0)))]) (M' := (P, g, r0, n)) ok_X2_nextByPlace true 3 rfl trivial ?_
            refine aj_aald (f := 200) (g := 5) (o := 0) (i := i) (u := i) (E := "AntsTurn$Ant") rfl rfl rfl ⟨by omega, by have z9 := hA.1.1; show i < n 200 0; omega⟩ (hA.2 i (by omega) (by omega)).1.1 (hA.2 i (by omega) (by omega)).1.2 (ax_dec2 (i := .aaload) (n := 1) ok_X2_nextByPlace rfl) ?_
            refine aj_run (C := True) (pc' := 63) (la' := [some (.inr (.inr (some (2, 0)))), some (.inl c), some (.inl (cNx H c i)), some (.inl i), some (.inl 1)]) (st' := [.inl (cNx H c i), .inr (.inr (some (200, 0))), .inl (g 5 i 3)]) (M' := (P, g, r0, n)) ok_X2_nextByPlace true 4 rfl trivial ?_
            refine aj_aald (f := 200) (g := 5) (o := 0) (i := cNx H c i) (u := cNx H c i) (E := "AntsTurn$Ant") rfl rfl rfl ⟨by omega, by have z9 := hA.1.1; show cNx H c i < n 200 0; omega⟩ (hA.2 (cNx H c i) (by omega) (by omega)).1.1 (hA.2 (cNx H c i) (by omega) (by omega)).1.2 (ax_dec2 (i := .aaload) (n := 1) ok_X2_nextByPlace rfl) ?_
            refine aj_run (C := True) (pc' := 67) (la' := [some (.inr (.inr (some (2, 0)))), some (.inl c), some (.inl (cNx H c i)), some (.inl i), some (.inl 1)]) (st' := [.inl (g 5 (cNx H c i) 3), .inl (g 5 i 3)]) (M' := (P, g, r0, n)) ok_X2_nextByPlace true 1 rfl trivial ?_
            refine aj_icmp_ge (tgt := 72) (ax_dec2 (i := .if_icmp .ge 5) (n := 3) ok_X2_nextByPlace rfl) (by decide) (fun c8 => ?_) (fun c8 => ?_)
            · refine aj_run (C := (-2147483648 ≤ i + 1 ∧ i + 1 ≤ 2147483647) ∧ True) (pc' := 4) (la' := [some (.inr (.inr (some (2, 0)))), some (.inl c), some (.inl (cNx H c i)), some (.inl (i + 1)), some (.inl 1)]) (st' := []) (M' := (P, g, r0, n)) ok_X2_nextByPlace true 2 rfl (by refine ⟨?_, trivial⟩ <;> (first | omega | (constructor <;> omega))) ?_
              refine aj_cast (congrArg (fun (z9 : Int) => ([some (.inr (.inr (some (2, 0)))), some (.inl c), some (.inl z9), some (.inl (i + 1)), some (.inl 1)] : List (Option ax_V))) (show (cNx H c i) = cNx H c (i + 1) from by (rw [hns]; first | rw [if_pos ⟨⟨by omega, by omega⟩, by omega⟩] | rw [if_neg (fun z => by omega)]))) rfl rfl ?_
              refine aj_forget (la' := [some (.inr (.inr (some (2, 0)))), some (.inl c), some (.inl (cNx H c (i + 1))), some (.inl (i + 1)), none]) (by simp [ax_fg]) ?_
              refine ih4 (i + 1) ?_ ?_
              · (try dsimp only); omega
              · omega
            · refine aj_run (C := (-2147483648 ≤ i + 1 ∧ i + 1 ≤ 2147483647) ∧ True) (pc' := 4) (la' := [some (.inr (.inr (some (2, 0)))), some (.inl c), some (.inl i), some (.inl (i + 1)), some (.inl 1)]) (st' := []) (M' := (P, g, r0, n)) ok_X2_nextByPlace true 4 rfl (by refine ⟨?_, trivial⟩ <;> (first | omega | (constructor <;> omega))) ?_
              refine aj_cast (congrArg (fun (z9 : Int) => ([some (.inr (.inr (some (2, 0)))), some (.inl c), some (.inl z9), some (.inl (i + 1)), some (.inl 1)] : List (Option ax_V))) (show i = cNx H c (i + 1) from by (rw [hns]; first | rw [if_pos ⟨⟨by omega, by omega⟩, by omega⟩] | rw [if_neg (fun z => by omega)]))) rfl rfl ?_
              refine aj_forget (la' := [some (.inr (.inr (some (2, 0)))), some (.inl c), some (.inl (cNx H c (i + 1))), some (.inl (i + 1)), none]) (by simp [ax_fg]) ?_
              refine ih4 (i + 1) ?_ ?_
              · (try dsimp only); omega
              · omega

set_option maxRecDepth 100000 in
set_option maxHeartbeats 4000000 in
theorem cp_isAsNoted (P : Nat → Int → Prop) (g : Nat → Int → Int → Int) (r0 : Nat → Int → Int → Option (Nat × Int)) (n : Nat → Int → Int) (hA : cAn P r0 n (g 2 0 1)) : ax_S yX2_isAsNoted cX2_isAsNoted 2 (some FieldType.boolean) 9 0 0 [.inr (.inr (some (2, 0)))] (P, g, r0, n) (fun r M' => r = some (.inl (cAs g (g 2 0 1))) ∧ M' = (P, g, r0, n)) := by
  have hA1 := hA.1
  refine ax_S_of (own := 2) (by decide) rfl (fun h => absurd h (by decide)) rfl (Nat.le_of_ble_eq_true rfl) ?_
  change ax_J _ _ _ _ _ _ _ _ _ _ [some (.inr (.inr (some (2, 0)))), none] _ _
  refine aj_run (C := True) (pc' := 2) (la' := [some (.inr (.inr (some (2, 0)))), some (.inl 0)]) (st' := []) (M' := (P, g, r0, n)) ok_X2_isAsNoted true 2 rfl trivial ?_
  refine aj_loop (σ := (Int)) (fun xL => 0 ≤ xL ∧ xL ≤ g 2 0 1 ∧ cAs g xL = 1) (fun xL => (g 2 0 1 - xL).toNat) (fun xL => [some (.inr (.inr (some (2, 0)))), some (.inl xL)]) (fun xL => []) (fun xL => (P, g, r0, n)) ?_ (0) ?_
  rotate_left
  · (try dsimp only); exact ⟨by omega, by omega, rfl⟩
  rintro i hI ih2
  try dsimp only at hI ih2
  obtain ⟨i1, i2, i3⟩ := hI
  change ax_J _ _ _ _ _ _ _ _ _ 2 [some (.inr (.inr (some (2, 0)))), some (.inl i)] [] (P, g, r0, n)
  refine aj_run (C := True) (pc' := 7) (la' := [some (.inr (.inr (some (2, 0)))), some (.inl i)]) (st' := [.inl (g 2 0 1), .inl i]) (M' := (P, g, r0, n)) ok_X2_isAsNoted true 3 rfl trivial ?_
  refine aj_icmp_ge (tgt := 30) (ax_dec2 (i := .if_icmp .ge 23) (n := 3) ok_X2_isAsNoted rfl) (by decide) (fun c1 => ?_) (fun c1 => ?_)
  · refine aj_run (C := True) (pc' := 31) (la' := [some (.inr (.inr (some (2, 0)))), some (.inl i)]) (st' := [.inl 1]) (M' := (P, g, r0, n)) ok_X2_isAsNoted true 1 rfl trivial ?_
    refine aj_ret (r := some (.inl 1)) (ax_dec2 (i := .ireturn) (n := 1) ok_X2_isAsNoted rfl) ⟨?_, ?_, by decide, by decide⟩ rfl
    · exact ⟨ax_si (by rw [show g 2 0 1 = i by omega]; exact i3.symm), rfl⟩
    · exact ax_ro_b (Or.inr rfl)
  · refine aj_run (C := True) (pc' := 15) (la' := [some (.inr (.inr (some (2, 0)))), some (.inl i)]) (st' := [.inl i, .inr (.inr (some (200, 0)))]) (M' := (P, g, r0, n)) ok_X2_isAsNoted true 3 rfl trivial ?_
    refine aj_aald (f := 200) (g := 5) (o := 0) (i := i) (u := i) (E := "AntsTurn$Ant") rfl rfl rfl ⟨by omega, by have z9 := hA.1.1; show i < n 200 0; omega⟩ (hA.2 i (by omega) (by omega)).1.1 (hA.2 i (by omega) (by omega)).1.2 (ax_dec2 (i := .aaload) (n := 1) ok_X2_isAsNoted rfl) ?_
    refine aj_d_isAsNoted lk_2_156 (hA.2 i (by omega) (by omega)).2.2 ⟨by decide, by decide, by decide, by decide⟩ (Nat.le_of_ble_eq_true rfl) (ax_dec2 (i := .invokevirtual 156) (n := 3) ok_X2_isAsNoted rfl) ?_
    change ax_J _ _ _ _ _ _ _ _ _ 19 [some (.inr (.inr (some (2, 0)))), some (.inl i)] [.inl (bI (g 5 i 3 = g 5 i 11 ∧ g 5 i 4 = g 5 i 12))] (P, g, r0, n)
    refine aj_if_ne (tgt := 24) (ax_dec2 (i := .ifCond .ne 5) (n := 3) ok_X2_isAsNoted rfl) (by decide) (fun c2 => ?_) (fun c2 => ?_)
    · replace c2 := bI_n0 c2
      refine aj_run (C := (-2147483648 ≤ i + 1 ∧ i + 1 ≤ 2147483647) ∧ True) (pc' := 2) (la' := [some (.inr (.inr (some (2, 0)))), some (.inl (i + 1))]) (st' := []) (M' := (P, g, r0, n)) ok_X2_isAsNoted true 2 rfl (by refine ⟨?_, trivial⟩ <;> (omega)) ?_
      refine ih2 (i + 1) ?_ ?_
      · (try dsimp only); exact ⟨by omega, by omega, by rw [cAs_s i1, if_pos ⟨by omega, by omega⟩]⟩
      · omega
    · replace c2 := bI_e0 c2
      refine aj_run (C := True) (pc' := 23) (la' := [some (.inr (.inr (some (2, 0)))), some (.inl i)]) (st' := [.inl 0]) (M' := (P, g, r0, n)) ok_X2_isAsNoted true 1 rfl trivial ?_
      refine aj_ret (r := some (.inl 0)) (ax_dec2 (i := .ireturn) (n := 1) ok_X2_isAsNoted rfl) ⟨?_, ?_, by decide, by decide⟩ rfl
      · (have hz : cAs g (i + 1) = 0 := (by rw [cAs_s i1, if_neg (fun q => by omega)]); have h9 := cAs_z (by omega) hz (g 2 0 1 - (i + 1)).toNat; rw [show i + 1 + (((g 2 0 1 - (i + 1)).toNat : Nat) : Int) = g 2 0 1 by omega] at h9; exact ⟨ax_si h9.symm, rfl⟩)
      · exact ax_ro_b (Or.inl rfl)

