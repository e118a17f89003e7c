/-! ===== by then; round ===== -/
theorem gBy_all {h : Nat → Int → Int → Int} {t w : Int} : ∀ m : Nat, gBy h t w m ≠ 0 ↔ ∀ a : Int, 0 ≤ a → a < m → 0 ≤ gA h w 135 0 a ∧ gA h w 135 0 a ≤ t
  | 0 => ⟨fun _ a h1 h2 => by omega, fun _ => by show (1 : Int) ≠ 0; decide⟩
  | m + 1 => by
    have ih := gBy_all (h := h) (t := t) (w := w) m
    rw [show ((m + 1 : Nat) : Int) = (m : Int) + 1 by omega, gBy_s (by omega)]
    by_cases c : gBy h t w m ≠ 0 ∧ 0 ≤ gA h w 135 0 m ∧ gA h w 135 0 m ≤ t
    · rw [if_pos c]
      refine ⟨fun _ a h1 h2 => ?_, fun _ => by decide⟩
      by_cases e : a = m
      · rw [e]; exact c.2
      · exact ih.mp c.1 a h1 (by omega)
    · rw [if_neg c]
      exact ⟨fun z => absurd rfl z, fun z => absurd ⟨ih.mpr (fun a h1 h2 => z a h1 (by omega)), z m (by omega) (by omega)⟩ c⟩
theorem wMax_ge {off : Int → Int} : ∀ m : Nat, (0 < m → wMax off m ≠ -1) ∧ ∀ a : Int, 0 ≤ a → a < m → off a ≤ off (wMax off m)
  | 0 => ⟨fun h => by omega, fun a h1 h2 => by omega⟩
  | m + 1 => by
    obtain ⟨i1, i2⟩ := wMax_ge (off := off) m
    have hi := wMax_in (off := off) (n := m) (by omega)
    rw [show ((m + 1 : Nat) : Int) = (m : Int) + 1 by omega, wMax_s (by omega)]
    by_cases c : wMax off m = -1 ∨ off (wMax off m) < off m
    · rw [if_pos c]
      refine ⟨fun _ => by omega, fun a h1 h2 => ?_⟩
      by_cases e : a = m
      · rw [e]; exact Int.le_refl _
      · have := i2 a h1 (by omega)
        have := i1 (by omega)
        omega
    · rw [if_neg c]
      refine ⟨fun _ => by omega, fun a h1 h2 => ?_⟩
      by_cases e : a = m
      · rw [e]; omega
      · exact i2 a h1 (by omega)
theorem pBy_v {h : Nat → Int → Int → Int} {t w : Int} (h2 : 0 ≤ h 50 0 2) : pBy h t w ≠ 0 ↔ (h 50 0 2 = 0 ∨ (gLt h w ≠ -1 ∧ gLt h w ≤ t)) := by
  have hb := gBy_all (h := h) (t := t) (w := w) (h 50 0 2).toNat
  have hm := wMax_ge (off := gA h w 135 0) (h 50 0 2).toNat
  rw [show (((h 50 0 2).toNat : Nat) : Int) = h 50 0 2 by omega] at hb hm
  have hin := wMax_in (off := gA h w 135 0) (n := h 50 0 2) h2
  unfold pBy
  rw [hb]
  constructor
  · intro z
    by_cases c : h 50 0 2 = 0
    · exact Or.inl c
    · have e := gLa_y (h := h) (w := w) (n := h 50 0 2) rfl (fun a h1 h3 => (z a h1 h3).1)
      have hne := hm.1 (by omega)
      have e2 : gLt h w = gA h w 135 0 (wMax (gA h w 135 0) (h 50 0 2)) := by rw [e.2]; unfold wLt; rw [if_neg hne]
      have := z _ (by omega : 0 ≤ wMax (gA h w 135 0) (h 50 0 2)) (by omega)
      exact Or.inr (by rw [e2]; omega)
  · rintro (z | ⟨z1, z2⟩) a h1 h3
    · omega
    · rcases gLt_v (h := h) (w := w) with ⟨y1, y2⟩ | ⟨y1, y2, y3⟩
      · exact absurd y2 z1
      · have hall : ∀ a, 0 ≤ a → a < h 50 0 2 → 0 ≤ gA h w 135 0 a := by
          by_cases q : ∀ a, 0 ≤ a → a < h 50 0 2 → 0 ≤ gA h w 135 0 a
          · exact q
          · exfalso
            apply y1
            unfold gLa wLast
            rw [if_neg q]
        have e := gLa_y (h := h) (w := w) (n := h 50 0 2) rfl hall
        have := hm.2 a h1 h3
        rw [e.1] at y2
        exact ⟨hall a h1 h3, by omega⟩
theorem redC : (List.range 8).all (fun m => (List.range 129).all fun f => !(decide ((f : Int) ≤ ax_shl 1 m)) || (if f = 0 then decide (wRed 8 f (ax_shl 1 m) = (Int.tdiv f (ax_shl 1 m), Int.tdiv (ax_shl 1 m) (ax_shl 1 m))) && decide (0 < ax_shl 1 m) else (decide (0 < ax_and f (-f)) && decide (wRed 8 f (ax_shl 1 m) = (Int.tdiv f (ax_and f (-f)), Int.tdiv (ax_shl 1 m) (ax_and f (-f))))))) = true := by decide +kernel
theorem red_ok {m f : Int} (hm : 0 ≤ m ∧ m ≤ 7) (hf : 0 ≤ f ∧ f ≤ 128) (hw : f ≤ ax_shl 1 m) : (f = 0 → wRed 8 f (ax_shl 1 m) = (Int.tdiv f (ax_shl 1 m), Int.tdiv (ax_shl 1 m) (ax_shl 1 m)) ∧ 0 < ax_shl 1 m) ∧ (f ≠ 0 → 0 < ax_and f (-f) ∧ wRed 8 f (ax_shl 1 m) = (Int.tdiv f (ax_and f (-f)), Int.tdiv (ax_shl 1 m) (ax_and f (-f)))) := by
  have h := redC
  rw [List.all_eq_true] at h
  have h := h m.toNat (List.mem_range.mpr (by omega))
  rw [List.all_eq_true] at h
  have h := h f.toNat (List.mem_range.mpr (by omega))
  rw [show ((m.toNat : Nat) : Int) = m by omega, show ((f.toNat : Nat) : Int) = f by omega, Bool.or_eq_true] at h
  have h := h.resolve_left (by rw [decide_eq_true hw]; decide)
  constructor
  · intro c
    rw [if_pos (by omega), Bool.and_eq_true, decide_eq_true_eq, decide_eq_true_eq] at h
    exact h
  · intro c
    rw [if_neg (by omega), Bool.and_eq_true, decide_eq_true_eq, decide_eq_true_eq] at h
    exact h
set_option maxRecDepth 100000 in
set_option maxHeartbeats 4000000 in
theorem cp_byThen (t w : Int) (P : Nat → Int → Prop) (g : Nat → Int → Int → Int) (r0 : Nat → Int → Int → Option (Nat × Int)) (n : Nat → Int → Int) (h : Nat → Int → Int → Int) (hs : cSta P r0 n g h) (hd : cDy g h) : ax_S yX10_byThen cX10_byThen 6 (some FieldType.long) 14 0 0 [.inr (.inr (some (1, 0))), .inl t, .inl w] (P, g, r0, n) (fun r M' => r = some (.inr (.inl (fBy h t w))) ∧ ∃ g', M' = (P, g', r0, n) ∧ cDy g' h ∧ cFr TW g' g) := by
  have hAs := hs.1.1
  have hPs := hs.1.2.1
  have hOs := hs.1.2.2
  have hP1 := hPs.1
  have hA1 := hAs.1
  have hsz := hOs.2.2.1
  have hm := hd.1
  have hca := hd.2
  have hxz := hPs.1.1
  refine ax_S_of (own := 10) (by decide) rfl (fun h => absurd h (by decide)) rfl (Nat.le_of_ble_eq_true rfl) ?_
  change ax_J _ _ _ _ _ _ _ _ _ _ [some (.inr (.inr (some (1, 0)))), some (.inl t), some (.inl w), none, none, none] _ _
  refine aj_run (C := True) (pc' := 1) (la' := [some (.inr (.inr (some (1, 0)))), some (.inl t), some (.inl w), none, none, none]) (st' := [.inl t]) (M' := (P, g, r0, n)) ok_X10_byThen true 1 rfl trivial ?_
  refine aj_callS (av := [.inl t]) (st := []) cal_X10_isBeat lk_10_160 stc_X10_isBeat (cp_isBeat t _ _ _ _) ⟨by decide, by decide, by decide, by decide⟩ (Nat.le_of_ble_eq_true rfl) (ax_dec2 (i := .invokestatic 160) (n := 3) ok_X10_byThen rfl) (fun r M' hq => ?_)
  obtain ⟨rfl, rfl⟩ := hq
  change ax_J _ _ _ _ _ _ _ _ _ 4 [some (.inr (.inr (some (1, 0)))), some (.inl t), some (.inl w), none, none, none] [.inl (bI (0 ≤ t ∧ t ≤ 200))] (P, g, r0, n)
  refine aj_if_eq (tgt := 14) (ax_dec2 (i := .ifCond .eq 10) (n := 3) ok_X10_byThen rfl) (by decide) (fun c1 => ?_) (fun c1 => ?_)
  · replace c1 := bI_e0 c1
    refine aj_run (C := True) (pc' := 17) (la' := [some (.inr (.inr (some (1, 0)))), some (.inl t), some (.inl w), none, none, none]) (st' := [.inr (.inl (-4611686018427387904))]) (M' := (P, g, r0, n)) ok_X10_byThen true 1 rfl trivial ?_
    refine aj_ret (r := some (.inr (.inl (-4611686018427387904)))) (ax_dec2 (i := .lreturn) (n := 1) ok_X10_byThen rfl) ⟨?_, ?_, by decide, by decide⟩ rfl
    · exact ⟨congrArg (fun (z9 : Int) => (some (.inr (.inl z9)) : Option ax_V)) (by unfold fBy; rw [if_neg (by omega)]), g, rfl, hd, fun _ _ _ _ => rfl⟩
    · exact trivial
  · replace c1 := bI_n0 c1
    refine aj_run (C := True) (pc' := 8) (la' := [some (.inr (.inr (some (1, 0)))), some (.inl t), some (.inl w), none, none, none]) (st' := [.inl w]) (M' := (P, g, r0, n)) ok_X10_byThen true 1 rfl trivial ?_
    refine aj_callS (av := [.inl w]) (st := []) cal_X10_isEither lk_10_163 stc_X10_isEither (cp_isEither w _ _ _ _) ⟨by decide, by decide, by decide, by decide⟩ (Nat.le_of_ble_eq_true rfl) (ax_dec2 (i := .invokestatic 163) (n := 3) ok_X10_byThen rfl) (fun r M' hq => ?_)
    obtain ⟨rfl, rfl⟩ := hq
    change ax_J _ _ _ _ _ _ _ _ _ 11 [some (.inr (.inr (some (1, 0)))), some (.inl t), some (.inl w), none, none, none] [.inl (bI (0 ≤ w ∧ w ≤ 1))] (P, g, r0, n)
    refine aj_if_ne (tgt := 18) (ax_dec2 (i := .ifCond .ne 7) (n := 3) ok_X10_byThen rfl) (by decide) (fun c2 => ?_) (fun c2 => ?_)
    · replace c2 := bI_n0 c2
      refine aj_run (C := True) (pc' := 23) (la' := [some (.inr (.inr (some (1, 0)))), some (.inl t), some (.inl w), some (.inl 0), some (.inl 0), none]) (st' := []) (M' := (P, g, r0, n)) ok_X10_byThen true 4 rfl trivial ?_
      refine aj_cast (congrArg (fun (z9 : Int) => ([some (.inr (.inr (some (1, 0)))), some (.inl t), some (.inl w), some (.inl z9), some (.inl 0), none] : List (Option ax_V))) (show 0 = (wCf (pBy h t) 0).1 from by rfl)) rfl rfl ?_
      refine aj_forget (la' := [some (.inr (.inr (some (1, 0)))), some (.inl t), some (.inl w), some (.inl ((wCf (pBy h t) 0).1)), some (.inl 0), none]) (by simp [ax_fg]) ?_
      refine aj_loop (σ := (Int) × (Nat → Int → Int → Int)) (fun xL => 0 ≤ xL.1 ∧ xL.1 ≤ wWy h ∧ cDy xL.2 h ∧ cFr TW xL.2 g) (fun xL => (wWy h - xL.1).toNat) (fun xL => [some (.inr (.inr (some (1, 0)))), some (.inl t), some (.inl w), some (.inl ((wCf (pBy h t) xL.1).1)), some (.inl xL.1), none]) (fun xL => []) (fun xL => (P, xL.2, r0, n)) ?_ (0, g) ?_
      rotate_left
      · (try dsimp only); exact ⟨by omega, by have := wWy_in hOs; omega, hd, fun _ _ _ _ => rfl⟩
      rintro ⟨k, g1⟩ hI ih23
      try dsimp only at hI ih23
      obtain ⟨i1, i2, i3, i4⟩ := hI
      change ax_J _ _ _ _ _ _ _ _ _ 23 [some (.inr (.inr (some (1, 0)))), some (.inl t), some (.inl w), some (.inl ((wCf (pBy h t) k).1)), some (.inl k), none] [] (P, g1, r0, n)
      have hs1 : g1 2 0 1 = g 2 0 1 := i4 2 0 1 (by unfold TW TG; omega)
      have hwy : ax_shl 1 (g1 2 0 1) = wWy h := by rw [hs1, hxz]; rfl
      have hw9 := wWy_in hOs
      have hsk := cSta_w i4 hs
      have hci := wCf_in (p := pBy h t) i1
      refine aj_run (C := True) (pc' := 26) (la' := [some (.inr (.inr (some (1, 0)))), some (.inl t), some (.inl w), some (.inl ((wCf (pBy h t) k).1)), some (.inl k), none]) (st' := [.inr (.inr (some (1, 0))), .inl k]) (M' := (P, g1, r0, n)) ok_X10_byThen true 2 rfl trivial ?_
      refine aj_getR (f := 1) (k := 0) (g := 2) (o := 0) (u := 0) (ax_lk_ok (q := (1, 0)) rfl) rfl rfl hs.2.2.2.1 hs.2.2.2.2 (ax_dec2 (i := .getfield 10) (n := 3) ok_X10_byThen rfl) ?_
      refine aj_callV (av := []) (st := [.inl k]) (f := 2) (o := 0) (ci := 2) cal_X2_ways lk_10_207 ins_X2_ways rfl sel_X2_ways rfl (fun c9 h9 _ => by simpa [ax_ok] using h9) (cp_ways _ _ _ _) ⟨by decide, by decide, by decide, by decide⟩ (Nat.le_of_ble_eq_true rfl) (ax_dec2 (i := .invokevirtual 207) (n := 3) ok_X10_byThen rfl) (fun r M' hq => ?_)
      obtain ⟨rfl, rfl⟩ := hq
      change ax_J _ _ _ _ _ _ _ _ _ 32 [some (.inr (.inr (some (1, 0)))), some (.inl t), some (.inl w), some (.inl ((wCf (pBy h t) k).1)), some (.inl k), none] [.inl (ax_shl 1 (g1 2 0 1)), .inl k] (P, g1, r0, n)
      refine aj_icmp_ge (tgt := 77) (ax_dec2 (i := .if_icmp .ge 45) (n := 3) ok_X10_byThen rfl) (by decide) (fun c3 => ?_) (fun c3 => ?_)
      · have hk9 : ax_shl 1 (h 50 0 2) = k := by rw [show ax_shl 1 (h 50 0 2) = wWy h from rfl]; omega
        have hR := red_ok (m := h 50 0 2) (f := (wCf (pBy h t) k).1) (by omega) (by omega) (by omega)
        rw [hk9] at hR
        have hwk : ax_shl 1 (g1 2 0 1) = k := by omega
        refine aj_run (C := True) (pc' := 78) (la' := [some (.inr (.inr (some (1, 0)))), some (.inl t), some (.inl w), some (.inl ((wCf (pBy h t) k).1)), some (.inl k), none]) (st' := [.inl ((wCf (pBy h t) k).1)]) (M' := (P, g1, r0, n)) ok_X10_byThen true 1 rfl trivial ?_
        refine aj_if_ne (tgt := 91) (ax_dec2 (i := .ifCond .ne 13) (n := 3) ok_X10_byThen rfl) (by decide) (fun c4 => ?_) (fun c4 => ?_)
        · refine aj_run (C := (-2147483648 ≤ -((wCf (pBy h t) k).1) ∧ -((wCf (pBy h t) k).1) ≤ 2147483647) ∧ True) (pc' := 98) (la' := [some (.inr (.inr (some (1, 0)))), some (.inl t), some (.inl w), some (.inl ((wCf (pBy h t) k).1)), some (.inl (ax_and ((wCf (pBy h t) k).1) (-((wCf (pBy h t) k).1)))), none]) (st' := [.inl w]) (M' := (P, g1, r0, n)) ok_X10_byThen true 6 rfl (by refine ⟨?_, trivial⟩ <;> (omega)) ?_
          refine aj_if_ne (tgt := 105) (ax_dec2 (i := .ifCond .ne 7) (n := 3) ok_X10_byThen rfl) (by decide) (fun c5 => ?_) (fun c5 => ?_)
          · refine aj_run (C := True) (pc' := 106) (la' := [some (.inr (.inr (some (1, 0)))), some (.inl t), some (.inl w), some (.inl ((wCf (pBy h t) k).1)), some (.inl (ax_and ((wCf (pBy h t) k).1) (-((wCf (pBy h t) k).1)))), none]) (st' := [.inr (.inr (some (1, 0)))]) (M' := (P, g1, r0, n)) ok_X10_byThen true 1 rfl trivial ?_
            refine aj_getR (f := 1) (k := 0) (g := 2) (o := 0) (u := 0) (ax_lk_ok (q := (1, 0)) rfl) rfl rfl hs.2.2.2.1 hs.2.2.2.2 (ax_dec2 (i := .getfield 10) (n := 3) ok_X10_byThen rfl) ?_
            refine aj_callV (av := []) (st := []) (f := 2) (o := 0) (ci := 2) cal_X2_ways lk_10_207 ins_X2_ways rfl sel_X2_ways rfl (fun c9 h9 _ => by simpa [ax_ok] using h9) (cp_ways _ _ _ _) ⟨by decide, by decide, by decide, by decide⟩ (Nat.le_of_ble_eq_true rfl) (ax_dec2 (i := .invokevirtual 207) (n := 3) ok_X10_byThen rfl) (fun r M' hq => ?_)
            obtain ⟨rfl, rfl⟩ := hq
            change ax_J _ _ _ _ _ _ _ _ _ 112 [some (.inr (.inr (some (1, 0)))), some (.inl t), some (.inl w), some (.inl ((wCf (pBy h t) k).1)), some (.inl (ax_and ((wCf (pBy h t) k).1) (-((wCf (pBy h t) k).1)))), none] [.inl (ax_shl 1 (g1 2 0 1))] (P, g1, r0, n)
            refine aj_run (C := True) (pc' := 114) (la' := [some (.inr (.inr (some (1, 0)))), some (.inl t), some (.inl w), some (.inl ((wCf (pBy h t) k).1)), some (.inl (ax_and ((wCf (pBy h t) k).1) (-((wCf (pBy h t) k).1)))), some (.inl (ax_shl 1 (g1 2 0 1)))]) (st' := []) (M' := (P, g1, r0, n)) ok_X10_byThen true 1 rfl trivial ?_
            have hcp : 0 < ax_and ((wCf (pBy h t) k).1) (-((wCf (pBy h t) k).1)) := by first | (have := (hR.1 (by omega)).2; omega) | exact (hR.2 (by omega)).1
            refine aj_run (C := True) (pc' := 116) (la' := [some (.inr (.inr (some (1, 0)))), some (.inl t), some (.inl w), some (.inl ((wCf (pBy h t) k).1)), some (.inl (ax_and ((wCf (pBy h t) k).1) (-((wCf (pBy h t) k).1)))), some (.inl (ax_shl 1 (g1 2 0 1)))]) (st' := [.inl (ax_and ((wCf (pBy h t) k).1) (-((wCf (pBy h t) k).1)))]) (M' := (P, g1, r0, n)) ok_X10_byThen true 1 rfl trivial ?_
            refine aj_if_ne (tgt := 125) (ax_dec2 (i := .ifCond .ne 9) (n := 3) ok_X10_byThen rfl) (by decide) (fun c6 => ?_) (fun c6 => ?_)
            · refine aj_run (C := (0 < ax_and ((wCf (pBy h t) k).1) (-((wCf (pBy h t) k).1))) ∧ True) (pc' := 131) (la' := [some (.inr (.inr (some (1, 0)))), some (.inl t), some (.inl w), some (.inl ((wCf (pBy h t) k).1)), some (.inl (ax_and ((wCf (pBy h t) k).1) (-((wCf (pBy h t) k).1)))), some (.inl (ax_shl 1 (g1 2 0 1)))]) (st' := [.inr (.inl (Int.tdiv (ax_shl 1 (g1 2 0 1)) (ax_and ((wCf (pBy h t) k).1) (-((wCf (pBy h t) k).1)))))]) (M' := (P, g1, r0, n)) ok_X10_byThen true 4 rfl (by refine ⟨?_, trivial⟩ <;> (omega)) ?_
              refine aj_ret (r := some (.inr (.inl (Int.tdiv (ax_shl 1 (g1 2 0 1)) (ax_and ((wCf (pBy h t) k).1) (-((wCf (pBy h t) k).1))))))) (ax_dec2 (i := .lreturn) (n := 1) ok_X10_byThen rfl) ⟨?_, ?_, by decide, by decide⟩ rfl
              · first | (exfalso; omega) | exact ⟨congrArg (fun (z9 : Int) => (some (.inr (.inl z9)) : Option ax_V)) (by unfold fBy; rw [if_pos (by omega)]; (first | rw [if_pos (by omega)] | rw [if_neg (by omega)]); rw [show wWy h = k by omega]; (first | rw [(hR.1 (by omega)).1] | rw [(hR.2 (by omega)).2]) <;> (rw [hwk])), g1, rfl, i3, i4⟩
              · exact trivial
            · refine aj_run (C := True) (pc' := 131) (la' := [some (.inr (.inr (some (1, 0)))), some (.inl t), some (.inl w), some (.inl ((wCf (pBy h t) k).1)), some (.inl (ax_and ((wCf (pBy h t) k).1) (-((wCf (pBy h t) k).1)))), some (.inl (ax_shl 1 (g1 2 0 1)))]) (st' := [.inr (.inl (-4611686018427387904))]) (M' := (P, g1, r0, n)) ok_X10_byThen true 2 rfl trivial ?_
              refine aj_ret (r := some (.inr (.inl (-4611686018427387904)))) (ax_dec2 (i := .lreturn) (n := 1) ok_X10_byThen rfl) ⟨?_, ?_, by decide, by decide⟩ rfl
              · first | (exfalso; omega) | exact ⟨congrArg (fun (z9 : Int) => (some (.inr (.inl z9)) : Option ax_V)) (by unfold fBy; rw [if_pos (by omega)]; (first | rw [if_pos (by omega)] | rw [if_neg (by omega)]); rw [show wWy h = k by omega]; (first | rw [(hR.1 (by omega)).1] | rw [(hR.2 (by omega)).2]) <;> (rw [hwk])), g1, rfl, i3, i4⟩
              · exact trivial
          · refine aj_run (C := True) (pc' := 114) (la' := [some (.inr (.inr (some (1, 0)))), some (.inl t), some (.inl w), some (.inl ((wCf (pBy h t) k).1)), some (.inl (ax_and ((wCf (pBy h t) k).1) (-((wCf (pBy h t) k).1)))), some (.inl ((wCf (pBy h t) k).1))]) (st' := []) (M' := (P, g1, r0, n)) ok_X10_byThen true 3 rfl trivial ?_
            have hcp : 0 < ax_and ((wCf (pBy h t) k).1) (-((wCf (pBy h t) k).1)) := by first | (have := (hR.1 (by omega)).2; omega) | exact (hR.2 (by omega)).1
            refine aj_run (C := True) (pc' := 116) (la' := [some (.inr (.inr (some (1, 0)))), some (.inl t), some (.inl w), some (.inl ((wCf (pBy h t) k).1)), some (.inl (ax_and ((wCf (pBy h t) k).1) (-((wCf (pBy h t) k).1)))), some (.inl ((wCf (pBy h t) k).1))]) (st' := [.inl (ax_and ((wCf (pBy h t) k).1) (-((wCf (pBy h t) k).1)))]) (M' := (P, g1, r0, n)) ok_X10_byThen true 1 rfl trivial ?_
            refine aj_if_ne (tgt := 125) (ax_dec2 (i := .ifCond .ne 9) (n := 3) ok_X10_byThen rfl) (by decide) (fun c7 => ?_) (fun c7 => ?_)
            · refine aj_run (C := (0 < ax_and ((wCf (pBy h t) k).1) (-((wCf (pBy h t) k).1))) ∧ True) (pc' := 131) (la' := [some (.inr (.inr (some (1, 0)))), some (.inl t), some (.inl w), some (.inl ((wCf (pBy h t) k).1)), some (.inl (ax_and ((wCf (pBy h t) k).1) (-((wCf (pBy h t) k).1)))), some (.inl ((wCf (pBy h t) k).1))]) (st' := [.inr (.inl (Int.tdiv ((wCf (pBy h t) k).1) (ax_and ((wCf (pBy h t) k).1) (-((wCf (pBy h t) k).1)))))]) (M' := (P, g1, r0, n)) ok_X10_byThen true 4 rfl (by refine ⟨?_, trivial⟩ <;> (omega)) ?_
              refine aj_ret (r := some (.inr (.inl (Int.tdiv ((wCf (pBy h t) k).1) (ax_and ((wCf (pBy h t) k).1) (-((wCf (pBy h t) k).1))))))) (ax_dec2 (i := .lreturn) (n := 1) ok_X10_byThen rfl) ⟨?_, ?_, by decide, by decide⟩ rfl
              · first | (exfalso; omega) | exact ⟨congrArg (fun (z9 : Int) => (some (.inr (.inl z9)) : Option ax_V)) (by unfold fBy; rw [if_pos (by omega)]; (first | rw [if_pos (by omega)] | rw [if_neg (by omega)]); rw [show wWy h = k by omega]; (first | rw [(hR.1 (by omega)).1] | rw [(hR.2 (by omega)).2]) <;> (rw [hwk])), g1, rfl, i3, i4⟩
              · exact trivial
            · refine aj_run (C := True) (pc' := 131) (la' := [some (.inr (.inr (some (1, 0)))), some (.inl t), some (.inl w), some (.inl ((wCf (pBy h t) k).1)), some (.inl (ax_and ((wCf (pBy h t) k).1) (-((wCf (pBy h t) k).1)))), some (.inl ((wCf (pBy h t) k).1))]) (st' := [.inr (.inl (-4611686018427387904))]) (M' := (P, g1, r0, n)) ok_X10_byThen true 2 rfl trivial ?_
              refine aj_ret (r := some (.inr (.inl (-4611686018427387904)))) (ax_dec2 (i := .lreturn) (n := 1) ok_X10_byThen rfl) ⟨?_, ?_, by decide, by decide⟩ rfl
              · first | (exfalso; omega) | exact ⟨congrArg (fun (z9 : Int) => (some (.inr (.inl z9)) : Option ax_V)) (by unfold fBy; rw [if_pos (by omega)]; (first | rw [if_pos (by omega)] | rw [if_neg (by omega)]); rw [show wWy h = k by omega]; (first | rw [(hR.1 (by omega)).1] | rw [(hR.2 (by omega)).2]) <;> (rw [hwk])), g1, rfl, i3, i4⟩
              · exact trivial
        · refine aj_run (C := True) (pc' := 82) (la' := [some (.inr (.inr (some (1, 0)))), some (.inl t), some (.inl w), some (.inl ((wCf (pBy h t) k).1)), some (.inl k), none]) (st' := [.inr (.inr (some (1, 0)))]) (M' := (P, g1, r0, n)) ok_X10_byThen true 1 rfl trivial ?_
          refine aj_getR (f := 1) (k := 0) (g := 2) (o := 0) (u := 0) (ax_lk_ok (q := (1, 0)) rfl) rfl rfl hs.2.2.2.1 hs.2.2.2.2 (ax_dec2 (i := .getfield 10) (n := 3) ok_X10_byThen rfl) ?_
          refine aj_callV (av := []) (st := []) (f := 2) (o := 0) (ci := 2) cal_X2_ways lk_10_207 ins_X2_ways rfl sel_X2_ways rfl (fun c9 h9 _ => by simpa [ax_ok] using h9) (cp_ways _ _ _ _) ⟨by decide, by decide, by decide, by decide⟩ (Nat.le_of_ble_eq_true rfl) (ax_dec2 (i := .invokevirtual 207) (n := 3) ok_X10_byThen rfl) (fun r M' hq => ?_)
          obtain ⟨rfl, rfl⟩ := hq
          change ax_J _ _ _ _ _ _ _ _ _ 88 [some (.inr (.inr (some (1, 0)))), some (.inl t), some (.inl w), some (.inl ((wCf (pBy h t) k).1)), some (.inl k), none] [.inl (ax_shl 1 (g1 2 0 1))] (P, g1, r0, n)
          refine aj_run (C := True) (pc' := 98) (la' := [some (.inr (.inr (some (1, 0)))), some (.inl t), some (.inl w), some (.inl ((wCf (pBy h t) k).1)), some (.inl (ax_shl 1 (g1 2 0 1))), none]) (st' := [.inl w]) (M' := (P, g1, r0, n)) ok_X10_byThen true 3 rfl trivial ?_
          refine aj_if_ne (tgt := 105) (ax_dec2 (i := .ifCond .ne 7) (n := 3) ok_X10_byThen rfl) (by decide) (fun c8 => ?_) (fun c8 => ?_)
          · refine aj_run (C := True) (pc' := 106) (la' := [some (.inr (.inr (some (1, 0)))), some (.inl t), some (.inl w), some (.inl ((wCf (pBy h t) k).1)), some (.inl (ax_shl 1 (g1 2 0 1))), none]) (st' := [.inr (.inr (some (1, 0)))]) (M' := (P, g1, r0, n)) ok_X10_byThen true 1 rfl trivial ?_
            refine aj_getR (f := 1) (k := 0) (g := 2) (o := 0) (u := 0) (ax_lk_ok (q := (1, 0)) rfl) rfl rfl hs.2.2.2.1 hs.2.2.2.2 (ax_dec2 (i := .getfield 10) (n := 3) ok_X10_byThen rfl) ?_
            refine aj_callV (av := []) (st := []) (f := 2) (o := 0) (ci := 2) cal_X2_ways lk_10_207 ins_X2_ways rfl sel_X2_ways rfl (fun c9 h9 _ => by simpa [ax_ok] using h9) (cp_ways _ _ _ _) ⟨by decide, by decide, by decide, by decide⟩ (Nat.le_of_ble_eq_true rfl) (ax_dec2 (i := .invokevirtual 207) (n := 3) ok_X10_byThen rfl) (fun r M' hq => ?_)
            obtain ⟨rfl, rfl⟩ := hq
            change ax_J _ _ _ _ _ _ _ _ _ 112 [some (.inr (.inr (some (1, 0)))), some (.inl t), some (.inl w), some (.inl ((wCf (pBy h t) k).1)), some (.inl (ax_shl 1 (g1 2 0 1))), none] [.inl (ax_shl 1 (g1 2 0 1))] (P, g1, r0, n)
            refine aj_run (C := True) (pc' := 114) (la' := [some (.inr (.inr (some (1, 0)))), some (.inl t), some (.inl w), some (.inl ((wCf (pBy h t) k).1)), some (.inl (ax_shl 1 (g1 2 0 1))), some (.inl (ax_shl 1 (g1 2 0 1)))]) (st' := []) (M' := (P, g1, r0, n)) ok_X10_byThen true 1 rfl trivial ?_
            have hcp : 0 < ax_shl 1 (g1 2 0 1) := by first | (have := (hR.1 (by omega)).2; omega) | exact (hR.2 (by omega)).1
            refine aj_run (C := True) (pc' := 116) (la' := [some (.inr (.inr (some (1, 0)))), some (.inl t), some (.inl w), some (.inl ((wCf (pBy h t) k).1)), some (.inl (ax_shl 1 (g1 2 0 1))), some (.inl (ax_shl 1 (g1 2 0 1)))]) (st' := [.inl (ax_shl 1 (g1 2 0 1))]) (M' := (P, g1, r0, n)) ok_X10_byThen true 1 rfl trivial ?_
            refine aj_if_ne (tgt := 125) (ax_dec2 (i := .ifCond .ne 9) (n := 3) ok_X10_byThen rfl) (by decide) (fun c9 => ?_) (fun c9 => ?_)
            · refine aj_run (C := (0 < ax_shl 1 (g1 2 0 1)) ∧ True) (pc' := 131) (la' := [some (.inr (.inr (some (1, 0)))), some (.inl t), some (.inl w), some (.inl ((wCf (pBy h t) k).1)), some (.inl (ax_shl 1 (g1 2 0 1))), some (.inl (ax_shl 1 (g1 2 0 1)))]) (st' := [.inr (.inl (Int.tdiv (ax_shl 1 (g1 2 0 1)) (ax_shl 1 (g1 2 0 1))))]) (M' := (P, g1, r0, n)) ok_X10_byThen true 4 rfl (by refine ⟨?_, trivial⟩ <;> (omega)) ?_
              refine aj_ret (r := some (.inr (.inl (Int.tdiv (ax_shl 1 (g1 2 0 1)) (ax_shl 1 (g1 2 0 1)))))) (ax_dec2 (i := .lreturn) (n := 1) ok_X10_byThen rfl) ⟨?_, ?_, by decide, by decide⟩ rfl
              · first | (exfalso; omega) | exact ⟨congrArg (fun (z9 : Int) => (some (.inr (.inl z9)) : Option ax_V)) (by unfold fBy; rw [if_pos (by omega)]; (first | rw [if_pos (by omega)] | rw [if_neg (by omega)]); rw [show wWy h = k by omega]; (first | rw [(hR.1 (by omega)).1] | rw [(hR.2 (by omega)).2]) <;> (rw [hwk])), g1, rfl, i3, i4⟩
              · exact trivial
            · refine aj_run (C := True) (pc' := 131) (la' := [some (.inr (.inr (some (1, 0)))), some (.inl t), some (.inl w), some (.inl ((wCf (pBy h t) k).1)), some (.inl (ax_shl 1 (g1 2 0 1))), some (.inl (ax_shl 1 (g1 2 0 1)))]) (st' := [.inr (.inl (-4611686018427387904))]) (M' := (P, g1, r0, n)) ok_X10_byThen true 2 rfl trivial ?_
              refine aj_ret (r := some (.inr (.inl (-4611686018427387904)))) (ax_dec2 (i := .lreturn) (n := 1) ok_X10_byThen rfl) ⟨?_, ?_, by decide, by decide⟩ rfl
              · first | (exfalso; omega) | exact ⟨congrArg (fun (z9 : Int) => (some (.inr (.inl z9)) : Option ax_V)) (by unfold fBy; rw [if_pos (by omega)]; (first | rw [if_pos (by omega)] | rw [if_neg (by omega)]); rw [show wWy h = k by omega]; (first | rw [(hR.1 (by omega)).1] | rw [(hR.2 (by omega)).2]) <;> (rw [hwk])), g1, rfl, i3, i4⟩
              · exact trivial
          · refine aj_run (C := True) (pc' := 114) (la' := [some (.inr (.inr (some (1, 0)))), some (.inl t), some (.inl w), some (.inl ((wCf (pBy h t) k).1)), some (.inl (ax_shl 1 (g1 2 0 1))), some (.inl ((wCf (pBy h t) k).1))]) (st' := []) (M' := (P, g1, r0, n)) ok_X10_byThen true 3 rfl trivial ?_
            have hcp : 0 < ax_shl 1 (g1 2 0 1) := by first | (have := (hR.1 (by omega)).2; omega) | exact (hR.2 (by omega)).1
            refine aj_run (C := True) (pc' := 116) (la' := [some (.inr (.inr (some (1, 0)))), some (.inl t), some (.inl w), some (.inl ((wCf (pBy h t) k).1)), some (.inl (ax_shl 1 (g1 2 0 1))), some (.inl ((wCf (pBy h t) k).1))]) (st' := [.inl (ax_shl 1 (g1 2 0 1))]) (M' := (P, g1, r0, n)) ok_X10_byThen true 1 rfl trivial ?_
            refine aj_if_ne (tgt := 125) (ax_dec2 (i := .ifCond .ne 9) (n := 3) ok_X10_byThen rfl) (by decide) (fun c10 => ?_) (fun c10 => ?_)
            · refine aj_run (C := (0 < ax_shl 1 (g1 2 0 1)) ∧ True) (pc' := 131) (la' := [some (.inr (.inr (some (1, 0)))), some (.inl t), some (.inl w), some (.inl ((wCf (pBy h t) k).1)), some (.inl (ax_shl 1 (g1 2 0 1))), some (.inl ((wCf (pBy h t) k).1))]) (st' := [.inr (.inl (Int.tdiv ((wCf (pBy h t) k).1) (ax_shl 1 (g1 2 0 1))))]) (M' := (P, g1, r0, n)) ok_X10_byThen true 4 rfl (by refine ⟨?_, trivial⟩ <;> (omega)) ?_
              refine aj_ret (r := some (.inr (.inl (Int.tdiv ((wCf (pBy h t) k).1) (ax_shl 1 (g1 2 0 1)))))) (ax_dec2 (i := .lreturn) (n := 1) ok_X10_byThen rfl) ⟨?_, ?_, by decide, by decide⟩ rfl
              · first | (exfalso; omega) | exact ⟨congrArg (fun (z9 : Int) => (some (.inr (.inl z9)) : Option ax_V)) (by unfold fBy; rw [if_pos (by omega)]; (first | rw [if_pos (by omega)] | rw [if_neg (by omega)]); rw [show wWy h = k by omega]; (first | rw [(hR.1 (by omega)).1] | rw [(hR.2 (by omega)).2]) <;> (rw [hwk])), g1, rfl, i3, i4⟩
              · exact trivial
            · refine aj_run (C := True) (pc' := 131) (la' := [some (.inr (.inr (some (1, 0)))), some (.inl t), some (.inl w), some (.inl ((wCf (pBy h t) k).1)), some (.inl (ax_shl 1 (g1 2 0 1))), some (.inl ((wCf (pBy h t) k).1))]) (st' := [.inr (.inl (-4611686018427387904))]) (M' := (P, g1, r0, n)) ok_X10_byThen true 2 rfl trivial ?_
              refine aj_ret (r := some (.inr (.inl (-4611686018427387904)))) (ax_dec2 (i := .lreturn) (n := 1) ok_X10_byThen rfl) ⟨?_, ?_, by decide, by decide⟩ rfl
              · first | (exfalso; omega) | exact ⟨congrArg (fun (z9 : Int) => (some (.inr (.inl z9)) : Option ax_V)) (by unfold fBy; rw [if_pos (by omega)]; (first | rw [if_pos (by omega)] | rw [if_neg (by omega)]); rw [show wWy h = k by omega]; (first | rw [(hR.1 (by omega)).1] | rw [(hR.2 (by omega)).2]) <;> (rw [hwk])), g1, rfl, i3, i4⟩
              · exact trivial
      · refine aj_run (C := True) (pc' := 36) (la' := [some (.inr (.inr (some (1, 0)))), some (.inl t), some (.inl w), some (.inl ((wCf (pBy h t) k).1)), some (.inl k), none]) (st' := [.inr (.inr (some (1, 0)))]) (M' := (P, g1, r0, n)) ok_X10_byThen true 1 rfl trivial ?_
        refine aj_getR (f := 1) (k := 0) (g := 2) (o := 0) (u := 0) (ax_lk_ok (q := (1, 0)) rfl) rfl rfl hs.2.2.2.1 hs.2.2.2.2 (ax_dec2 (i := .getfield 10) (n := 3) ok_X10_byThen rfl) ?_
        refine aj_run (C := True) (pc' := 41) (la' := [some (.inr (.inr (some (1, 0)))), some (.inl t), some (.inl w), some (.inl ((wCf (pBy h t) k).1)), some (.inl k), none]) (st' := [.inl k, .inr (.inr (some (2, 0)))]) (M' := (P, g1, r0, n)) ok_X10_byThen true 1 rfl trivial ?_
        refine aj_callV (av := [.inl k]) (st := []) (f := 2) (o := 0) (ci := 2) cal_X2_latestOf lk_10_182 ins_X2_latestOf rfl sel_X2_latestOf rfl (fun c9 h9 _ => by simpa [ax_ok] using h9) (cp_latestOf k _ _ _ _ h hsk i3 (by omega)) ⟨by decide, by decide, by decide, by decide⟩ (Nat.le_of_ble_eq_true rfl) (ax_dec2 (i := .invokevirtual 182) (n := 3) ok_X10_byThen rfl) (fun r M' hq => ?_)
        obtain ⟨rfl, g4, rfl, hd4, fr4⟩ := hq
        have fr9 := cFr_t fr4 i4
        have hpv := pBy_v (h := h) (t := t) (w := k) (by omega)
        have hs49 : g4 2 0 1 = g 2 0 1 := fr9 2 0 1 (by unfold TW TG; omega)
        change ax_J _ _ _ _ _ _ _ _ _ 44 [some (.inr (.inr (some (1, 0)))), some (.inl t), some (.inl w), some (.inl ((wCf (pBy h t) k).1)), some (.inl k), none] [.inl (gLt h k)] (P, g4, r0, n)
        refine aj_run (C := True) (pc' := 47) (la' := [some (.inr (.inr (some (1, 0)))), some (.inl t), some (.inl w), some (.inl ((wCf (pBy h t) k).1)), some (.inl k), some (.inl (gLt h k))]) (st' := [.inr (.inr (some (1, 0)))]) (M' := (P, g4, r0, n)) ok_X10_byThen true 2 rfl trivial ?_
        refine aj_getR (f := 1) (k := 0) (g := 2) (o := 0) (u := 0) (ax_lk_ok (q := (1, 0)) rfl) rfl rfl hs.2.2.2.1 hs.2.2.2.2 (ax_dec2 (i := .getfield 10) (n := 3) ok_X10_byThen rfl) ?_
        refine aj_run (C := True) (pc' := 53) (la' := [some (.inr (.inr (some (1, 0)))), some (.inl t), some (.inl w), some (.inl ((wCf (pBy h t) k).1)), some (.inl k), some (.inl (gLt h k))]) (st' := [.inl (g4 2 0 1)]) (M' := (P, g4, r0, n)) ok_X10_byThen true 1 rfl trivial ?_
        refine aj_if_eq (tgt := 68) (ax_dec2 (i := .ifCond .eq 15) (n := 3) ok_X10_byThen rfl) (by decide) (fun c11 => ?_) (fun c11 => ?_)
        · refine aj_run (C := (-2147483648 ≤ ((wCf (pBy h t) k).1) + 1 ∧ ((wCf (pBy h t) k).1) + 1 ≤ 2147483647) ∧ (-2147483648 ≤ k + 1 ∧ k + 1 ≤ 2147483647) ∧ True) (pc' := 23) (la' := [some (.inr (.inr (some (1, 0)))), some (.inl t), some (.inl w), some (.inl (((wCf (pBy h t) k).1) + 1)), some (.inl (k + 1)), some (.inl (gLt h k))]) (st' := []) (M' := (P, g4, r0, n)) ok_X10_byThen true 3 rfl (by refine ⟨?_, ?_, trivial⟩ <;> (omega)) ?_
          refine aj_cast (congrArg (fun (z9 : Int) => ([some (.inr (.inr (some (1, 0)))), some (.inl t), some (.inl w), some (.inl z9), some (.inl (k + 1)), some (.inl (gLt h k))] : List (Option ax_V))) (show (((wCf (pBy h t) k).1) + 1) = (wCf (pBy h t) (k + 1)).1 from by (rw [wCf_s i1]; first | rw [if_pos (hpv.mpr (by omega))] | rw [if_neg (fun z => by have := hpv.mp z; omega)]))) rfl rfl ?_
          refine aj_forget (la' := [some (.inr (.inr (some (1, 0)))), some (.inl t), some (.inl w), some (.inl ((wCf (pBy h t) (k + 1)).1)), some (.inl (k + 1)), none]) (by simp [ax_fg]) ?_
          refine ih23 (k + 1, g4) ?_ ?_
          · (try dsimp only); exact ⟨by omega, by omega, hd4, fr9⟩
          · omega
        · refine aj_run (C := True) (pc' := 59) (la' := [some (.inr (.inr (some (1, 0)))), some (.inl t), some (.inl w), some (.inl ((wCf (pBy h t) k).1)), some (.inl k), some (.inl (gLt h k))]) (st' := [.inl (-1), .inl (gLt h k)]) (M' := (P, g4, r0, n)) ok_X10_byThen true 2 rfl trivial ?_
          refine aj_icmp_eq (tgt := 71) (ax_dec2 (i := .if_icmp .eq 12) (n := 3) ok_X10_byThen rfl) (by decide) (fun c12 => ?_) (fun c12 => ?_)
          · refine aj_run (C := (-2147483648 ≤ k + 1 ∧ k + 1 ≤ 2147483647) ∧ True) (pc' := 23) (la' := [some (.inr (.inr (some (1, 0)))), some (.inl t), some (.inl w), some (.inl ((wCf (pBy h t) k).1)), some (.inl (k + 1)), some (.inl (gLt h k))]) (st' := []) (M' := (P, g4, r0, n)) ok_X10_byThen true 2 rfl (by refine ⟨?_, trivial⟩ <;> (omega)) ?_
            refine aj_cast (congrArg (fun (z9 : Int) => ([some (.inr (.inr (some (1, 0)))), some (.inl t), some (.inl w), some (.inl z9), some (.inl (k + 1)), some (.inl (gLt h k))] : List (Option ax_V))) (show ((wCf (pBy h t) k).1) = (wCf (pBy h t) (k + 1)).1 from by (rw [wCf_s i1]; first | rw [if_pos (hpv.mpr (by omega))] | rw [if_neg (fun z => by have := hpv.mp z; omega)]))) rfl rfl ?_
            refine aj_forget (la' := [some (.inr (.inr (some (1, 0)))), some (.inl t), some (.inl w), some (.inl ((wCf (pBy h t) (k + 1)).1)), some (.inl (k + 1)), none]) (by simp [ax_fg]) ?_
            refine ih23 (k + 1, g4) ?_ ?_
            · (try dsimp only); exact ⟨by omega, by omega, hd4, fr9⟩
            · omega
          · refine aj_run (C := True) (pc' := 65) (la' := [some (.inr (.inr (some (1, 0)))), some (.inl t), some (.inl w), some (.inl ((wCf (pBy h t) k).1)), some (.inl k), some (.inl (gLt h k))]) (st' := [.inl t, .inl (gLt h k)]) (M' := (P, g4, r0, n)) ok_X10_byThen true 2 rfl trivial ?_
            refine aj_icmp_gt (tgt := 71) (ax_dec2 (i := .if_icmp .gt 6) (n := 3) ok_X10_byThen rfl) (by decide) (fun c13 => ?_) (fun c13 => ?_)
            · refine aj_run (C := (-2147483648 ≤ k + 1 ∧ k + 1 ≤ 2147483647) ∧ True) (pc' := 23) (la' := [some (.inr (.inr (some (1, 0)))), some (.inl t), some (.inl w), some (.inl ((wCf (pBy h t) k).1)), some (.inl (k + 1)), some (.inl (gLt h k))]) (st' := []) (M' := (P, g4, r0, n)) ok_X10_byThen true 2 rfl (by refine ⟨?_, trivial⟩ <;> (omega)) ?_
              refine aj_cast (congrArg (fun (z9 : Int) => ([some (.inr (.inr (some (1, 0)))), some (.inl t), some (.inl w), some (.inl z9), some (.inl (k + 1)), some (.inl (gLt h k))] : List (Option ax_V))) (show ((wCf (pBy h t) k).1) = (wCf (pBy h t) (k + 1)).1 from by (rw [wCf_s i1]; first | rw [if_pos (hpv.mpr (by omega))] | rw [if_neg (fun z => by have := hpv.mp z; omega)]))) rfl rfl ?_
              refine aj_forget (la' := [some (.inr (.inr (some (1, 0)))), some (.inl t), some (.inl w), some (.inl ((wCf (pBy h t) (k + 1)).1)), some (.inl (k + 1)), none]) (by simp [ax_fg]) ?_
              refine ih23 (k + 1, g4) ?_ ?_
              · (try dsimp only); exact ⟨by omega, by omega, hd4, fr9⟩
              · omega
            · refine aj_run (C := (-2147483648 ≤ ((wCf (pBy h t) k).1) + 1 ∧ ((wCf (pBy h t) k).1) + 1 ≤ 2147483647) ∧ (-2147483648 ≤ k + 1 ∧ k + 1 ≤ 2147483647) ∧ True) (pc' := 23) (la' := [some (.inr (.inr (some (1, 0)))), some (.inl t), some (.inl w), some (.inl (((wCf (pBy h t) k).1) + 1)), some (.inl (k + 1)), some (.inl (gLt h k))]) (st' := []) (M' := (P, g4, r0, n)) ok_X10_byThen true 3 rfl (by refine ⟨?_, ?_, trivial⟩ <;> (omega)) ?_
              refine aj_cast (congrArg (fun (z9 : Int) => ([some (.inr (.inr (some (1, 0)))), some (.inl t), some (.inl w), some (.inl z9), some (.inl (k + 1)), some (.inl (gLt h k))] : List (Option ax_V))) (show (((wCf (pBy h t) k).1) + 1) = (wCf (pBy h t) (k + 1)).1 from by (rw [wCf_s i1]; first | rw [if_pos (hpv.mpr (by omega))] | rw [if_neg (fun z => by have := hpv.mp z; omega)]))) rfl rfl ?_
              refine aj_forget (la' := [some (.inr (.inr (some (1, 0)))), some (.inl t), some (.inl w), some (.inl ((wCf (pBy h t) (k + 1)).1)), some (.inl (k + 1)), none]) (by simp [ax_fg]) ?_
              refine ih23 (k + 1, g4) ?_ ?_
              · (try dsimp only); exact ⟨by omega, by omega, hd4, fr9⟩
              · omega
    · replace c2 := bI_e0 c2
      refine aj_run (C := True) (pc' := 17) (la' := [some (.inr (.inr (some (1, 0)))), some (.inl t), some (.inl w), none, none, none]) (st' := [.inr (.inl (-4611686018427387904))]) (M' := (P, g, r0, n)) ok_X10_byThen true 1 rfl trivial ?_
      refine aj_ret (r := some (.inr (.inl (-4611686018427387904)))) (ax_dec2 (i := .lreturn) (n := 1) ok_X10_byThen rfl) ⟨?_, ?_, by decide, by decide⟩ rfl
      · exact ⟨congrArg (fun (z9 : Int) => (some (.inr (.inl z9)) : Option ax_V)) (by unfold fBy; rw [if_neg (by omega)]), g, rfl, hd, fun _ _ _ _ => rfl⟩
      · exact trivial

theorem wIt_add {h : Nat → Int → Int → Int} {a : Nat} : ∀ b : Nat, wIt (wIt h a) b = wIt h (a + b)
  | 0 => rfl
  | b + 1 => by
    show wStep (wIt (wIt h a) b) = wStep (wIt h (a + b))
    rw [wIt_add b]
theorem rng_on {h : Nat → Int → Int → Int} (hs : wOs h) (hr : h 50 0 1 ≠ 0) {w a : Int} {k : Nat} (hk : 41 ≤ k ∧ k ≤ 1001) (h1 : 0 ≤ a) (h2 : a < h 50 0 2) : 0 ≤ wIt (wBegin h w) k 129 0 a := by
  obtain ⟨⟨o1, o2, o3, -, -⟩, ob⟩ := it_oa (beg_oa hs (ways := w)) beg_b k hk.2
  have e1 : wIt (wBegin h w) k 50 0 1 = h 50 0 1 := (wSs.tr (it_ss k) beg_ss).2 _ _ (by omega)
  have e106 : wIt (wBegin h w) k 106 0 a = h 106 0 a := by rw [(wSs.tr (it_ss k) beg_ss).1 106 (by decide) (by omega)]
  have hz : a < wIt (wBegin h w) k 50 0 2 := by rw [it_sz, beg_sz]; exact h2
  obtain ⟨x1, x2, x3, x4, x5⟩ := o3.2 a h1 hz
  have hd := (o2.2 a h1 hz).2.1
  have hst := (hs.2.2.2.2.2.2 a h1 h2).2.2.2.1
  have hr1 := hs.2.1
  have y5 := x5 (by rw [e1]; omega)
  rw [e106, ob] at x4
  by_cases c : wIt (wBegin h w) k 129 0 a = -1
  · have := x4 c y5
    omega
  · omega
theorem cSm_n {g g' hB : Nat → Int → Int → Int} {k : Int} (hf : ∀ f o j, ¬ (f = 5 ∧ 11 ≤ j) → g' f o j = g f o j) (hs : cSm g hB k) : cSm g' hB k := by
  obtain ⟨⟨s1, s2, s6⟩, s7, s8, s9⟩ := hs
  refine ⟨⟨fun a z1 z2 => ?_, ?_, fun p z1 z2 => ?_⟩, ?_, ?_, ?_⟩
  · have := s1 a z1 z2
    unfold cD1 at *
    rw [hf 5 a 2 (by omega), hf 5 a 3 (by omega), hf 5 a 4 (by omega), hf 5 a 5 (by omega), hf 5 a 6 (by omega), hf 5 a 7 (by omega), hf 5 a 8 (by omega), hf 5 a 9 (by omega), hf 5 a 10 (by omega)]
    exact this
  · rw [hf 2 0 5 (by omega), hf 2 0 6 (by omega), hf 2 0 8 (by omega), hf 2 0 13 (by omega)]
    exact s2
  · rw [hf 214 0 p (by omega), hf 215 0 p (by omega)]
    exact s6 p z1 z2
  · rw [hf 2 0 7 (by omega)]; exact s7
  · rw [hf 2 0 8 (by omega), hf 2 0 12 (by omega)]; exact s8
  · rw [hf 2 0 12 (by omega)]; exact s9
theorem cAs_gSm {X g3 h : Nat → Int → Int → Int} {q : Int} (hs : wOs h) (hr : h 50 0 1 ≠ 0) (h1 : 0 ≤ q) (h2 : q ≤ 200) (hS : cSm X (wBegin h (gAs h)) (41 + q)) (hS3 : cSm g3 (wBegin h (gAs h)) 41) (hn : ∀ a, 0 ≤ a → a < h 50 0 2 → X 5 a 11 = g3 5 a 3 ∧ X 5 a 12 = g3 5 a 4) : cAs X (h 50 0 2) = gSm h q := by
  have e40 : gT h 40 = wIt (wBegin h (gAs h)) 41 := rfl
  have eq : wIt (gT h 40) q.toNat = wIt (wBegin h (gAs h)) (41 + q).toNat := by
    rw [e40, wIt_add, show 41 + q.toNat = (41 + q).toNat by omega]
  unfold gSm cAs wSm
  rw [eq, e40]
  refine wFI_c fun a l z1 z2 => ?_
  have y1 := hS.1.1 a z1 (by rw [it_sz, beg_sz]; exact z2)
  have y2 := hS3.1.1 a z1 (by rw [it_sz, beg_sz]; exact z2)
  obtain ⟨-, p3, -, p4, -⟩ := y1
  obtain ⟨-, r3, -, r4, -⟩ := y2
  have w1 := p3 (rng_on hs hr ⟨by omega, by omega⟩ z1 z2)
  have w2 := r3 (rng_on hs hr ⟨by decide, by decide⟩ z1 z2)
  obtain ⟨n1, n2⟩ := hn a z1 z2
  rw [n1, n2, w1, w2, p4, r4]
  rfl
set_option maxRecDepth 100000 in
set_option maxHeartbeats 4000000 in
theorem cp_round (P : Nat → Int → Prop) (g : Nat → Int → Int → Int) (r0 : Nat → Int → Int → Option (Nat × Int)) (n : Nat → Int → Int) (h : Nat → Int → Int → Int) (hs : cSta P r0 n g h) (hd : cDy g h) : ax_S yX10_round cX10_round 2 (some FieldType.int) 13 0 0 [.inr (.inr (some (1, 0)))] (P, g, r0, n) (fun r M' => r = some (.inl (fRou h)) ∧ ∃ g', M' = (P, g', r0, n) ∧ cDy g' h ∧ cFr TW g' g) := by
  have hAs := hs.1.1
  have hPs := hs.1.2.1
  have hOs := hs.1.2.2
  have hP1 := hPs.1
  have hA1 := hAs.1
  have hsz := hOs.2.2.1
  have hm := hd.1
  have hca := hd.2
  have hxz := hPs.1.1
  refine ax_S_of (own := 10) (by decide) rfl (fun h => absurd h (by decide)) rfl (Nat.le_of_ble_eq_true rfl) ?_
  change ax_J _ _ _ _ _ _ _ _ _ _ [some (.inr (.inr (some (1, 0)))), none] _ _
  refine aj_run (C := True) (pc' := 1) (la' := [some (.inr (.inr (some (1, 0)))), none]) (st' := [.inr (.inr (some (1, 0)))]) (M' := (P, g, r0, n)) ok_X10_round true 1 rfl trivial ?_
  refine aj_getR (f := 1) (k := 0) (g := 2) (o := 0) (u := 0) (ax_lk_ok (q := (1, 0)) rfl) rfl rfl hs.2.2.2.1 hs.2.2.2.2 (ax_dec2 (i := .getfield 10) (n := 3) ok_X10_round rfl) ?_
  refine aj_run (C := True) (pc' := 7) (la' := [some (.inr (.inr (some (1, 0)))), none]) (st' := [.inl (g 2 0 3)]) (M' := (P, g, r0, n)) ok_X10_round true 1 rfl trivial ?_
  refine aj_if_ne (tgt := 13) (ax_dec2 (i := .ifCond .ne 6) (n := 3) ok_X10_round rfl) (by decide) (fun c1 => ?_) (fun c1 => ?_)
  · refine aj_run (C := True) (pc' := 16) (la' := [some (.inr (.inr (some (1, 0)))), none]) (st' := [.inl 40, .inr (.inr (some (1, 0)))]) (M' := (P, g, r0, n)) ok_X10_round true 2 rfl trivial ?_
    refine aj_callV (av := [.inl 40]) (st := []) (f := 1) (o := 0) (ci := 10) cal_X10_goTo lk_10_142 ins_X10_goTo rfl sel_X10_goTo rfl (fun c9 h9 _ => by simpa [ax_ok] using h9) (cp_goTo 40 _ _ _ _ h hs hm (by omega)) ⟨by decide, by decide, by decide, by decide⟩ (Nat.le_of_ble_eq_true rfl) (ax_dec2 (i := .invokevirtual 142) (n := 3) ok_X10_round rfl) (fun r M' hq => ?_)
    obtain ⟨rfl, g3, rfl, sm3, fr3⟩ := hq
    have hd3 : cDy g3 h := ⟨cSm_mz sm3, cCa_g fr3 hca⟩
    have tw3 := cFr_TG fr3
    have hD3 : ∀ a, 0 ≤ a → a < h 50 0 2 → cD1 g3 (gT h 40) a := fun a z1 z2 => sm3.1.1 a z1 (by rw [it_sz, beg_sz]; exact z2)
    have hs31 : g3 2 0 1 = g 2 0 1 := fr3 2 0 1 (by unfold TG; omega)
    change ax_J _ _ _ _ _ _ _ _ _ 19 [some (.inr (.inr (some (1, 0)))), none] [] (P, g3, r0, n)
    refine aj_run (C := True) (pc' := 21) (la' := [some (.inr (.inr (some (1, 0)))), some (.inl 0)]) (st' := []) (M' := (P, g3, r0, n)) ok_X10_round true 2 rfl trivial ?_
    refine aj_loop (σ := (Int) × (Nat → Int → Int → Int)) (fun xL => 0 ≤ xL.1 ∧ xL.1 ≤ g 2 0 1 ∧ (∀ f o j, ¬ (f = 5 ∧ 11 ≤ j) → xL.2 f o j = g3 f o j) ∧ ∀ a, 0 ≤ a → a < xL.1 → xL.2 5 a 11 = g3 5 a 3 ∧ xL.2 5 a 12 = g3 5 a 4) (fun xL => (g 2 0 1 - xL.1).toNat) (fun xL => [some (.inr (.inr (some (1, 0)))), some (.inl xL.1)]) (fun xL => []) (fun xL => (P, xL.2, r0, n)) ?_ (0, g3) ?_
    rotate_left
    · (try dsimp only); exact ⟨by omega, by omega, fun _ _ _ _ => rfl, fun a z1 z2 => by omega⟩
    rintro ⟨i, g1⟩ hI ih21
    try dsimp only at hI ih21
    obtain ⟨i1, i2, i3, i4⟩ := hI
    change ax_J _ _ _ _ _ _ _ _ _ 21 [some (.inr (.inr (some (1, 0)))), some (.inl i)] [] (P, g1, r0, n)
    have hs1 : g1 2 0 1 = g 2 0 1 := (i3 2 0 1 (by omega)).trans hs31
    refine aj_run (C := True) (pc' := 23) (la' := [some (.inr (.inr (some (1, 0)))), some (.inl i)]) (st' := [.inr (.inr (some (1, 0))), .inl i]) (M' := (P, g1, r0, n)) ok_X10_round true 2 rfl trivial ?_
    refine aj_getR (f := 1) (k := 0) (g := 2) (o := 0) (u := 0) (ax_lk_ok (q := (1, 0)) rfl) rfl rfl hs.2.2.2.1 hs.2.2.2.2 (ax_dec2 (i := .getfield 10) (n := 3) ok_X10_round rfl) ?_
    refine aj_run (C := True) (pc' := 29) (la' := [some (.inr (.inr (some (1, 0)))), some (.inl i)]) (st' := [.inl (g1 2 0 1), .inl i]) (M' := (P, g1, r0, n)) ok_X10_round true 1 rfl trivial ?_
    refine aj_icmp_ge (tgt := 50) (ax_dec2 (i := .if_icmp .ge 21) (n := 3) ok_X10_round rfl) (by decide) (fun c2 => ?_) (fun c2 => ?_)
    · have sm1 : cSm g1 (wBegin h (gAs h)) 41 := cSm_n i3 sm3
      have no1 : ∀ a, 0 ≤ a → a < h 50 0 2 → g1 5 a 11 = g3 5 a 3 ∧ g1 5 a 12 = g3 5 a 4 := fun a z1 z2 => i4 a z1 (by omega)
      have fr1 : cFr TG g1 g := fun f o j q => (i3 f o j (fun z => q (by unfold TG; omega))).trans (fr3 f o j q)
      have hs4 := cSta_w (cFr_TG fr1) hs
      have hru9 := hs4.2.2.1
      have hpl9 := hs4.1.2.1
      refine aj_run (C := True) (pc' := 52) (la' := [some (.inr (.inr (some (1, 0)))), some (.inl 1)]) (st' := []) (M' := (P, g1, r0, n)) ok_X10_round true 2 rfl trivial ?_
      refine aj_loop (σ := (Int) × (Nat → Int → Int → Int)) (fun xL => 1 ≤ xL.1 ∧ xL.1 ≤ 161 ∧ cSm xL.2 (wBegin h (gAs h)) (40 + xL.1) ∧ cFr (TGo (g 2 0 1)) xL.2 g1 ∧ wFs (gSm h) (xL.1 - 1) = -1) (fun xL => (161 - xL.1).toNat) (fun xL => [some (.inr (.inr (some (1, 0)))), some (.inl xL.1)]) (fun xL => []) (fun xL => (P, xL.2, r0, n)) ?_ (1, g1) ?_
      rotate_left
      · (try dsimp only); exact ⟨by omega, by omega, sm1, fun _ _ _ _ => rfl, rfl⟩
      rintro ⟨m, g2⟩ hI ih52
      try dsimp only at hI ih52
      obtain ⟨j1, j2, j3, j4, j5⟩ := hI
      change ax_J _ _ _ _ _ _ _ _ _ 52 [some (.inr (.inr (some (1, 0)))), some (.inl m)] [] (P, g2, r0, n)
      have hz2 : g2 2 0 1 = g 2 0 1 := (j4 2 0 1 (by unfold TGo; omega)).trans hs1
      refine aj_run (C := True) (pc' := 56) (la' := [some (.inr (.inr (some (1, 0)))), some (.inl m)]) (st' := [.inl 160, .inl m]) (M' := (P, g2, r0, n)) ok_X10_round true 2 rfl trivial ?_
      refine aj_icmp_gt (tgt := 88) (ax_dec2 (i := .if_icmp .gt 32) (n := 3) ok_X10_round rfl) (by decide) (fun c3 => ?_) (fun c3 => ?_)
      · refine aj_run (C := True) (pc' := 89) (la' := [some (.inr (.inr (some (1, 0)))), some (.inl m)]) (st' := [.inl (-1)]) (M' := (P, g2, r0, n)) ok_X10_round true 1 rfl trivial ?_
        refine aj_ret (r := some (.inl (-1))) (ax_dec2 (i := .ireturn) (n := 1) ok_X10_round rfl) ⟨?_, ?_, by decide, by decide⟩ rfl
        · (have fr7 : cFr TG g2 g := (fun f o j q => (j4 f o j (TGo_TG q)).trans (fr1 f o j q)); exact ⟨ax_si (by unfold fRou; rw [if_neg (by omega), show (160 : Int) = m - 1 by omega]; exact j5.symm), g2, rfl, ⟨cSm_mz j3, cCa_g fr7 hca⟩, cFr_TG fr7⟩)
        · exact ax_ro_i
      · refine aj_run (C := True) (pc' := 60) (la' := [some (.inr (.inr (some (1, 0)))), some (.inl m)]) (st' := [.inr (.inr (some (1, 0)))]) (M' := (P, g2, r0, n)) ok_X10_round true 1 rfl trivial ?_
        refine aj_getR (f := 1) (k := 0) (g := 2) (o := 0) (u := 0) (ax_lk_ok (q := (1, 0)) rfl) rfl rfl hs.2.2.2.1 hs.2.2.2.2 (ax_dec2 (i := .getfield 10) (n := 3) ok_X10_round rfl) ?_
        refine aj_run (C := (-2147483648 ≤ 40 + m ∧ 40 + m ≤ 2147483647) ∧ True) (pc' := 67) (la' := [some (.inr (.inr (some (1, 0)))), some (.inl m)]) (st' := [.inl (40 + m), .inr (.inr (some (2, 0)))]) (M' := (P, g2, r0, n)) ok_X10_round true 3 rfl (by refine ⟨?_, trivial⟩ <;> (omega)) ?_
        refine aj_callV (av := [.inl (40 + m)]) (st := []) (f := 2) (o := 0) (ci := 2) cal_X2_goOn lk_10_201 ins_X2_goOn rfl sel_X2_goOn rfl (fun c9 h9 _ => by simpa [ax_ok] using h9) (cp_goOn (40 + m) (40 + m) _ _ _ _ (by rw [hz2]; exact hAs) ⟨hs.2.1.1, hs.2.1.2.1⟩ hs.2.1.2.2.1 (wBegin h (gAs h)) (cPl_s beg_ss (cPl_g (fun j z1 z2 => j4 2 0 j (by unfold TGo; omega)) (fun a j => j4 500 a j (by unfold TGo; omega)) hpl9)) (beg_oa hOs) beg_b (by omega) (by omega) (by omega) j3 _ (cV h) ⟨hru9.1, cRu_c (fun f j z1 z2 => j4 f _ j (by unfold TGo; omega)) hru9.2⟩ cV_n (fun p nm => by rw [wVl_s beg_ss, beg_ss.2 0 11 (by omega)]; rfl)) ⟨by decide, by decide, by decide, by decide⟩ (Nat.le_of_ble_eq_true rfl) (ax_dec2 (i := .invokevirtual 201) (n := 3) ok_X10_round rfl) (fun r M' hq => ?_)
        obtain ⟨rfl, g5, rfl, sm5, fr5⟩ := hq
        rw [hz2] at fr5
        have fr6 := cFr_t fr5 j4
        have hz5 : g5 2 0 1 = g 2 0 1 := (fr5 2 0 1 (by unfold TGo; omega)).trans hz2
        have hA5 : cAn P r0 n (g5 2 0 1) := by rw [hz5]; exact hAs
        have hcs := cAs_gSm (X := g5) (g3 := g3) (h := h) (q := m) hOs (by omega) (by omega) (by omega) (by rw [show 41 + m = 40 + m + 1 by omega]; exact sm5) sm3 (fun a z1 z2 => by rw [fr6 5 a 11 (by unfold TGo; omega), fr6 5 a 12 (by unfold TGo; omega)]; exact no1 a z1 z2)
        rw [← hxz, ← hz5] at hcs
        have hws := wFs_s (p := gSm h) (k := m - 1) (by omega)
        rw [show m - 1 + 1 = m by omega] at hws
        change ax_J _ _ _ _ _ _ _ _ _ 70 [some (.inr (.inr (some (1, 0)))), some (.inl m)] [] (P, g5, r0, n)
        refine aj_run (C := True) (pc' := 71) (la' := [some (.inr (.inr (some (1, 0)))), some (.inl m)]) (st' := [.inr (.inr (some (1, 0)))]) (M' := (P, g5, r0, n)) ok_X10_round true 1 rfl trivial ?_
        refine aj_getR (f := 1) (k := 0) (g := 2) (o := 0) (u := 0) (ax_lk_ok (q := (1, 0)) rfl) rfl rfl hs.2.2.2.1 hs.2.2.2.2 (ax_dec2 (i := .getfield 10) (n := 3) ok_X10_round rfl) ?_
        refine aj_callV (av := []) (st := []) (f := 2) (o := 0) (ci := 2) cal_X2_isAsNoted lk_10_248 ins_X2_isAsNoted rfl sel_X2_isAsNoted rfl (fun c9 h9 _ => by simpa [ax_ok] using h9) (cp_isAsNoted _ _ _ _ hA5) ⟨by decide, by decide, by decide, by decide⟩ (Nat.le_of_ble_eq_true rfl) (ax_dec2 (i := .invokevirtual 248) (n := 3) ok_X10_round rfl) (fun r M' hq => ?_)
        obtain ⟨rfl, rfl⟩ := hq
        change ax_J _ _ _ _ _ _ _ _ _ 77 [some (.inr (.inr (some (1, 0)))), some (.inl m)] [.inl (cAs g5 (g5 2 0 1))] (P, g5, r0, n)
        refine aj_if_eq (tgt := 82) (ax_dec2 (i := .ifCond .eq 5) (n := 3) ok_X10_round rfl) (by decide) (fun c4 => ?_) (fun c4 => ?_)
        · refine aj_run (C := (-2147483648 ≤ m + 1 ∧ m + 1 ≤ 2147483647) ∧ True) (pc' := 52) (la' := [some (.inr (.inr (some (1, 0)))), some (.inl (m + 1))]) (st' := []) (M' := (P, g5, r0, n)) ok_X10_round true 2 rfl (by refine ⟨?_, trivial⟩ <;> (omega)) ?_
          refine ih52 (m + 1, g5) ?_ ?_
          · (try dsimp only); exact ⟨by omega, by omega, by rw [show 40 + (m + 1) = 40 + m + 1 by omega]; exact sm5, fr6, by rw [show m + 1 - 1 = m by omega, hws, if_neg (fun z => z.2 (by omega))]; exact j5⟩
          · omega
        · refine aj_run (C := True) (pc' := 81) (la' := [some (.inr (.inr (some (1, 0)))), some (.inl m)]) (st' := [.inl m]) (M' := (P, g5, r0, n)) ok_X10_round true 1 rfl trivial ?_
          refine aj_ret (r := some (.inl m)) (ax_dec2 (i := .ireturn) (n := 1) ok_X10_round rfl) ⟨?_, ?_, by decide, by decide⟩ rfl
          · (have w9 : wFs (gSm h) m = m := (by rw [hws, if_pos ⟨j5, by omega⟩]); have w8 := wFs_st (p := gSm h) (k := m) (by omega) (by omega) (160 - m).toNat; rw [show m + (((160 - m).toNat : Nat) : Int) = 160 by omega, w9] at w8; have fr7 : cFr TG g5 g := (fun f o j q => (fr6 f o j (TGo_TG q)).trans (fr1 f o j q)); exact ⟨ax_si (by unfold fRou; rw [if_neg (by omega), w8]), g5, rfl, ⟨cSm_mz sm5, cCa_g fr7 hca⟩, cFr_TG fr7⟩)
          · exact ax_ro_i
    · refine aj_run (C := True) (pc' := 33) (la' := [some (.inr (.inr (some (1, 0)))), some (.inl i)]) (st' := [.inr (.inr (some (1, 0)))]) (M' := (P, g1, r0, n)) ok_X10_round true 1 rfl trivial ?_
      refine aj_getR (f := 1) (k := 0) (g := 2) (o := 0) (u := 0) (ax_lk_ok (q := (1, 0)) rfl) rfl rfl hs.2.2.2.1 hs.2.2.2.2 (ax_dec2 (i := .getfield 10) (n := 3) ok_X10_round rfl) ?_
      refine aj_run (C := True) (pc' := 40) (la' := [some (.inr (.inr (some (1, 0)))), some (.inl i)]) (st' := [.inl i, .inr (.inr (some (200, 0)))]) (M' := (P, g1, r0, n)) ok_X10_round true 2 rfl trivial ?_
      refine aj_aald (f := 200) (g := 5) (o := 0) (i := i) (u := i) (E := "AntsTurn$Ant") rfl rfl rfl ⟨by omega, by have z9 := hAs.1.1; show i < n 200 0; omega⟩ (hAs.2 i (by omega) (by omega)).1.1 (hAs.2 i (by omega) (by omega)).1.2 (ax_dec2 (i := .aaload) (n := 1) ok_X10_round rfl) ?_
      refine aj_d_note lk_10_245 (hAs.2 i (by omega) (by omega)).2.2 ⟨by decide, by decide, by decide, by decide⟩ (Nat.le_of_ble_eq_true rfl) (ax_dec2 (i := .invokevirtual 245) (n := 3) ok_X10_round rfl) ?_
      change ax_J _ _ _ _ _ _ _ _ _ 44 [some (.inr (.inr (some (1, 0)))), some (.inl i)] [] (P, ax_u3 (ax_u3 g1 5 i 11 (g1 5 i 3)) 5 i 12 (g1 5 i 4), r0, n)
      refine aj_run (C := (-2147483648 ≤ i + 1 ∧ i + 1 ≤ 2147483647) ∧ True) (pc' := 21) (la' := [some (.inr (.inr (some (1, 0)))), some (.inl (i + 1))]) (st' := []) (M' := (P, ax_u3 (ax_u3 g1 5 i 11 (g1 5 i 3)) 5 i 12 (g1 5 i 4), r0, n)) ok_X10_round true 2 rfl (by refine ⟨?_, trivial⟩ <;> (omega)) ?_
      refine ih21 (i + 1, ax_u3 (ax_u3 g1 5 i 11 (g1 5 i 3)) 5 i 12 (g1 5 i 4)) ?_ ?_
      · (try dsimp only); exact ⟨by omega, by omega, fun f o j q => by rw [ax_u3_n (by omega), ax_u3_n (by omega)]; exact i3 f o j q, fun a z1 z2 => (by
        by_cases e : a = i
        · rw [e, ax_u3_n (by omega), ax_u3_s, ax_u3_s]; exact ⟨i3 5 i 3 (by omega), i3 5 i 4 (by omega)⟩
        · rw [ax_u3_n (by omega), ax_u3_n (by omega), ax_u3_n (by omega), ax_u3_n (by omega)]; exact i4 a z1 (by omega))⟩
      · omega
  · refine aj_run (C := True) (pc' := 12) (la' := [some (.inr (.inr (some (1, 0)))), none]) (st' := [.inl (-3)]) (M' := (P, g, r0, n)) ok_X10_round true 1 rfl trivial ?_
    refine aj_ret (r := some (.inl (-3))) (ax_dec2 (i := .ireturn) (n := 1) ok_X10_round rfl) ⟨?_, ?_, by decide, by decide⟩ rfl
    · first | (exfalso; omega) | exact ⟨ax_si (by unfold fRou; (repeat first | rw [if_pos (by omega)] | rw [if_neg (by omega)] | rw [bI_t (by omega)] | rw [bI_f (by omega)]); try first | rfl | omega), g, rfl, hd, fun _ _ _ _ => rfl⟩
    · exact ax_ro_i

