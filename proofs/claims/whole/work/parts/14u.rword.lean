/-! ===== tokens of the reference ===== -/
def cwR (w : Int) : Int := if w < 6 then w + 6 else w - 6
def mLtr (h : Nat → Int → Int → Int) : Prop := (∀ w, 0 ≤ w → w ≤ 12 → 0 ≤ h 119 0 w ∧ h 119 0 w ≤ 50) ∧ ∀ w, 0 ≤ w → w < 12 → h 119 0 (w + 1) - h 119 0 w = kL (cwR w + 1) ∧ ∀ i, 0 ≤ i → i < kL (cwR w + 1) → h 118 0 (h 119 0 w + i) = kB (cwR w + 1) i
def TN : Nat → Int → Int → Prop := fun f o j => f = 50 ∧ o = 0 ∧ 14 ≤ j ∧ j ≤ 17
def yTk (tok wrt T V : Int) : Prop := (T = 0 → tok = 5) ∧ (T = 1 → tok = 6) ∧ (T = 2 → tok = 1 ∧ wrt = V) ∧ (T = 3 → tok = 2 ∧ wrt = V) ∧ (5 ≤ T → T ≤ 10 → tok = 3 ∧ wrt = T - 5) ∧ (40 ≤ T → tok = 4 ∧ wrt = T)
theorem kL_12 {w : Int} : 0 ≤ kL w ∧ kL w < 1000 := by
  unfold kL
  have h : ∀ k : Nat, ax_klen.getD k 0 < 1000 := fun k => by
    by_cases c : k < 13
    · have : ∀ k : Nat, k < 13 → ax_klen.getD k 0 < 1000 := by decide
      exact this k c
    · have hl : ax_klen.length ≤ k := by show 13 ≤ k; omega
      rw [List.getD_eq_getElem?_getD, List.getElem?_eq_none hl]
      decide
  have := h w.toNat
  omega
set_option maxRecDepth 100000 in
set_option maxHeartbeats 4000000 in
theorem sp_readWord (k : Int) (P : Nat → Int → Prop) (g : Nat → Int → Int → Int) (r0 : Nat → Int → Int → Option (Nat × Int)) (n : Nat → Int → Int) (hn : mLen n) (ht : 0 ≤ g 50 0 9 ∧ g 50 0 9 ≤ 160) (hl : mLtr g) (hk : g 50 0 14 = k ∧ g 50 0 17 = k ∧ 0 ≤ k ∧ k < g 50 0 9) (hb : bLet (g 108 0) (g 50 0 9) k = true) : ax_S yX11_readWord cX11_readWord 5 none 1 0 0 [.inr (.inr (some (50, 0)))] (P, g, r0, n) (fun r M' => r = none ∧ ∃ g', M' = (P, g', r0, n) ∧ cFr TN g' g ∧ g' 50 0 14 = tkE (g 108 0) (g 50 0 9) k ∧ g' 50 0 17 = k ∧ yTk (g' 50 0 15) (g' 50 0 16) (tkT (g 108 0) (g 50 0 9) k) (tkV (g 108 0) (g 50 0 9) k)) := by
  have n119 : n 119 0 = 13 := hn (119, 13) (by decide)
  have n108 : n 108 0 = 160 := hn (108, 160) (by decide)
  have n118 : n 118 0 = 50 := hn (118, 50) (by decide)
  have hE := tkE_in (B := (g 108 0)) (m := (g 50 0 9)) (k := k) (by omega)
  have hWi := tkW_in (B := (g 108 0)) (f := k) (t := (tkE (g 108 0) (g 50 0 9) k))
  refine ax_S_of (own := 11) (by decide) rfl (fun h => absurd h (by decide)) rfl (Nat.le_of_ble_eq_true rfl) ?_
  change ax_J _ _ _ _ _ _ _ _ _ _ [some (.inr (.inr (some (50, 0)))), none, none, none, none] _ _
  refine aj_loop (σ := (Nat → Int → Int → Int)) (fun xL => (∀ f o j, ¬ (f = 50 ∧ o = 0 ∧ j = 14) → xL f o j = g f o j) ∧ (k ≤ xL 50 0 14 ∧ xL 50 0 14 ≤ g 50 0 9) ∧ lx (bLet (g 108 0) (g 50 0 9)) (g 50 0 9) k = lx (bLet (g 108 0) (g 50 0 9)) (g 50 0 9) (xL 50 0 14)) (fun xL => (g 50 0 9 - xL 50 0 14).toNat) (fun xL => [some (.inr (.inr (some (50, 0)))), none, none, none, none]) (fun xL => []) (fun xL => (P, xL, r0, n)) ?_ (g) ?_
  rotate_left
  · (try dsimp only); exact ⟨fun _ _ _ _ => rfl, by omega, by rw [hk.1]⟩
  rintro g1 hI ih0
  try dsimp only at hI ih0
  obtain ⟨a1, a2, a3⟩ := hI
  change ax_J _ _ _ _ _ _ _ _ _ 0 [some (.inr (.inr (some (50, 0)))), none, none, none, none] [] (P, g1, r0, n)
  have b9 : g1 50 0 9 = g 50 0 9 := a1 50 0 9 (by omega)
  have b8 : g1 108 0 (g1 50 0 14) = g 108 0 (g1 50 0 14) := a1 108 0 _ (by omega)
  refine aj_run (C := True) (pc' := 5) (la' := [some (.inr (.inr (some (50, 0)))), none, none, none, none]) (st' := [.inl (g1 50 0 14), .inr (.inr (some (50, 0)))]) (M' := (P, g1, r0, n)) ok_X11_readWord true 3 rfl trivial ?_
  refine aj_callV (av := [.inl (g1 50 0 14)]) (st := []) (f := 50) (o := 0) (ci := 11) cal_X11_isLetter lk_11_54 ins_X11_isLetter rfl sel_X11_isLetter rfl (fun c9 h9 _ => by simpa [ax_ok] using h9) (sp_isLetter (g1 50 0 14) _ _ _ _ hn (by omega) (by omega)) ⟨by decide, by decide, by decide, by decide⟩ (Nat.le_of_ble_eq_true rfl) (ax_dec2 (i := .invokevirtual 54) (n := 3) ok_X11_readWord rfl) (fun r M' hq => ?_)
  obtain ⟨rfl, rfl⟩ := hq
  change ax_J _ _ _ _ _ _ _ _ _ 8 [some (.inr (.inr (some (50, 0)))), none, none, none, none] [.inl (bI ((g1 50 0 14) < g1 50 0 9 ∧ 97 ≤ g1 108 0 (g1 50 0 14) ∧ g1 108 0 (g1 50 0 14) ≤ 122))] (P, g1, r0, n)
  refine aj_if_eq (tgt := 24) (ax_dec2 (i := .ifCond .eq 16) (n := 3) ok_X11_readWord rfl) (by decide) (fun c1 => ?_) (fun c1 => ?_)
  · replace c1 := bI_e0 c1
    have hat : g1 50 0 14 = (tkE (g 108 0) (g 50 0 9) k) := by unfold tkE; rw [if_pos hb, a3, lx_n (decide_eq_false (by omega))]
    have hpl : g1 50 0 17 = k := (a1 50 0 17 (by omega)).trans hk.2.1
    obtain ⟨hl1, hl2⟩ := hl
    refine aj_run (C := True) (pc' := 32) (la' := [some (.inr (.inr (some (50, 0)))), some (.inl 0), none, none, none]) (st' := []) (M' := (P, ax_u3 g1 50 0 15 6, r0, n)) ok_X11_readWord true 5 rfl trivial ?_
    refine aj_forget (la' := [some (.inr (.inr (some (50, 0)))), some (.inl 0), none, none, none]) (by simp [ax_fg]) ?_
    refine aj_loop (σ := (Int) × (Nat → Int → Int → Int)) (fun xL => 0 ≤ xL.1 ∧ xL.1 ≤ 12 ∧ (∀ f o j, ¬ (f = 50 ∧ o = 0 ∧ (j = 15 ∨ j = 16)) → xL.2 f o j = g1 f o j) ∧ (((tkW (g 108 0) k (tkE (g 108 0) (g 50 0 9) k)) < 12 ∧ (((tkW (g 108 0) k (tkE (g 108 0) (g 50 0 9) k)) < 6 ∧ (tkW (g 108 0) k (tkE (g 108 0) (g 50 0 9) k)) + 6 < xL.1) ∨ (6 ≤ (tkW (g 108 0) k (tkE (g 108 0) (g 50 0 9) k)) ∧ (tkW (g 108 0) k (tkE (g 108 0) (g 50 0 9) k)) - 6 < xL.1))) → ((tkW (g 108 0) k (tkE (g 108 0) (g 50 0 9) k)) < 6 → xL.2 50 0 15 = 3 ∧ xL.2 50 0 16 = (tkW (g 108 0) k (tkE (g 108 0) (g 50 0 9) k))) ∧ (6 ≤ (tkW (g 108 0) k (tkE (g 108 0) (g 50 0 9) k)) → xL.2 50 0 15 = 2 ∧ xL.2 50 0 16 = (tkW (g 108 0) k (tkE (g 108 0) (g 50 0 9) k)) - 6)) ∧ (¬ ((tkW (g 108 0) k (tkE (g 108 0) (g 50 0 9) k)) < 12 ∧ (((tkW (g 108 0) k (tkE (g 108 0) (g 50 0 9) k)) < 6 ∧ (tkW (g 108 0) k (tkE (g 108 0) (g 50 0 9) k)) + 6 < xL.1) ∨ (6 ≤ (tkW (g 108 0) k (tkE (g 108 0) (g 50 0 9) k)) ∧ (tkW (g 108 0) k (tkE (g 108 0) (g 50 0 9) k)) - 6 < xL.1))) → xL.2 50 0 15 = 6)) (fun xL => (12 - xL.1).toNat) (fun xL => [some (.inr (.inr (some (50, 0)))), some (.inl xL.1), none, none, none]) (fun xL => []) (fun xL => (P, xL.2, r0, n)) ?_ (0, ax_u3 g1 50 0 15 6) ?_
    rotate_left
    · (try dsimp only); exact ⟨by omega, by omega, fun f o j z => ax_u3_n (by omega), fun z => by omega, fun _ => rfl⟩
    rintro ⟨w, g2⟩ hI ih32
    try dsimp only at hI ih32
    obtain ⟨i1, i2, i3, i4, i5⟩ := hI
    change ax_J _ _ _ _ _ _ _ _ _ 32 [some (.inr (.inr (some (50, 0)))), some (.inl w), none, none, none] [] (P, g2, r0, n)
    have hcw1 : w < 6 → cwR w = w + 6 := fun z => if_pos z
    have hcw2 : ¬ w < 6 → cwR w = w - 6 := fun z => if_neg z
    have d14 : g2 50 0 14 = (tkE (g 108 0) (g 50 0 9) k) := (i3 50 0 14 (by omega)).trans hat
    have d17 : g2 50 0 17 = k := (i3 50 0 17 (by omega)).trans hpl
    have d119 : ∀ j, g2 119 0 j = g 119 0 j := fun j => (i3 119 0 j (by omega)).trans (a1 119 0 j (by omega))
    have d118 : ∀ j, g2 118 0 j = g 118 0 j := fun j => (i3 118 0 j (by omega)).trans (a1 118 0 j (by omega))
    have d108 : ∀ j, g2 108 0 j = g 108 0 j := fun j => (i3 108 0 j (by omega)).trans (a1 108 0 j (by omega))
    have dw := d119 w
    have dw1 := d119 (w + 1)
    refine aj_run (C := True) (pc' := 35) (la' := [some (.inr (.inr (some (50, 0)))), some (.inl w), none, none, none]) (st' := [.inl 12, .inl w]) (M' := (P, g2, r0, n)) ok_X11_readWord true 2 rfl trivial ?_
    refine aj_icmp_ge (tgt := 170) (ax_dec2 (i := .if_icmp .ge 135) (n := 3) ok_X11_readWord rfl) (by decide) (fun c2 => ?_) (fun c2 => ?_)
    · refine aj_ret (r := none) (ax_dec2 (i := .return_) (n := 1) ok_X11_readWord rfl) ⟨?_, ?_, by decide, by decide⟩ rfl
      · (have hT : tkT (g 108 0) (g 50 0 9) k = if (tkW (g 108 0) k (tkE (g 108 0) (g 50 0 9) k)) < 6 then 5 + (tkW (g 108 0) k (tkE (g 108 0) (g 50 0 9) k)) else if (tkW (g 108 0) k (tkE (g 108 0) (g 50 0 9) k)) < 12 then 3 else 1 := (by unfold tkT; rw [if_pos hb]); have hV : tkV (g 108 0) (g 50 0 9) k = (tkW (g 108 0) k (tkE (g 108 0) (g 50 0 9) k)) - 6 := (by unfold tkV; rw [if_pos hb]); exact ⟨rfl, g2, rfl, fun f o j z => (i3 f o j (fun y => z (by unfold TN; omega))).trans (a1 f o j (fun y => z (by unfold TN; omega))), d14, d17, by rw [hT, hV]; unfold yTk; (by_cases c6 : (tkW (g 108 0) k (tkE (g 108 0) (g 50 0 9) k)) < 6; (rw [if_pos c6]; have := i4 (by omega); exact ⟨by omega, by omega, by omega, by omega, by omega, by omega⟩); (rw [if_neg c6]; by_cases c12 : (tkW (g 108 0) k (tkE (g 108 0) (g 50 0 9) k)) < 12; (rw [if_pos c12]; have := i4 (by omega); exact ⟨by omega, by omega, by omega, by omega, by omega, by omega⟩); (rw [if_neg c12]; have := i5 (by omega); exact ⟨by omega, by omega, by omega, by omega, by omega, by omega⟩)))⟩)
      · exact trivial
    · obtain ⟨hl3, hl4⟩ := hl2 w i1 (by omega)
      have hb0 := hl1 w i1 (by omega)
      have hb1 := hl1 (w + 1) (by omega) (by omega)
      have hkl := kL_12 (w := cwR w + 1)
      refine aj_run (C := (-2147483648 ≤ w + 1 ∧ w + 1 ≤ 2147483647) ∧ (0 ≤ w + 1 ∧ w + 1 < n 119 0) ∧ (0 ≤ w ∧ w < n 119 0) ∧ (-2147483648 ≤ (g2 119 0 (w + 1)) - (g2 119 0 w) ∧ (g2 119 0 (w + 1)) - (g2 119 0 w) ≤ 2147483647) ∧ (-2147483648 ≤ (g2 50 0 14) - (g2 50 0 17) ∧ (g2 50 0 14) - (g2 50 0 17) ≤ 2147483647) ∧ True) (pc' := 64) (la' := [some (.inr (.inr (some (50, 0)))), some (.inl w), some (.inl ((g2 119 0 (w + 1)) - (g2 119 0 w))), none, none]) (st' := [.inl ((g2 50 0 14) - (g2 50 0 17)), .inl ((g2 119 0 (w + 1)) - (g2 119 0 w))]) (M' := (P, g2, r0, n)) ok_X11_readWord true 18 rfl (by refine ⟨?_, ?_, ?_, ?_, ?_, trivial⟩ <;> (omega)) ?_
      refine aj_icmp_ne (tgt := 71) (ax_dec2 (i := .if_icmp .ne 7) (n := 3) ok_X11_readWord rfl) (by decide) (fun c3 => ?_) (fun c3 => ?_)
      · refine aj_run (C := True) (pc' := 76) (la' := [some (.inr (.inr (some (50, 0)))), some (.inl w), some (.inl ((g2 119 0 (w + 1)) - (g2 119 0 w))), some (.inl 0), some (.inl 0)]) (st' := []) (M' := (P, g2, r0, n)) ok_X11_readWord true 4 rfl trivial ?_
        refine aj_loop (σ := (Int) × (Int)) (fun xL => 0 ≤ xL.1 ∧ xL.1 ≤ kL (cwR w + 1) ∧ (xL.2 = 0 ∨ xL.2 = 1) ∧ (xL.2 = 1 → kL (cwR w + 1) = (tkE (g 108 0) (g 50 0 9) k) - k ∧ ∀ i, 0 ≤ i → i < xL.1 → g 108 0 (k + i) = kB (cwR w + 1) i) ∧ (xL.2 = 0 → wMb (g 108 0) k (tkE (g 108 0) (g 50 0 9) k) (cwR w) = false)) (fun xL => (kL (cwR w + 1) - xL.1).toNat) (fun xL => [some (.inr (.inr (some (50, 0)))), some (.inl w), some (.inl ((g2 119 0 (w + 1)) - (g2 119 0 w))), some (.inl xL.2), some (.inl xL.1)]) (fun xL => []) (fun xL => (P, g2, r0, n)) ?_ (0, 0) ?_
        rotate_left
        · (try dsimp only); exact ⟨by omega, by omega, by omega, fun z => by omega, fun _ => (by by_cases c9 : wMb (g 108 0) k (tkE (g 108 0) (g 50 0 9) k) (cwR w) = true; (have := (wMb_i.mp c9).1; omega); simpa using c9)⟩
        rintro ⟨q, sm⟩ hI ih76
        try dsimp only at hI ih76
        obtain ⟨j1, j2, j3, j4, j5⟩ := hI
        change ax_J _ _ _ _ _ _ _ _ _ 76 [some (.inr (.inr (some (50, 0)))), some (.inl w), some (.inl ((g2 119 0 (w + 1)) - (g2 119 0 w))), some (.inl sm), some (.inl q)] [] (P, g2, r0, n)
        refine aj_run (C := True) (pc' := 79) (la' := [some (.inr (.inr (some (50, 0)))), some (.inl w), some (.inl ((g2 119 0 (w + 1)) - (g2 119 0 w))), some (.inl sm), some (.inl q)]) (st' := [.inl ((g2 119 0 (w + 1)) - (g2 119 0 w)), .inl q]) (M' := (P, g2, r0, n)) ok_X11_readWord true 2 rfl trivial ?_
        refine aj_icmp_ge (tgt := 127) (ax_dec2 (i := .if_icmp .ge 48) (n := 3) ok_X11_readWord rfl) (by decide) (fun c4 => ?_) (fun c4 => ?_)
        · refine aj_run (C := True) (pc' := 128) (la' := [some (.inr (.inr (some (50, 0)))), some (.inl w), some (.inl ((g2 119 0 (w + 1)) - (g2 119 0 w))), some (.inl sm), some (.inl q)]) (st' := [.inl sm]) (M' := (P, g2, r0, n)) ok_X11_readWord true 1 rfl trivial ?_
          refine aj_if_eq (tgt := 164) (ax_dec2 (i := .ifCond .eq 36) (n := 3) ok_X11_readWord rfl) (by decide) (fun c5 => ?_) (fun c5 => ?_)
          · have hW : (tkW (g 108 0) k (tkE (g 108 0) (g 50 0 9) k)) ≠ cwR w := tkW_n (by omega) (j5 (by omega))
            refine aj_run (C := (-2147483648 ≤ w + 1 ∧ w + 1 ≤ 2147483647) ∧ True) (pc' := 32) (la' := [some (.inr (.inr (some (50, 0)))), some (.inl (w + 1)), some (.inl ((g2 119 0 (w + 1)) - (g2 119 0 w))), some (.inl sm), some (.inl q)]) (st' := []) (M' := (P, g2, r0, n)) ok_X11_readWord true 2 rfl (by refine ⟨?_, trivial⟩ <;> (omega)) ?_
            refine aj_forget (la' := [some (.inr (.inr (some (50, 0)))), some (.inl (w + 1)), none, none, none]) (by simp [ax_fg]) ?_
            refine ih32 (w + 1, g2) ?_ ?_
            · (try dsimp only); exact ⟨by omega, by omega, i3, fun z => i4 (by omega), fun z => i5 (by omega)⟩
            · omega
          · have hW : (tkW (g 108 0) k (tkE (g 108 0) (g 50 0 9) k)) = cwR w := tkW_y (by omega) (wMb_i.mpr ⟨(j4 (by omega)).1.symm, fun i z1 z2 => (j4 (by omega)).2 i z1 (by omega)⟩)
            refine aj_run (C := True) (pc' := 135) (la' := [some (.inr (.inr (some (50, 0)))), some (.inl w), some (.inl ((g2 119 0 (w + 1)) - (g2 119 0 w))), some (.inl sm), some (.inl q)]) (st' := [.inl 6, .inl w, .inr (.inr (some (50, 0)))]) (M' := (P, g2, r0, n)) ok_X11_readWord true 3 rfl trivial ?_
            refine aj_icmp_ge (tgt := 142) (ax_dec2 (i := .if_icmp .ge 7) (n := 3) ok_X11_readWord rfl) (by decide) (fun c6 => ?_) (fun c6 => ?_)
            · refine aj_run (C := True) (pc' := 150) (la' := [some (.inr (.inr (some (50, 0)))), some (.inl w), some (.inl ((g2 119 0 (w + 1)) - (g2 119 0 w))), some (.inl sm), some (.inl q)]) (st' := [.inl 6, .inl w, .inr (.inr (some (50, 0)))]) (M' := (P, ax_u3 g2 50 0 15 3, r0, n)) ok_X11_readWord true 5 rfl trivial ?_
              refine aj_icmp_ge (tgt := 157) (ax_dec2 (i := .if_icmp .ge 7) (n := 3) ok_X11_readWord rfl) (by decide) (fun c7 => ?_) (fun c7 => ?_)
              · refine aj_run (C := (-2147483648 ≤ w - 6 ∧ w - 6 ≤ 2147483647) ∧ True) (pc' := 164) (la' := [some (.inr (.inr (some (50, 0)))), some (.inl w), some (.inl ((g2 119 0 (w + 1)) - (g2 119 0 w))), some (.inl sm), some (.inl q)]) (st' := []) (M' := (P, ax_u3 (ax_u3 g2 50 0 15 3) 50 0 16 (w - 6), r0, n)) ok_X11_readWord true 4 rfl (by refine ⟨?_, trivial⟩ <;> (omega)) ?_
                refine aj_run (C := (-2147483648 ≤ w + 1 ∧ w + 1 ≤ 2147483647) ∧ True) (pc' := 32) (la' := [some (.inr (.inr (some (50, 0)))), some (.inl (w + 1)), some (.inl ((g2 119 0 (w + 1)) - (g2 119 0 w))), some (.inl sm), some (.inl q)]) (st' := []) (M' := (P, ax_u3 (ax_u3 g2 50 0 15 3) 50 0 16 (w - 6), r0, n)) ok_X11_readWord true 2 rfl (by refine ⟨?_, trivial⟩ <;> (omega)) ?_
                refine aj_forget (la' := [some (.inr (.inr (some (50, 0)))), some (.inl (w + 1)), none, none, none]) (by simp [ax_fg]) ?_
                refine ih32 (w + 1, ax_u3 (ax_u3 g2 50 0 15 3) 50 0 16 (w - 6)) ?_ ?_
                · (try dsimp only); (have e15 : (ax_u3 (ax_u3 g2 50 0 15 3) 50 0 16 (w - 6)) 50 0 15 = 3 := rfl; have e16 : (ax_u3 (ax_u3 g2 50 0 15 3) 50 0 16 (w - 6)) 50 0 16 = (w - 6) := rfl; exact ⟨by omega, by omega, fun f o j z => by rw [ax_u3_n (by omega), ax_u3_n (by omega)]; exact i3 f o j z, fun z => ⟨fun y => by rw [e15, e16]; omega, fun y => by rw [e15, e16]; omega⟩, fun z => by omega⟩)
                · omega
              · exact absurd c7 (by omega)
            · refine aj_run (C := True) (pc' := 150) (la' := [some (.inr (.inr (some (50, 0)))), some (.inl w), some (.inl ((g2 119 0 (w + 1)) - (g2 119 0 w))), some (.inl sm), some (.inl q)]) (st' := [.inl 6, .inl w, .inr (.inr (some (50, 0)))]) (M' := (P, ax_u3 g2 50 0 15 2, r0, n)) ok_X11_readWord true 6 rfl trivial ?_
              refine aj_icmp_ge (tgt := 157) (ax_dec2 (i := .if_icmp .ge 7) (n := 3) ok_X11_readWord rfl) (by decide) (fun c8 => ?_) (fun c8 => ?_)
              · exact absurd c8 (by omega)
              · refine aj_run (C := True) (pc' := 164) (la' := [some (.inr (.inr (some (50, 0)))), some (.inl w), some (.inl ((g2 119 0 (w + 1)) - (g2 119 0 w))), some (.inl sm), some (.inl q)]) (st' := []) (M' := (P, ax_u3 (ax_u3 g2 50 0 15 2) 50 0 16 w, r0, n)) ok_X11_readWord true 3 rfl trivial ?_
                refine aj_run (C := (-2147483648 ≤ w + 1 ∧ w + 1 ≤ 2147483647) ∧ True) (pc' := 32) (la' := [some (.inr (.inr (some (50, 0)))), some (.inl (w + 1)), some (.inl ((g2 119 0 (w + 1)) - (g2 119 0 w))), some (.inl sm), some (.inl q)]) (st' := []) (M' := (P, ax_u3 (ax_u3 g2 50 0 15 2) 50 0 16 w, r0, n)) ok_X11_readWord true 2 rfl (by refine ⟨?_, trivial⟩ <;> (omega)) ?_
                refine aj_forget (la' := [some (.inr (.inr (some (50, 0)))), some (.inl (w + 1)), none, none, none]) (by simp [ax_fg]) ?_
                refine ih32 (w + 1, ax_u3 (ax_u3 g2 50 0 15 2) 50 0 16 w) ?_ ?_
                · (try dsimp only); (have e15 : (ax_u3 (ax_u3 g2 50 0 15 2) 50 0 16 w) 50 0 15 = 2 := rfl; have e16 : (ax_u3 (ax_u3 g2 50 0 15 2) 50 0 16 w) 50 0 16 = w := rfl; exact ⟨by omega, by omega, fun f o j z => by rw [ax_u3_n (by omega), ax_u3_n (by omega)]; exact i3 f o j z, fun z => ⟨fun y => by rw [e15, e16]; omega, fun y => by rw [e15, e16]; omega⟩, fun z => by omega⟩)
                · omega
        · refine aj_run (C := True) (pc' := 83) (la' := [some (.inr (.inr (some (50, 0)))), some (.inl w), some (.inl ((g2 119 0 (w + 1)) - (g2 119 0 w))), some (.inl sm), some (.inl q)]) (st' := [.inl sm]) (M' := (P, g2, r0, n)) ok_X11_readWord true 1 rfl trivial ?_
          refine aj_if_eq (tgt := 127) (ax_dec2 (i := .ifCond .eq 44) (n := 3) ok_X11_readWord rfl) (by decide) (fun c9 => ?_) (fun c9 => ?_)
          · refine aj_run (C := True) (pc' := 128) (la' := [some (.inr (.inr (some (50, 0)))), some (.inl w), some (.inl ((g2 119 0 (w + 1)) - (g2 119 0 w))), some (.inl sm), some (.inl q)]) (st' := [.inl sm]) (M' := (P, g2, r0, n)) ok_X11_readWord true 1 rfl trivial ?_
            refine aj_if_eq (tgt := 164) (ax_dec2 (i := .ifCond .eq 36) (n := 3) ok_X11_readWord rfl) (by decide) (fun c10 => ?_) (fun c10 => ?_)
            · have hW : (tkW (g 108 0) k (tkE (g 108 0) (g 50 0 9) k)) ≠ cwR w := tkW_n (by omega) (j5 (by omega))
              refine aj_run (C := (-2147483648 ≤ w + 1 ∧ w + 1 ≤ 2147483647) ∧ True) (pc' := 32) (la' := [some (.inr (.inr (some (50, 0)))), some (.inl (w + 1)), some (.inl ((g2 119 0 (w + 1)) - (g2 119 0 w))), some (.inl sm), some (.inl q)]) (st' := []) (M' := (P, g2, r0, n)) ok_X11_readWord true 2 rfl (by refine ⟨?_, trivial⟩ <;> (omega)) ?_
              refine aj_forget (la' := [some (.inr (.inr (some (50, 0)))), some (.inl (w + 1)), none, none, none]) (by simp [ax_fg]) ?_
              refine ih32 (w + 1, g2) ?_ ?_
              · (try dsimp only); exact ⟨by omega, by omega, i3, fun z => i4 (by omega), fun z => i5 (by omega)⟩
              · omega
            · exact absurd c10 (by omega)
          · have hj4 := j4 (by omega)
            have hch : g2 118 0 (g2 119 0 w + q) = kB (cwR w + 1) q := by rw [d118, d119]; exact hl4 q j1 (by omega)
            have hc8 : g2 108 0 (g2 50 0 17 + q) = g 108 0 (k + q) := by rw [d108, d17]
            refine aj_run (C := (-2147483648 ≤ (g2 50 0 17) + q ∧ (g2 50 0 17) + q ≤ 2147483647) ∧ (0 ≤ (g2 50 0 17) + q ∧ (g2 50 0 17) + q < n 108 0) ∧ (0 ≤ w ∧ w < n 119 0) ∧ (-2147483648 ≤ (g2 119 0 w) + q ∧ (g2 119 0 w) + q ≤ 2147483647) ∧ (0 ≤ (g2 119 0 w) + q ∧ (g2 119 0 w) + q < n 118 0) ∧ True) (pc' := 112) (la' := [some (.inr (.inr (some (50, 0)))), some (.inl w), some (.inl ((g2 119 0 (w + 1)) - (g2 119 0 w))), some (.inl sm), some (.inl q)]) (st' := [.inl (g2 118 0 ((g2 119 0 w) + q)), .inl (g2 108 0 ((g2 50 0 17) + q))]) (M' := (P, g2, r0, n)) ok_X11_readWord true 16 rfl (by refine ⟨?_, ?_, ?_, ?_, ?_, trivial⟩ <;> (omega)) ?_
            refine aj_icmp_ne (tgt := 119) (ax_dec2 (i := .if_icmp .ne 7) (n := 3) ok_X11_readWord rfl) (by decide) (fun c11 => ?_) (fun c11 => ?_)
            · refine aj_run (C := (-2147483648 ≤ q + 1 ∧ q + 1 ≤ 2147483647) ∧ True) (pc' := 76) (la' := [some (.inr (.inr (some (50, 0)))), some (.inl w), some (.inl ((g2 119 0 (w + 1)) - (g2 119 0 w))), some (.inl 0), some (.inl (q + 1))]) (st' := []) (M' := (P, g2, r0, n)) ok_X11_readWord true 4 rfl (by refine ⟨?_, trivial⟩ <;> (omega)) ?_
              refine ih76 (q + 1, 0) ?_ ?_
              · (try dsimp only); exact ⟨by omega, by omega, by omega, fun z => by omega, fun _ => (by by_cases c9 : wMb (g 108 0) k (tkE (g 108 0) (g 50 0 9) k) (cwR w) = true; (have := (wMb_i.mp c9).2 q (by omega) (by omega); omega); simpa using c9)⟩
              · omega
            · refine aj_run (C := (-2147483648 ≤ q + 1 ∧ q + 1 ≤ 2147483647) ∧ True) (pc' := 76) (la' := [some (.inr (.inr (some (50, 0)))), some (.inl w), some (.inl ((g2 119 0 (w + 1)) - (g2 119 0 w))), some (.inl 1), some (.inl (q + 1))]) (st' := []) (M' := (P, g2, r0, n)) ok_X11_readWord true 5 rfl (by refine ⟨?_, trivial⟩ <;> (omega)) ?_
              refine ih76 (q + 1, 1) ?_ ?_
              · (try dsimp only); exact ⟨by omega, by omega, by omega, fun _ => ⟨by omega, fun i z1 z2 => (by by_cases c9 : i = q; (rw [c9]; omega); exact (j4 (by omega)).2 i z1 (by omega))⟩, fun z => by omega⟩
              · omega
      · refine aj_run (C := True) (pc' := 76) (la' := [some (.inr (.inr (some (50, 0)))), some (.inl w), some (.inl ((g2 119 0 (w + 1)) - (g2 119 0 w))), some (.inl 1), some (.inl 0)]) (st' := []) (M' := (P, g2, r0, n)) ok_X11_readWord true 5 rfl trivial ?_
        refine aj_loop (σ := (Int) × (Int)) (fun xL => 0 ≤ xL.1 ∧ xL.1 ≤ kL (cwR w + 1) ∧ (xL.2 = 0 ∨ xL.2 = 1) ∧ (xL.2 = 1 → kL (cwR w + 1) = (tkE (g 108 0) (g 50 0 9) k) - k ∧ ∀ i, 0 ≤ i → i < xL.1 → g 108 0 (k + i) = kB (cwR w + 1) i) ∧ (xL.2 = 0 → wMb (g 108 0) k (tkE (g 108 0) (g 50 0 9) k) (cwR w) = false)) (fun xL => (kL (cwR w + 1) - xL.1).toNat) (fun xL => [some (.inr (.inr (some (50, 0)))), some (.inl w), some (.inl ((g2 119 0 (w + 1)) - (g2 119 0 w))), some (.inl xL.2), some (.inl xL.1)]) (fun xL => []) (fun xL => (P, g2, r0, n)) ?_ (0, 1) ?_
        rotate_left
        · (try dsimp only); exact ⟨by omega, by omega, by omega, fun _ => ⟨by omega, fun i z1 z2 => by omega⟩, fun z => by omega⟩
        rintro ⟨q, sm⟩ hI ih76
        try dsimp only at hI ih76
        obtain ⟨j1, j2, j3, j4, j5⟩ := hI
        change ax_J _ _ _ _ _ _ _ _ _ 76 [some (.inr (.inr (some (50, 0)))), some (.inl w), some (.inl ((g2 119 0 (w + 1)) - (g2 119 0 w))), some (.inl sm), some (.inl q)] [] (P, g2, r0, n)
        refine aj_run (C := True) (pc' := 79) (la' := [some (.inr (.inr (some (50, 0)))), some (.inl w), some (.inl ((g2 119 0 (w + 1)) - (g2 119 0 w))), some (.inl sm), some (.inl q)]) (st' := [.inl ((g2 119 0 (w + 1)) - (g2 119 0 w)), .inl q]) (M' := (P, g2, r0, n)) ok_X11_readWord true 2 rfl trivial ?_
        refine aj_icmp_ge (tgt := 127) (ax_dec2 (i := .if_icmp .ge 48) (n := 3) ok_X11_readWord rfl) (by decide) (fun c12 => ?_) (fun c12 => ?_)
        · refine aj_run (C := True) (pc' := 128) (la' := [some (.inr (.inr (some (50, 0)))), some (.inl w), some (.inl ((g2 119 0 (w + 1)) - (g2 119 0 w))), some (.inl sm), some (.inl q)]) (st' := [.inl sm]) (M' := (P, g2, r0, n)) ok_X11_readWord true 1 rfl trivial ?_
          refine aj_if_eq (tgt := 164) (ax_dec2 (i := .ifCond .eq 36) (n := 3) ok_X11_readWord rfl) (by decide) (fun c13 => ?_) (fun c13 => ?_)
          · have hW : (tkW (g 108 0) k (tkE (g 108 0) (g 50 0 9) k)) ≠ cwR w := tkW_n (by omega) (j5 (by omega))
            refine aj_run (C := (-2147483648 ≤ w + 1 ∧ w + 1 ≤ 2147483647) ∧ True) (pc' := 32) (la' := [some (.inr (.inr (some (50, 0)))), some (.inl (w + 1)), some (.inl ((g2 119 0 (w + 1)) - (g2 119 0 w))), some (.inl sm), some (.inl q)]) (st' := []) (M' := (P, g2, r0, n)) ok_X11_readWord true 2 rfl (by refine ⟨?_, trivial⟩ <;> (omega)) ?_
            refine aj_forget (la' := [some (.inr (.inr (some (50, 0)))), some (.inl (w + 1)), none, none, none]) (by simp [ax_fg]) ?_
            refine ih32 (w + 1, g2) ?_ ?_
            · (try dsimp only); exact ⟨by omega, by omega, i3, fun z => i4 (by omega), fun z => i5 (by omega)⟩
            · omega
          · have hW : (tkW (g 108 0) k (tkE (g 108 0) (g 50 0 9) k)) = cwR w := tkW_y (by omega) (wMb_i.mpr ⟨(j4 (by omega)).1.symm, fun i z1 z2 => (j4 (by omega)).2 i z1 (by omega)⟩)
            refine aj_run (C := True) (pc' := 135) (la' := [some (.inr (.inr (some (50, 0)))), some (.inl w), some (.inl ((g2 119 0 (w + 1)) - (g2 119 0 w))), some (.inl sm), some (.inl q)]) (st' := [.inl 6, .inl w, .inr (.inr (some (50, 0)))]) (M' := (P, g2, r0, n)) ok_X11_readWord true 3 rfl trivial ?_
            refine aj_icmp_ge (tgt := 142) (ax_dec2 (i := .if_icmp .ge 7) (n := 3) ok_X11_readWord rfl) (by decide) (fun c14 => ?_) (fun c14 => ?_)
            · refine aj_run (C := True) (pc' := 150) (la' := [some (.inr (.inr (some (50, 0)))), some (.inl w), some (.inl ((g2 119 0 (w + 1)) - (g2 119 0 w))), some (.inl sm), some (.inl q)]) (st' := [.inl 6, .inl w, .inr (.inr (some (50, 0)))]) (M' := (P, ax_u3 g2 50 0 15 3, r0, n)) ok_X11_readWord true 5 rfl trivial ?_
              refine aj_icmp_ge (tgt := 157) (ax_dec2 (i := .if_icmp .ge 7) (n := 3) ok_X11_readWord rfl) (by decide) (fun c15 => ?_) (fun c15 => ?_)
              · refine aj_run (C := (-2147483648 ≤ w - 6 ∧ w - 6 ≤ 2147483647) ∧ True) (pc' := 164) (la' := [some (.inr (.inr (some (50, 0)))), some (.inl w), some (.inl ((g2 119 0 (w + 1)) - (g2 119 0 w))), some (.inl sm), some (.inl q)]) (st' := []) (M' := (P, ax_u3 (ax_u3 g2 50 0 15 3) 50 0 16 (w - 6), r0, n)) ok_X11_readWord true 4 rfl (by refine ⟨?_, trivial⟩ <;> (omega)) ?_
                refine aj_run (C := (-2147483648 ≤ w + 1 ∧ w + 1 ≤ 2147483647) ∧ True) (pc' := 32) (la' := [some (.inr (.inr (some (50, 0)))), some (.inl (w + 1)), some (.inl ((g2 119 0 (w + 1)) - (g2 119 0 w))), some (.inl sm), some (.inl q)]) (st' := []) (M' := (P, ax_u3 (ax_u3 g2 50 0 15 3) 50 0 16 (w - 6), r0, n)) ok_X11_readWord true 2 rfl (by refine ⟨?_, trivial⟩ <;> (omega)) ?_
                refine aj_forget (la' := [some (.inr (.inr (some (50, 0)))), some (.inl (w + 1)), none, none, none]) (by simp [ax_fg]) ?_
                refine ih32 (w + 1, ax_u3 (ax_u3 g2 50 0 15 3) 50 0 16 (w - 6)) ?_ ?_
                · (try dsimp only); (have e15 : (ax_u3 (ax_u3 g2 50 0 15 3) 50 0 16 (w - 6)) 50 0 15 = 3 := rfl; have e16 : (ax_u3 (ax_u3 g2 50 0 15 3) 50 0 16 (w - 6)) 50 0 16 = (w - 6) := rfl; exact ⟨by omega, by omega, fun f o j z => by rw [ax_u3_n (by omega), ax_u3_n (by omega)]; exact i3 f o j z, fun z => ⟨fun y => by rw [e15, e16]; omega, fun y => by rw [e15, e16]; omega⟩, fun z => by omega⟩)
                · omega
              · exact absurd c15 (by omega)
            · refine aj_run (C := True) (pc' := 150) (la' := [some (.inr (.inr (some (50, 0)))), some (.inl w), some (.inl ((g2 119 0 (w + 1)) - (g2 119 0 w))), some (.inl sm), some (.inl q)]) (st' := [.inl 6, .inl w, .inr (.inr (some (50, 0)))]) (M' := (P, ax_u3 g2 50 0 15 2, r0, n)) ok_X11_readWord true 6 rfl trivial ?_
              refine aj_icmp_ge (tgt := 157) (ax_dec2 (i := .if_icmp .ge 7) (n := 3) ok_X11_readWord rfl) (by decide) (fun c16 => ?_) (fun c16 => ?_)
              · exact absurd c16 (by omega)
              · refine aj_run (C := True) (pc' := 164) (la' := [some (.inr (.inr (some (50, 0)))), some (.inl w), some (.inl ((g2 119 0 (w + 1)) - (g2 119 0 w))), some (.inl sm), some (.inl q)]) (st' := []) (M' := (P, ax_u3 (ax_u3 g2 50 0 15 2) 50 0 16 w, r0, n)) ok_X11_readWord true 3 rfl trivial ?_
                refine aj_run (C := (-2147483648 ≤ w + 1 ∧ w + 1 ≤ 2147483647) ∧ True) (pc' := 32) (la' := [some (.inr (.inr (some (50, 0)))), some (.inl (w + 1)), some (.inl ((g2 119 0 (w + 1)) - (g2 119 0 w))), some (.inl sm), some (.inl q)]) (st' := []) (M' := (P, ax_u3 (ax_u3 g2 50 0 15 2) 50 0 16 w, r0, n)) ok_X11_readWord true 2 rfl (by refine ⟨?_, trivial⟩ <;> (omega)) ?_
                refine aj_forget (la' := [some (.inr (.inr (some (50, 0)))), some (.inl (w + 1)), none, none, none]) (by simp [ax_fg]) ?_
                refine ih32 (w + 1, ax_u3 (ax_u3 g2 50 0 15 2) 50 0 16 w) ?_ ?_
                · (try dsimp only); (have e15 : (ax_u3 (ax_u3 g2 50 0 15 2) 50 0 16 w) 50 0 15 = 2 := rfl; have e16 : (ax_u3 (ax_u3 g2 50 0 15 2) 50 0 16 w) 50 0 16 = w := rfl; exact ⟨by omega, by omega, fun f o j z => by rw [ax_u3_n (by omega), ax_u3_n (by omega)]; exact i3 f o j z, fun z => ⟨fun y => by rw [e15, e16]; omega, fun y => by rw [e15, e16]; omega⟩, fun z => by omega⟩)
                · omega
        · refine aj_run (C := True) (pc' := 83) (la' := [some (.inr (.inr (some (50, 0)))), some (.inl w), some (.inl ((g2 119 0 (w + 1)) - (g2 119 0 w))), some (.inl sm), some (.inl q)]) (st' := [.inl sm]) (M' := (P, g2, r0, n)) ok_X11_readWord true 1 rfl trivial ?_
          refine aj_if_eq (tgt := 127) (ax_dec2 (i := .ifCond .eq 44) (n := 3) ok_X11_readWord rfl) (by decide) (fun c17 => ?_) (fun c17 => ?_)
          · refine aj_run (C := True) (pc' := 128) (la' := [some (.inr (.inr (some (50, 0)))), some (.inl w), some (.inl ((g2 119 0 (w + 1)) - (g2 119 0 w))), some (.inl sm), some (.inl q)]) (st' := [.inl sm]) (M' := (P, g2, r0, n)) ok_X11_readWord true 1 rfl trivial ?_
            refine aj_if_eq (tgt := 164) (ax_dec2 (i := .ifCond .eq 36) (n := 3) ok_X11_readWord rfl) (by decide) (fun c18 => ?_) (fun c18 => ?_)
            · have hW : (tkW (g 108 0) k (tkE (g 108 0) (g 50 0 9) k)) ≠ cwR w := tkW_n (by omega) (j5 (by omega))
              refine aj_run (C := (-2147483648 ≤ w + 1 ∧ w + 1 ≤ 2147483647) ∧ True) (pc' := 32) (la' := [some (.inr (.inr (some (50, 0)))), some (.inl (w + 1)), some (.inl ((g2 119 0 (w + 1)) - (g2 119 0 w))), some (.inl sm), some (.inl q)]) (st' := []) (M' := (P, g2, r0, n)) ok_X11_readWord true 2 rfl (by refine ⟨?_, trivial⟩ <;> (omega)) ?_
              refine aj_forget (la' := [some (.inr (.inr (some (50, 0)))), some (.inl (w + 1)), none, none, none]) (by simp [ax_fg]) ?_
              refine ih32 (w + 1, g2) ?_ ?_
              · (try dsimp only); exact ⟨by omega, by omega, i3, fun z => i4 (by omega), fun z => i5 (by omega)⟩
              · omega
            · exact absurd c18 (by omega)
          · have hj4 := j4 (by omega)
            have hch : g2 118 0 (g2 119 0 w + q) = kB (cwR w + 1) q := by rw [d118, d119]; exact hl4 q j1 (by omega)
            have hc8 : g2 108 0 (g2 50 0 17 + q) = g 108 0 (k + q) := by rw [d108, d17]
            refine aj_run (C := (-2147483648 ≤ (g2 50 0 17) + q ∧ (g2 50 0 17) + q ≤ 2147483647) ∧ (0 ≤ (g2 50 0 17) + q ∧ (g2 50 0 17) + q < n 108 0) ∧ (0 ≤ w ∧ w < n 119 0) ∧ (-2147483648 ≤ (g2 119 0 w) + q ∧ (g2 119 0 w) + q ≤ 2147483647) ∧ (0 ≤ (g2 119 0 w) + q ∧ (g2 119 0 w) + q < n 118 0) ∧ True) (pc' := 112) (la' := [some (.inr (.inr (some (50, 0)))), some (.inl w), some (.inl ((g2 119 0 (w + 1)) - (g2 119 0 w))), some (.inl sm), some (.inl q)]) (st' := [.inl (g2 118 0 ((g2 119 0 w) + q)), .inl (g2 108 0 ((g2 50 0 17) + q))]) (M' := (P, g2, r0, n)) ok_X11_readWord true 16 rfl (by refine ⟨?_, ?_, ?_, ?_, ?_, trivial⟩ <;> (omega)) ?_
            refine aj_icmp_ne (tgt := 119) (ax_dec2 (i := .if_icmp .ne 7) (n := 3) ok_X11_readWord rfl) (by decide) (fun c19 => ?_) (fun c19 => ?_)
            · refine aj_run (C := (-2147483648 ≤ q + 1 ∧ q + 1 ≤ 2147483647) ∧ True) (pc' := 76) (la' := [some (.inr (.inr (some (50, 0)))), some (.inl w), some (.inl ((g2 119 0 (w + 1)) - (g2 119 0 w))), some (.inl 0), some (.inl (q + 1))]) (st' := []) (M' := (P, g2, r0, n)) ok_X11_readWord true 4 rfl (by refine ⟨?_, trivial⟩ <;> (omega)) ?_
              refine ih76 (q + 1, 0) ?_ ?_
              · (try dsimp only); exact ⟨by omega, by omega, by omega, fun z => by omega, fun _ => (by by_cases c9 : wMb (g 108 0) k (tkE (g 108 0) (g 50 0 9) k) (cwR w) = true; (have := (wMb_i.mp c9).2 q (by omega) (by omega); omega); simpa using c9)⟩
              · omega
            · refine aj_run (C := (-2147483648 ≤ q + 1 ∧ q + 1 ≤ 2147483647) ∧ True) (pc' := 76) (la' := [some (.inr (.inr (some (50, 0)))), some (.inl w), some (.inl ((g2 119 0 (w + 1)) - (g2 119 0 w))), some (.inl 1), some (.inl (q + 1))]) (st' := []) (M' := (P, g2, r0, n)) ok_X11_readWord true 5 rfl (by refine ⟨?_, trivial⟩ <;> (omega)) ?_
              refine ih76 (q + 1, 1) ?_ ?_
              · (try dsimp only); exact ⟨by omega, by omega, by omega, fun _ => ⟨by omega, fun i z1 z2 => (by by_cases c9 : i = q; (rw [c9]; omega); exact (j4 (by omega)).2 i z1 (by omega))⟩, fun z => by omega⟩
              · omega
  · replace c1 := bI_n0 c1
    refine aj_run (C := (-2147483648 ≤ (g1 50 0 14) + 1 ∧ (g1 50 0 14) + 1 ≤ 2147483647) ∧ True) (pc' := 0) (la' := [some (.inr (.inr (some (50, 0)))), none, none, none, none]) (st' := []) (M' := (P, ax_u3 g1 50 0 14 ((g1 50 0 14) + 1), r0, n)) ok_X11_readWord true 7 rfl (by refine ⟨?_, trivial⟩ <;> (omega)) ?_
    refine ih0 (ax_u3 g1 50 0 14 ((g1 50 0 14) + 1)) ?_ ?_
    · (try dsimp only); exact ⟨fun f o j z => by rw [ax_u3_n (by omega)]; exact a1 f o j z, by rw [ax_u3_s]; omega, by rw [ax_u3_s, a3, lx_y (decide_eq_true (by omega)) (by omega)]⟩
    · (show (g 50 0 9 - ax_u3 g1 50 0 14 (g1 50 0 14 + 1) 50 0 14).toNat < _; rw [ax_u3_s]; omega)

