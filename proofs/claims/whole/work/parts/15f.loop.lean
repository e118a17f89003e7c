/-! ===== the law's loop ===== -/
def pW (f : Nat) (o : Int) : Prop := (f = 90 ∧ o = 0) ∨ ((f = 91 ∨ f = 92) ∧ 0 ≤ o ∧ o < 13) ∨ (f = 93 ∧ o = 0)
abbrev lwQ : ax_Q := fun r _ kc ks => r = some (.inl 1) ∧ True ∧ kc ≤ 600000 ∧ ks ≤ 7302250
theorem pW_in {P : Nat → Int → Prop} (hS : cStr P) (h90 : P 90 0) : ∀ f o, pW f o → P f o := fun f o z => by
  rcases z with ⟨rfl, rfl⟩ | ⟨rfl | rfl, z1, z2⟩ | ⟨rfl, rfl⟩
  · exact h90
  · exact (hS.1 o z1 z2).1
  · exact (hS.1 o z1 z2).2
  · exact hS.2
set_option maxRecDepth 100000 in
set_option maxHeartbeats 4000000 in
theorem lw_loop {L : Nat} {xs : Nat → Int32} (hL : L ≤ 3072) {P : Nat → Int → Prop} {g : Nat → Int → Int → Int} {r : Nat → Int → Int → Option (Nat × Int)} {n : Nat → Int → Int} (hI0 : lwI 0 P g r n) :
    ax_J 12 code 4 (some (L, xs)) room_1 pW lwQ 300 20000 18 [some (.inr (.inr (some (90, 0)))), some (.inr (.inr (some (1, 0)))), some (.inr (.inr (some (50, 0)))), some (.inl 0)] [] (P, g, r, n) := by
  refine aj_kc (kc' := 300 + 4 * (0 : Int).toNat) (ks' := 20000 + 108 * (0 : Int).toNat) rfl rfl ?_
  refine aj_loopK (σ := Int × (Nat → Int → Prop) × (Nat → Int → Int → Int) × (Nat → Int → Int → Option (Nat × Int)) × (Nat → Int → Int)) (fun x => 300 + 4 * x.1.toNat) (fun x => 20000 + 108 * x.1.toNat) (fun x => 0 ≤ x.1 ∧ x.1 ≤ (L : Int) ∧ lwI x.1 x.2.1 x.2.2.1 x.2.2.2.1 x.2.2.2.2) (fun x => ((L : Int) - x.1).toNat) (fun x => [some (.inr (.inr (some (90, 0)))), some (.inr (.inr (some (1, 0)))), some (.inr (.inr (some (50, 0)))), some (.inl x.1)]) (fun x => []) (fun x => (x.2.1, x.2.2.1, x.2.2.2.1, x.2.2.2.2)) ?_ (0, P, g, r, n) ⟨Int.le_refl 0, Int.natCast_nonneg L, hI0⟩
  rintro ⟨i, P, g, r, n⟩ ⟨i1, i2, hI⟩ ih
  dsimp only at i1 i2 hI ih ⊢
  obtain ⟨hJ, hFa⟩ := lwI_dr hI
  have hpW := pW_in hJ.2.2.1.1 hJ.2.2.1.2.1
  refine aj_dropD (D := dA (g 50 0 2)) hpW (fun z => absurd (hI.2.2.2.1 _ _ z) (by decide)) dA_cl ?_ (fun v hv => by cases hv) ?_
  · intro v hv
    simp only [List.mem_cons, Option.some.injEq, List.not_mem_nil, or_false] at hv
    rcases hv with rfl | rfl | rfl | rfl
    · exact hJ.2.2.1.2.1
    · exact hJ.2.2.1.2.2.1
    · exact hJ.2.2.1.2.2.2
    · exact trivial
  refine aj_run (C := True) (pc' := 20) (la' := [some (.inr (.inr (some (90, 0)))), some (.inr (.inr (some (1, 0)))), some (.inr (.inr (some (50, 0)))), some (.inl i)]) (st' := [.inr (.inr (some (90, 0))), .inl i]) (M' := ((dpP (dA (g 50 0 2)) P), g, (dpR (dA (g 50 0 2)) r), n)) ok_L_law true 2 rfl trivial ?_
  refine aj_slen (ax_dec2 (i := .arraylength) (n := 1) ok_L_law rfl) ?_
  change ax_J _ _ _ _ _ _ _ _ _ 21 [some (.inr (.inr (some (90, 0)))), some (.inr (.inr (some (1, 0)))), some (.inr (.inr (some (50, 0)))), some (.inl i)] [.inl (L : Int), .inl i] ((dpP (dA (g 50 0 2)) P), g, (dpR (dA (g 50 0 2)) r), n)
  refine aj_run (C := (-2147483648 ≤ (L : Int) - 6 ∧ (L : Int) - 6 ≤ 2147483647) ∧ True) (pc' := 24) (la' := [some (.inr (.inr (some (90, 0)))), some (.inr (.inr (some (1, 0)))), some (.inr (.inr (some (50, 0)))), some (.inl i)]) (st' := [.inl ((L : Int) - 6), .inl i]) (M' := ((dpP (dA (g 50 0 2)) P), g, (dpR (dA (g 50 0 2)) r), n)) ok_L_law true 2 rfl (by refine ⟨?_, trivial⟩ <;> (omega)) ?_
  refine aj_icmp_gt (tgt := 1078) (ax_dec2 (i := .if_icmp .gt 1054) (n := 3) ok_L_law rfl) (by decide) (fun c1 => ?_) (fun c1 => ?_)
  · refine aj_run (C := True) (pc' := 1079) (la' := [some (.inr (.inr (some (90, 0)))), some (.inr (.inr (some (1, 0)))), some (.inr (.inr (some (50, 0)))), some (.inl i)]) (st' := [.inl 1]) (M' := ((dpP (dA (g 50 0 2)) P), g, (dpR (dA (g 50 0 2)) r), n)) ok_L_law true 1 rfl trivial ?_
    refine aj_ret (r := some (.inl 1)) (ax_dec2 (i := .ireturn) (n := 1) ok_L_law rfl) ⟨?_, ?_, by omega, by omega⟩ rfl
    · rfl
    · trivial
  · have hkc : 300 + 4 * i.toNat ≤ 500000 ∧ 20000 + 108 * i.toNat ≤ 7000000 := by omega
    have hk : ∀ P1 g1 r1 n1, lwI (i + 6) P1 g1 r1 n1 → ax_J 12 code 4 (some (L, xs)) room_1 pW lwQ (300 + 4 * i.toNat + 24) (20000 + 108 * i.toNat + 648) 18 [some (.inr (.inr (some (90, 0)))), some (.inr (.inr (some (1, 0)))), some (.inr (.inr (some (50, 0)))), some (.inl (i + 6))] [] (P1, g1, r1, n1) := fun P1 g1 r1 n1 z => aj_kc (kc' := 300 + 4 * (i + 6).toNat) (ks' := 20000 + 108 * (i + 6).toNat) (by omega) (by omega) (ih (i + 6, P1, g1, r1, n1) ⟨by show 0 ≤ i + 6; omega, by show i + 6 ≤ (L : Int); omega, z⟩ (by show ((L : Int) - (i + 6)).toNat < ((L : Int) - i).toNat; omega))
    refine aj_run (C := True) (pc' := 29) (la' := [some (.inr (.inr (some (90, 0)))), some (.inr (.inr (some (1, 0)))), some (.inr (.inr (some (50, 0)))), some (.inl i)]) (st' := [.inl i, .inr (.inr (some (90, 0)))]) (M' := ((dpP (dA (g 50 0 2)) P), g, (dpR (dA (g 50 0 2)) r), n)) ok_L_law true 2 rfl trivial ?_
    refine aj_sld (i := i) ⟨by omega, by omega⟩ (ax_dec2 (i := .iaload) (n := 1) ok_L_law rfl) ?_
    change ax_J _ _ _ _ _ _ _ _ _ 30 [some (.inr (.inr (some (90, 0)))), some (.inr (.inr (some (1, 0)))), some (.inr (.inr (some (50, 0)))), some (.inl i)] [.inl (sX xs i)] ((dpP (dA (g 50 0 2)) P), g, (dpR (dA (g 50 0 2)) r), n)
    refine aj_run (C := True) (pc' := 33) (la' := [some (.inr (.inr (some (90, 0)))), some (.inr (.inr (some (1, 0)))), some (.inr (.inr (some (50, 0)))), some (.inl i)]) (st' := [.inl (ax_and (sX xs i) 31)]) (M' := ((dpP (dA (g 50 0 2)) P), g, (dpR (dA (g 50 0 2)) r), n)) ok_L_law true 2 rfl trivial ?_
    by_cases s2 : ax_and (sX xs i) 31 = 0
    · refine aj_tsw (tgt := 164) (ax_dec2 (i := .tableswitch 1039 0 28 #[131, 164, 207, 250, 283, 306, 319, 342, 375, 418, 441, 464, 487, 520, 543, 576, 609, 652, 686, 719, 732, 755, 768, 781, 804, 847, 890, 953, 1006]) (n := 131) ok_L_law rfl) (by decide) (by rw [s2]; decide) ?_
      exact lc_plank hkc (by omega) hJ hFa hk
    by_cases s3 : ax_and (sX xs i) 31 = 1
    · refine aj_tsw (tgt := 197) (ax_dec2 (i := .tableswitch 1039 0 28 #[131, 164, 207, 250, 283, 306, 319, 342, 375, 418, 441, 464, 487, 520, 543, 576, 609, 652, 686, 719, 732, 755, 768, 781, 804, 847, 890, 953, 1006]) (n := 131) ok_L_law rfl) (by decide) (by rw [s3]; decide) ?_
      exact lc_ant hkc (by omega) hJ hFa hk
    by_cases s4 : ax_and (sX xs i) 31 = 2
    · refine aj_tsw (tgt := 240) (ax_dec2 (i := .tableswitch 1039 0 28 #[131, 164, 207, 250, 283, 306, 319, 342, 375, 418, 441, 464, 487, 520, 543, 576, 609, 652, 686, 719, 732, 755, 768, 781, 804, 847, 890, 953, 1006]) (n := 131) ok_L_law rfl) (by decide) (by rw [s4]; decide) ?_
      exact lc_set hkc (by omega) hJ hFa hk
    by_cases s5 : ax_and (sX xs i) 31 = 3
    · refine aj_tsw (tgt := 283) (ax_dec2 (i := .tableswitch 1039 0 28 #[131, 164, 207, 250, 283, 306, 319, 342, 375, 418, 441, 464, 487, 520, 543, 576, 609, 652, 686, 719, 732, 755, 768, 781, 804, 847, 890, 953, 1006]) (n := 131) ok_L_law rfl) (by decide) (by rw [s5]; decide) ?_
      exact lc_told hkc (by omega) hJ hFa hk
    by_cases s6 : ax_and (sX xs i) 31 = 4
    · refine aj_tsw (tgt := 316) (ax_dec2 (i := .tableswitch 1039 0 28 #[131, 164, 207, 250, 283, 306, 319, 342, 375, 418, 441, 464, 487, 520, 543, 576, 609, 652, 686, 719, 732, 755, 768, 781, 804, 847, 890, 953, 1006]) (n := 131) ok_L_law rfl) (by decide) (by rw [s6]; decide) ?_
      exact lc_feed hkc (by omega) hJ hFa hk
    by_cases s7 : ax_and (sX xs i) 31 = 5
    · refine aj_tsw (tgt := 339) (ax_dec2 (i := .tableswitch 1039 0 28 #[131, 164, 207, 250, 283, 306, 319, 342, 375, 418, 441, 464, 487, 520, 543, 576, 609, 652, 686, 719, 732, 755, 768, 781, 804, 847, 890, 953, 1006]) (n := 131) ok_L_law rfl) (by decide) (by rw [s7]; decide) ?_
      exact lc_text hkc (by omega) hJ hFa hk
    by_cases s8 : ax_and (sX xs i) 31 = 6
    · refine aj_tsw (tgt := 352) (ax_dec2 (i := .tableswitch 1039 0 28 #[131, 164, 207, 250, 283, 306, 319, 342, 375, 418, 441, 464, 487, 520, 543, 576, 609, 652, 686, 719, 732, 755, 768, 781, 804, 847, 890, 953, 1006]) (n := 131) ok_L_law rfl) (by decide) (by rw [s8]; decide) ?_
      exact lc_force hkc (by omega) hJ hFa hk
    by_cases s9 : ax_and (sX xs i) 31 = 7
    · refine aj_tsw (tgt := 375) (ax_dec2 (i := .tableswitch 1039 0 28 #[131, 164, 207, 250, 283, 306, 319, 342, 375, 418, 441, 464, 487, 520, 543, 576, 609, 652, 686, 719, 732, 755, 768, 781, 804, 847, 890, 953, 1006]) (n := 131) ok_L_law rfl) (by decide) (by rw [s9]; decide) ?_
      exact lc_of hkc (by omega) hJ hFa hk
    by_cases s10 : ax_and (sX xs i) 31 = 8
    · refine aj_tsw (tgt := 408) (ax_dec2 (i := .tableswitch 1039 0 28 #[131, 164, 207, 250, 283, 306, 319, 342, 375, 418, 441, 464, 487, 520, 543, 576, 609, 652, 686, 719, 732, 755, 768, 781, 804, 847, 890, 953, 1006]) (n := 131) ok_L_law rfl) (by decide) (by rw [s10]; decide) ?_
      exact lc_at hkc (by omega) hJ hFa hk
    by_cases s11 : ax_and (sX xs i) 31 = 9
    · refine aj_tsw (tgt := 451) (ax_dec2 (i := .tableswitch 1039 0 28 #[131, 164, 207, 250, 283, 306, 319, 342, 375, 418, 441, 464, 487, 520, 543, 576, 609, 652, 686, 719, 732, 755, 768, 781, 804, 847, 890, 953, 1006]) (n := 131) ok_L_law rfl) (by decide) (by rw [s11]; decide) ?_
      exact lc_last hkc (by omega) hJ hFa hk
    by_cases s12 : ax_and (sX xs i) 31 = 10
    · refine aj_tsw (tgt := 474) (ax_dec2 (i := .tableswitch 1039 0 28 #[131, 164, 207, 250, 283, 306, 319, 342, 375, 418, 441, 464, 487, 520, 543, 576, 609, 652, 686, 719, 732, 755, 768, 781, 804, 847, 890, 953, 1006]) (n := 131) ok_L_law rfl) (by decide) (by rw [s12]; decide) ?_
      exact lc_order hkc (by omega) hJ hFa hk
    by_cases s13 : ax_and (sX xs i) 31 = 11
    · refine aj_tsw (tgt := 497) (ax_dec2 (i := .tableswitch 1039 0 28 #[131, 164, 207, 250, 283, 306, 319, 342, 375, 418, 441, 464, 487, 520, 543, 576, 609, 652, 686, 719, 732, 755, 768, 781, 804, 847, 890, 953, 1006]) (n := 131) ok_L_law rfl) (by decide) (by rw [s13]; decide) ?_
      exact lc_tilt hkc (by omega) hJ hFa hk
    by_cases s14 : ax_and (sX xs i) 31 = 12
    · refine aj_tsw (tgt := 520) (ax_dec2 (i := .tableswitch 1039 0 28 #[131, 164, 207, 250, 283, 306, 319, 342, 375, 418, 441, 464, 487, 520, 543, 576, 609, 652, 686, 719, 732, 755, 768, 781, 804, 847, 890, 953, 1006]) (n := 131) ok_L_law rfl) (by decide) (by rw [s14]; decide) ?_
      exact lc_through hkc (by omega) hJ hFa hk
    by_cases s15 : ax_and (sX xs i) 31 = 13
    · refine aj_tsw (tgt := 553) (ax_dec2 (i := .tableswitch 1039 0 28 #[131, 164, 207, 250, 283, 306, 319, 342, 375, 418, 441, 464, 487, 520, 543, 576, 609, 652, 686, 719, 732, 755, 768, 781, 804, 847, 890, 953, 1006]) (n := 131) ok_L_law rfl) (by decide) (by rw [s15]; decide) ?_
      exact lc_soonest hkc (by omega) hJ hFa hk
    by_cases s16 : ax_and (sX xs i) 31 = 14
    · refine aj_tsw (tgt := 576) (ax_dec2 (i := .tableswitch 1039 0 28 #[131, 164, 207, 250, 283, 306, 319, 342, 375, 418, 441, 464, 487, 520, 543, 576, 609, 652, 686, 719, 732, 755, 768, 781, 804, 847, 890, 953, 1006]) (n := 131) ok_L_law rfl) (by decide) (by rw [s16]; decide) ?_
      exact lc_beLast hkc (by omega) hJ hFa hk
    by_cases s17 : ax_and (sX xs i) 31 = 15
    · refine aj_tsw (tgt := 609) (ax_dec2 (i := .tableswitch 1039 0 28 #[131, 164, 207, 250, 283, 306, 319, 342, 375, 418, 441, 464, 487, 520, 543, 576, 609, 652, 686, 719, 732, 755, 768, 781, 804, 847, 890, 953, 1006]) (n := 131) ok_L_law rfl) (by decide) (by rw [s17]; decide) ?_
      exact lc_longest hkc (by omega) hJ hFa hk
    by_cases s18 : ax_and (sX xs i) 31 = 16
    · refine aj_tsw (tgt := 642) (ax_dec2 (i := .tableswitch 1039 0 28 #[131, 164, 207, 250, 283, 306, 319, 342, 375, 418, 441, 464, 487, 520, 543, 576, 609, 652, 686, 719, 732, 755, 768, 781, 804, 847, 890, 953, 1006]) (n := 131) ok_L_law rfl) (by decide) (by rw [s18]; decide) ?_
      exact lc_fits hkc (by omega) hJ hFa hk
    by_cases s19 : ax_and (sX xs i) 31 = 17
    · refine aj_tsw (tgt := 685) (ax_dec2 (i := .tableswitch 1039 0 28 #[131, 164, 207, 250, 283, 306, 319, 342, 375, 418, 441, 464, 487, 520, 543, 576, 609, 652, 686, 719, 732, 755, 768, 781, 804, 847, 890, 953, 1006]) (n := 131) ok_L_law rfl) (by decide) (by rw [s19]; decide) ?_
      exact lc_byThen hkc (by omega) hJ hFa hk
    by_cases s20 : ax_and (sX xs i) 31 = 18
    · refine aj_tsw (tgt := 719) (ax_dec2 (i := .tableswitch 1039 0 28 #[131, 164, 207, 250, 283, 306, 319, 342, 375, 418, 441, 464, 487, 520, 543, 576, 609, 652, 686, 719, 732, 755, 768, 781, 804, 847, 890, 953, 1006]) (n := 131) ok_L_law rfl) (by decide) (by rw [s20]; decide) ?_
      exact lc_carried hkc (by omega) hJ hFa hk
    by_cases s21 : ax_and (sX xs i) 31 = 19
    · refine aj_tsw (tgt := 752) (ax_dec2 (i := .tableswitch 1039 0 28 #[131, 164, 207, 250, 283, 306, 319, 342, 375, 418, 441, 464, 487, 520, 543, 576, 609, 652, 686, 719, 732, 755, 768, 781, 804, 847, 890, 953, 1006]) (n := 131) ok_L_law rfl) (by decide) (by rw [s21]; decide) ?_
      exact lc_round hkc (by omega) hJ hFa hk
    by_cases s22 : ax_and (sX xs i) 31 = 20
    · refine aj_tsw (tgt := 765) (ax_dec2 (i := .tableswitch 1039 0 28 #[131, 164, 207, 250, 283, 306, 319, 342, 375, 418, 441, 464, 487, 520, 543, 576, 609, 652, 686, 719, 732, 755, 768, 781, 804, 847, 890, 953, 1006]) (n := 131) ok_L_law rfl) (by decide) (by rw [s22]; decide) ?_
      exact lc_drawn hkc (by omega) hJ hFa hk
    by_cases s23 : ax_and (sX xs i) 31 = 21
    · refine aj_tsw (tgt := 788) (ax_dec2 (i := .tableswitch 1039 0 28 #[131, 164, 207, 250, 283, 306, 319, 342, 375, 418, 441, 464, 487, 520, 543, 576, 609, 652, 686, 719, 732, 755, 768, 781, 804, 847, 890, 953, 1006]) (n := 131) ok_L_law rfl) (by decide) (by rw [s23]; decide) ?_
      exact lc_image hkc (by omega) hJ hFa hk
    by_cases s24 : ax_and (sX xs i) 31 = 22
    · refine aj_tsw (tgt := 801) (ax_dec2 (i := .tableswitch 1039 0 28 #[131, 164, 207, 250, 283, 306, 319, 342, 375, 418, 441, 464, 487, 520, 543, 576, 609, 652, 686, 719, 732, 755, 768, 781, 804, 847, 890, 953, 1006]) (n := 131) ok_L_law rfl) (by decide) (by rw [s24]; decide) ?_
      exact lc_back hkc (by omega) hJ hFa hk
    by_cases s25 : ax_and (sX xs i) 31 = 23
    · refine aj_tsw (tgt := 814) (ax_dec2 (i := .tableswitch 1039 0 28 #[131, 164, 207, 250, 283, 306, 319, 342, 375, 418, 441, 464, 487, 520, 543, 576, 609, 652, 686, 719, 732, 755, 768, 781, 804, 847, 890, 953, 1006]) (n := 131) ok_L_law rfl) (by decide) (by rw [s25]; decide) ?_
      exact lc_count hkc (by omega) hJ hFa hk
    by_cases s26 : ax_and (sX xs i) 31 = 24
    · refine aj_tsw (tgt := 837) (ax_dec2 (i := .tableswitch 1039 0 28 #[131, 164, 207, 250, 283, 306, 319, 342, 375, 418, 441, 464, 487, 520, 543, 576, 609, 652, 686, 719, 732, 755, 768, 781, 804, 847, 890, 953, 1006]) (n := 131) ok_L_law rfl) (by decide) (by rw [s26]; decide) ?_
      exact lc_sheet hkc (by omega) hJ hFa hk
    by_cases s27 : ax_and (sX xs i) 31 = 25
    · refine aj_tsw (tgt := 880) (ax_dec2 (i := .tableswitch 1039 0 28 #[131, 164, 207, 250, 283, 306, 319, 342, 375, 418, 441, 464, 487, 520, 543, 576, 609, 652, 686, 719, 732, 755, 768, 781, 804, 847, 890, 953, 1006]) (n := 131) ok_L_law rfl) (by decide) (by rw [s27]; decide) ?_
      exact lc_cell hkc (by omega) hJ hFa hk
    by_cases s28 : ax_and (sX xs i) 31 = 26
    · refine aj_tsw (tgt := 923) (ax_dec2 (i := .tableswitch 1039 0 28 #[131, 164, 207, 250, 283, 306, 319, 342, 375, 418, 441, 464, 487, 520, 543, 576, 609, 652, 686, 719, 732, 755, 768, 781, 804, 847, 890, 953, 1006]) (n := 131) ok_L_law rfl) (by decide) (by rw [s28]; decide) ?_
      exact lc_copy hkc (by omega) hJ hFa hk
    by_cases s29 : ax_and (sX xs i) 31 = 27
    · refine aj_tsw (tgt := 986) (ax_dec2 (i := .tableswitch 1039 0 28 #[131, 164, 207, 250, 283, 306, 319, 342, 375, 418, 441, 464, 487, 520, 543, 576, 609, 652, 686, 719, 732, 755, 768, 781, 804, 847, 890, 953, 1006]) (n := 131) ok_L_law rfl) (by decide) (by rw [s29]; decide) ?_
      exact lc_ants hkc (by omega) hJ hFa hk
    by_cases s30 : ax_and (sX xs i) 31 = 28
    · refine aj_tsw (tgt := 1039) (ax_dec2 (i := .tableswitch 1039 0 28 #[131, 164, 207, 250, 283, 306, 319, 342, 375, 418, 441, 464, 487, 520, 543, 576, 609, 652, 686, 719, 732, 755, 768, 781, 804, 847, 890, 953, 1006]) (n := 131) ok_L_law rfl) (by decide) (by rw [s30]; decide) ?_
      exact lc_taken hkc (by omega) hJ hFa hk
    refine aj_tsw (tgt := 1072) (ax_dec2 (i := .tableswitch 1039 0 28 #[131, 164, 207, 250, 283, 306, 319, 342, 375, 418, 441, 464, 487, 520, 543, 576, 609, 652, 686, 719, 732, 755, 768, 781, 804, 847, 890, 953, 1006]) (n := 131) ok_L_law rfl) (by decide) (by rw [ax_tsw_d (ax_and (sX xs i) 31) (by decide) (by decide) (by omega)]; decide) ?_
    refine aj_run (C := (-2147483648 ≤ i + 6 ∧ i + 6 ≤ 2147483647) ∧ True) (pc' := 18) (la' := [some (.inr (.inr (some (90, 0)))), some (.inr (.inr (some (1, 0)))), some (.inr (.inr (some (50, 0)))), some (.inl (i + 6))]) (st' := []) (M' := ((dpP (dA (g 50 0 2)) P), g, (dpR (dA (g 50 0 2)) r), n)) ok_L_law true 2 rfl (by refine ⟨?_, trivial⟩ <;> (omega)) ?_
    refine aj_wide (kc' := 300 + 4 * i.toNat + 24) (ks' := 20000 + 108 * i.toNat + 648) (by omega) (by omega) ?_
    exact hk _ _ _ _ (lwI_i hJ)
