/-! ===== ant, ants ===== -/
theorem cGr.tr {P P1 P2 : Nat → Int → Prop} {g g1 g2 : Nat → Int → Int → Int} {n n1 n2 : Nat → Int → Int} (h : cGr P g n P1 g1 n1) (h' : cGr P1 g1 n1 P2 g2 n2) : cGr P g n P2 g2 n2 := ⟨fun f o z => h'.1 f o (h.1 f o z), fun f o z1 z2 => h.2.1 f o z1 (h'.2.1 f o z1 z2), fun f o j z => (h'.2.2.1 f o j z).trans (h.2.2.1 f o j z), fun f o z => (h'.2.2.2 f o z).trans (h.2.2.2 f o z)⟩
section AK
variable {own : Nat} {cc : ByteArray} {nL : Nat} {scr : Option (Nat × (Nat → Int32))} {R : Room} {p0 : Nat → Int → Prop} {Q : ax_Q} {kc ks pc : Nat} {la : List (Option ax_V)} {st : List ax_V} {M : ax_Mm}
theorem aj_kc {kc' ks' : Nat} (h1 : kc = kc') (h2 : ks = ks') (kk : ax_J own cc nL scr R p0 Q kc' ks' pc la st M) : ax_J own cc nL scr R p0 Q kc ks pc la st M := by
  subst h1 h2
  exact kk
theorem aj_loopK {σ : Type} (kcf ksf : σ → Nat) (I : σ → Prop) (μ : σ → Nat) (la : σ → List (Option ax_V)) (st : σ → List ax_V) (M : σ → ax_Mm) (h : ∀ x, I x → (∀ y, I y → μ y < μ x → ax_J own cc nL scr R p0 Q (kcf y) (ksf y) pc (la y) (st y) (M y)) → ax_J own cc nL scr R p0 Q (kcf x) (ksf x) pc (la x) (st x) (M x)) (x0 : σ) (h0 : I x0) : ax_J own cc nL scr R p0 Q (kcf x0) (ksf x0) pc (la x0) (st x0) (M x0) := by
  suffices H : ∀ (n : Nat) (x : σ), I x → μ x < n → ax_J own cc nL scr R p0 Q (kcf x) (ksf x) pc (la x) (st x) (M x) from H (μ x0 + 1) x0 h0 (Nat.lt_succ_self _)
  intro n
  induction n with
  | zero => intro x _ hx; exact absurd hx (Nat.not_lt_zero _)
  | succ n ih => intro x hx hm; exact h x hx (fun y hy hlt => ih y hy (by omega))
end AK
theorem cGr.rf {P : Nat → Int → Prop} {g : Nat → Int → Int → Int} {n : Nat → Int → Int} : cGr P g n P g n := ⟨fun _ _ z => z, fun _ _ _ z => z, fun _ _ _ _ => rfl, fun _ _ _ => rfl⟩
set_option maxRecDepth 100000 in
set_option maxHeartbeats 4000000 in
theorem cp_ant (k w s : Int) (P : Nat → Int → Prop) (g : Nat → Int → Int → Int) (r0 : Nat → Int → Int → Option (Nat × Int)) (n : Nat → Int → Int) (h : Nat → Int → Int → Int) (he : cWe P g r0 n h) (hst : 0 ≤ g 2 0 11 ∧ g 2 0 11 ≤ 100000) : ax_S yX10_ant cX10_ant 4 (some FieldType.int) 6 3 21 [.inr (.inr (some (1, 0))), .inl k, .inl w, .inl s] (P, g, r0, n) (fun r M' => r = some (.inl (mAnt h k w s).1) ∧ ∃ P' g' r' n', M' = (P', g', r', n') ∧ cWe P' g' r' n' (mAnt h k w s).2 ∧ cGr P g n P' g' n' ∧ g' 2 0 11 ≤ g 2 0 11 + 1) := by
  have hw := he.1
  have hs := cWd_sta hw
  have hT := hw.2.2.1
  have hTp := hw.2.2.2.2.2.2
  have hT2 := hT.2.1
  have hTp2 := hTp.2.1
  have hAs := hs.1.1
  have hPs := hs.1.2.1
  have hOs := hs.1.2.2
  have hP1 := hPs.1
  have hA1 := hAs.1
  have hsz := hOs.2.2.1
  have hxz := hPs.1.1
  have hkk : 2 ≤ g 2 0 2 ∧ g 2 0 2 ≤ 40 := by rw [hP1.2.1]; exact hOs.1
  have hst2 : 0 ≤ g 2 0 11 ∧ g 2 0 11 ≤ 1000000 := by omega
  refine ax_S_of (own := 10) (by decide) rfl (fun h => absurd h (by decide)) rfl (Nat.le_of_ble_eq_true rfl) ?_
  change ax_J _ _ _ _ _ _ _ _ _ _ [some (.inr (.inr (some (1, 0)))), some (.inl k), some (.inl w), some (.inl s)] _ _
  refine aj_run (C := True) (pc' := 4) (la' := [some (.inr (.inr (some (1, 0)))), some (.inl k), some (.inl w), some (.inl s)]) (st' := [.inl s, .inl w, .inl k, .inr (.inr (some (1, 0)))]) (M' := (P, g, r0, n)) ok_X10_ant true 4 rfl trivial ?_
  refine aj_callV (av := [.inl k, .inl w, .inl s]) (st := []) (f := 1) (o := 0) (ci := 10) cal_X10_setDown lk_10_94 ins_X10_setDown rfl sel_X10_setDown rfl (fun c9 h9 _ => by simpa [ax_ok] using h9) (cp_setDown k w s _ _ _ _ h he hst) ⟨by decide, by decide, by decide, by decide⟩ (Nat.le_of_ble_eq_true rfl) (ax_dec2 (i := .invokevirtual 94) (n := 3) ok_X10_ant rfl) (fun r M' hq => ?_)
  obtain ⟨rfl, P9, g9, r9, n9, rfl, he9⟩ := hq
  change ax_J _ _ _ _ _ _ _ _ _ 7 [some (.inr (.inr (some (1, 0)))), some (.inl k), some (.inl w), some (.inl s)] [.inl ((mAnt h k w s).1)] (P9, g9, r9, n9)
  refine aj_ret (r := some (.inl ((mAnt h k w s).1))) (ax_dec2 (i := .ireturn) (n := 1) ok_X10_ant rfl) ⟨?_, ?_, by decide, by decide⟩ rfl
  · exact ⟨rfl, P9, g9, r9, n9, rfl, he9⟩
  · exact ax_ro_i

set_option maxRecDepth 100000 in
set_option maxHeartbeats 4000000 in
theorem cp_ants (s t x m : Int) (P : Nat → Int → Prop) (g : Nat → Int → Int → Int) (r0 : Nat → Int → Int → Option (Nat × Int)) (n : Nat → Int → Int) (h : Nat → Int → Int → Int) (he : cWe P g r0 n h) (hst : 0 ≤ g 2 0 11 ∧ g 2 0 11 ≤ 90000) : ax_S yX10_ants cX10_ants 9 (some FieldType.int) 6 21 147 [.inr (.inr (some (1, 0))), .inl s, .inl t, .inl x, .inl m] (P, g, r0, n) (fun r M' => r = some (.inl (mAnts h s t x m).1) ∧ ∃ P' g' r' n', M' = (P', g', r', n') ∧ cWe P' g' r' n' (mAnts h s t x m).2 ∧ cGr P g n P' g' n' ∧ g' 2 0 11 ≤ g 2 0 11 + 7) := by
  have hw := he.1
  have hs := cWd_sta hw
  have hT := hw.2.2.1
  have hTp := hw.2.2.2.2.2.2
  have hT2 := hT.2.1
  have hTp2 := hTp.2.1
  have hAs := hs.1.1
  have hPs := hs.1.2.1
  have hOs := hs.1.2.2
  have hP1 := hPs.1
  have hA1 := hAs.1
  have hsz := hOs.2.2.1
  have hxz := hPs.1.1
  have hkk : 2 ≤ g 2 0 2 ∧ g 2 0 2 ≤ 40 := by rw [hP1.2.1]; exact hOs.1
  have hst2 : 0 ≤ g 2 0 11 ∧ g 2 0 11 ≤ 1000000 := by omega
  have hsh := hw.2.2.2.2.1
  refine ax_S_of (own := 10) (by decide) rfl (fun h => absurd h (by decide)) rfl (Nat.le_of_ble_eq_true rfl) ?_
  change ax_J _ _ _ _ _ _ _ _ _ _ [some (.inr (.inr (some (1, 0)))), some (.inl s), some (.inl t), some (.inl x), some (.inl m), none, none, none, none] _ _
  refine aj_run (C := True) (pc' := 1) (la' := [some (.inr (.inr (some (1, 0)))), some (.inl s), some (.inl t), some (.inl x), some (.inl m), none, none, none, none]) (st' := [.inl s]) (M' := (P, g, r0, n)) ok_X10_ants true 1 rfl trivial ?_
  refine aj_callS (av := [.inl s]) (st := []) cal_X10_isSheet lk_10_216 stc_X10_isSheet (cp_isSheet s _ _ _ _) ⟨by decide, by decide, by first | decide | (show _ ≤ 21; omega), by first | decide | (show _ ≤ 147; omega)⟩ (Nat.le_of_ble_eq_true rfl) (ax_dec2 (i := .invokestatic 216) (n := 3) ok_X10_ants rfl) (fun r M' hq => ?_)
  obtain ⟨rfl, rfl⟩ := hq
  change ax_J _ _ _ _ _ _ _ _ _ 4 [some (.inr (.inr (some (1, 0)))), some (.inl s), some (.inl t), some (.inl x), some (.inl m), none, none, none, none] [.inl (bI (0 ≤ s ∧ s ≤ 3))] (P, g, r0, n)
  refine aj_if_eq (tgt := 26) (ax_dec2 (i := .ifCond .eq 22) (n := 3) ok_X10_ants rfl) (by decide) (fun c1 => ?_) (fun c1 => ?_)
  · replace c1 := bI_e0 c1
    refine aj_run (C := True) (pc' := 28) (la' := [some (.inr (.inr (some (1, 0)))), some (.inl s), some (.inl t), some (.inl x), some (.inl m), none, none, none, none]) (st' := [.inl (-2)]) (M' := (P, g, r0, n)) ok_X10_ants true 1 rfl trivial ?_
    refine aj_ret (r := some (.inl (-2))) (ax_dec2 (i := .ireturn) (n := 1) ok_X10_ants rfl) ⟨?_, ?_, by first | decide | omega, by first | decide | omega⟩ rfl
    · first | (exfalso; omega) | exact ⟨ax_si (by unfold mAnts; (repeat first | rw [if_pos (by omega)] | rw [if_neg (by omega)] | rw [bI_t (by omega)] | rw [bI_f (by omega)]); try rfl), P, g, r0, n, rfl, by unfold mAnts; (repeat first | rw [if_pos (by omega)] | rw [if_neg (by omega)] | rw [bI_t (by omega)] | rw [bI_f (by omega)]); exact he, cGr.rf, by omega⟩
    · exact ax_ro_i
  · replace c1 := bI_n0 c1
    refine aj_run (C := True) (pc' := 8) (la' := [some (.inr (.inr (some (1, 0)))), some (.inl s), some (.inl t), some (.inl x), some (.inl m), none, none, none, none]) (st' := [.inl t]) (M' := (P, g, r0, n)) ok_X10_ants true 1 rfl trivial ?_
    refine aj_callS (av := [.inl t]) (st := []) cal_X10_isSort lk_10_267 stc_X10_isSort (cp_isSort t _ _ _ _) ⟨by decide, by decide, by first | decide | (show _ ≤ 21; omega), by first | decide | (show _ ≤ 147; omega)⟩ (Nat.le_of_ble_eq_true rfl) (ax_dec2 (i := .invokestatic 267) (n := 3) ok_X10_ants rfl) (fun r M' hq => ?_)
    obtain ⟨rfl, rfl⟩ := hq
    change ax_J _ _ _ _ _ _ _ _ _ 11 [some (.inr (.inr (some (1, 0)))), some (.inl s), some (.inl t), some (.inl x), some (.inl m), none, none, none, none] [.inl (bI (0 ≤ t ∧ t ≤ 2))] (P, g, r0, n)
    refine aj_if_eq (tgt := 26) (ax_dec2 (i := .ifCond .eq 15) (n := 3) ok_X10_ants rfl) (by decide) (fun c2 => ?_) (fun c2 => ?_)
    · replace c2 := bI_e0 c2
      refine aj_run (C := True) (pc' := 28) (la' := [some (.inr (.inr (some (1, 0)))), some (.inl s), some (.inl t), some (.inl x), some (.inl m), none, none, none, none]) (st' := [.inl (-2)]) (M' := (P, g, r0, n)) ok_X10_ants true 1 rfl trivial ?_
      refine aj_ret (r := some (.inl (-2))) (ax_dec2 (i := .ireturn) (n := 1) ok_X10_ants rfl) ⟨?_, ?_, by first | decide | omega, by first | decide | omega⟩ rfl
      · first | (exfalso; omega) | exact ⟨ax_si (by unfold mAnts; (repeat first | rw [if_pos (by omega)] | rw [if_neg (by omega)] | rw [bI_t (by omega)] | rw [bI_f (by omega)]); try rfl), P, g, r0, n, rfl, by unfold mAnts; (repeat first | rw [if_pos (by omega)] | rw [if_neg (by omega)] | rw [bI_t (by omega)] | rw [bI_f (by omega)]); exact he, cGr.rf, by omega⟩
      · exact ax_ro_i
    · replace c2 := bI_n0 c2
      refine aj_run (C := True) (pc' := 16) (la' := [some (.inr (.inr (some (1, 0)))), some (.inl s), some (.inl t), some (.inl x), some (.inl m), none, none, none, none]) (st' := [.inl m]) (M' := (P, g, r0, n)) ok_X10_ants true 1 rfl trivial ?_
      refine aj_if_lt (tgt := 26) (ax_dec2 (i := .ifCond .lt 10) (n := 3) ok_X10_ants rfl) (by decide) (fun c3 => ?_) (fun c3 => ?_)
      · refine aj_run (C := True) (pc' := 28) (la' := [some (.inr (.inr (some (1, 0)))), some (.inl s), some (.inl t), some (.inl x), some (.inl m), none, none, none, none]) (st' := [.inl (-2)]) (M' := (P, g, r0, n)) ok_X10_ants true 1 rfl trivial ?_
        refine aj_ret (r := some (.inl (-2))) (ax_dec2 (i := .ireturn) (n := 1) ok_X10_ants rfl) ⟨?_, ?_, by first | decide | omega, by first | decide | omega⟩ rfl
        · first | (exfalso; omega) | exact ⟨ax_si (by unfold mAnts; (repeat first | rw [if_pos (by omega)] | rw [if_neg (by omega)] | rw [bI_t (by omega)] | rw [bI_f (by omega)]); try rfl), P, g, r0, n, rfl, by unfold mAnts; (repeat first | rw [if_pos (by omega)] | rw [if_neg (by omega)] | rw [bI_t (by omega)] | rw [bI_f (by omega)]); exact he, cGr.rf, by omega⟩
        · exact ax_ro_i
      · refine aj_run (C := True) (pc' := 23) (la' := [some (.inr (.inr (some (1, 0)))), some (.inl s), some (.inl t), some (.inl x), some (.inl m), none, none, none, none]) (st' := [.inl 7, .inl m]) (M' := (P, g, r0, n)) ok_X10_ants true 2 rfl trivial ?_
        refine aj_icmp_le (tgt := 29) (ax_dec2 (i := .if_icmp .le 6) (n := 3) ok_X10_ants rfl) (by decide) (fun c4 => ?_) (fun c4 => ?_)
        · refine aj_run (C := True) (pc' := 34) (la' := [some (.inr (.inr (some (1, 0)))), some (.inl s), some (.inl t), some (.inl x), some (.inl m), none, none, none, none]) (st' := [.inl s, .inr (.inr (some (703, 0)))]) (M' := (P, g, r0, n)) ok_X10_ants true 3 rfl trivial ?_
          refine aj_aald (f := 703) (g := 4) (o := 0) (i := s) (u := s) (E := "AntsTurn$Sheet") rfl rfl rfl ⟨by omega, by have z9 := hsh.1; show s < n 703 0; omega⟩ (hsh.2 s (by omega) (by omega)).1.1 (hsh.2 s (by omega) (by omega)).1.2 (ax_dec2 (i := .aaload) (n := 1) ok_X10_ants rfl) ?_
          refine aj_run (C := True) (pc' := 37) (la' := [some (.inr (.inr (some (1, 0)))), some (.inl s), some (.inl t), some (.inl x), some (.inl m), some (.inr (.inr (some (4, s)))), none, none, none]) (st' := []) (M' := (P, g, r0, n)) ok_X10_ants true 1 rfl trivial ?_
          obtain ⟨-, q2, q3, q4, -⟩ := hsh.2 s (by omega) (by omega)
          refine aj_run (C := True) (pc' := 39) (la' := [some (.inr (.inr (some (1, 0)))), some (.inl s), some (.inl t), some (.inl x), some (.inl m), some (.inr (.inr (some (4, s)))), none, none, none]) (st' := [.inr (.inr (some (4, s)))]) (M' := (P, g, r0, n)) ok_X10_ants true 1 rfl trivial ?_
          refine aj_callV (av := []) (st := []) (f := 4) (o := s) (ci := 5) cal_X5_isMissing lk_10_219 ins_X5_isMissing rfl sel_X5_isMissing rfl (fun c9 h9 _ => by simpa [ax_ok] using h9) (cp_isMissing s _ _ _ _) ⟨by decide, by decide, by first | decide | (show _ ≤ 21; omega), by first | decide | (show _ ≤ 147; omega)⟩ (Nat.le_of_ble_eq_true rfl) (ax_dec2 (i := .invokevirtual 219) (n := 3) ok_X10_ants rfl) (fun r M' hq => ?_)
          obtain ⟨rfl, rfl⟩ := hq
          change ax_J _ _ _ _ _ _ _ _ _ 42 [some (.inr (.inr (some (1, 0)))), some (.inl s), some (.inl t), some (.inl x), some (.inl m), some (.inr (.inr (some (4, s)))), none, none, none] [.inl (bI (g 4 s 0 = -1))] (P, g, r0, n)
          refine aj_if_eq (tgt := 48) (ax_dec2 (i := .ifCond .eq 6) (n := 3) ok_X10_ants rfl) (by decide) (fun c5 => ?_) (fun c5 => ?_)
          · replace c5 := bI_e0 c5
            refine aj_run (C := True) (pc' := 54) (la' := [some (.inr (.inr (some (1, 0)))), some (.inl s), some (.inl t), some (.inl x), some (.inl m), some (.inr (.inr (some (4, s)))), none, none, none]) (st' := [.inl t, .inl (g 4 s 0)]) (M' := (P, g, r0, n)) ok_X10_ants true 3 rfl trivial ?_
            refine aj_icmp_eq (tgt := 60) (ax_dec2 (i := .if_icmp .eq 6) (n := 3) ok_X10_ants rfl) (by decide) (fun c6 => ?_) (fun c6 => ?_)
            · refine aj_run (C := True) (pc' := 69) (la' := [some (.inr (.inr (some (1, 0)))), some (.inl s), some (.inl t), some (.inl x), some (.inl m), some (.inr (.inr (some (4, s)))), some (.inl 0), some (.inl x), some (.inl 0)]) (st' := []) (M' := (P, g, r0, n)) ok_X10_ants true 6 rfl trivial ?_
              refine aj_kc (kc' := 3 * (0 : Int).toNat) (ks' := 21 * (0 : Int).toNat) rfl rfl ?_
              refine aj_cast (congrArg (fun (z9 : Int) => ([some (.inr (.inr (some (1, 0)))), some (.inl s), some (.inl t), some (.inl x), some (.inl m), some (.inr (.inr (some (4, s)))), some (.inl 0), some (.inl z9), some (.inl 0)] : List (Option ax_V))) (show x = x + 3 * 0 from by omega)) rfl rfl ?_
              refine aj_loopK (fun xL => 3 * xL.1.toNat) (fun xL => 21 * xL.1.toNat) (σ := (Int) × (Int) × (Nat → Int → Prop) × (Nat → Int → Int → Int) × (Nat → Int → Int → Option (Nat × Int)) × (Nat → Int → Int)) (fun xL => 0 ≤ xL.1 ∧ xL.1 ≤ m ∧ (wAn h s x xL.1).1 = 0 ∧ xL.2.1 = (wAn h s x xL.1).2.1 ∧ cWe xL.2.2.1 xL.2.2.2.1 xL.2.2.2.2.1 xL.2.2.2.2.2 (wAn h s x xL.1).2.2 ∧ cGr P g n xL.2.2.1 xL.2.2.2.1 xL.2.2.2.2.2 ∧ xL.2.2.2.1 2 0 11 ≤ g 2 0 11 + xL.1) (fun xL => (m - xL.1).toNat) (fun xL => [some (.inr (.inr (some (1, 0)))), some (.inl s), some (.inl t), some (.inl x), some (.inl m), some (.inr (.inr (some (4, s)))), some (.inl xL.2.1), some (.inl (x + 3 * xL.1)), some (.inl xL.1)]) (fun xL => []) (fun xL => (xL.2.2.1, xL.2.2.2.1, xL.2.2.2.2.1, xL.2.2.2.2.2)) ?_ (0, 0, P, g, r0, n) ?_
              rotate_left
              · (try dsimp only); exact ⟨by omega, by omega, rfl, rfl, he, cGr.rf, by omega⟩
              rintro ⟨k, c, P1, g1, r1, n1⟩ hI ih69
              try dsimp only at hI ih69
              obtain ⟨i1, i2, i0, i3, i4, i5, i6⟩ := hI
              change ax_J _ _ _ _ _ _ _ _ _ 69 [some (.inr (.inr (some (1, 0)))), some (.inl s), some (.inl t), some (.inl x), some (.inl m), some (.inr (.inr (some (4, s)))), some (.inl c), some (.inl (x + 3 * k)), some (.inl k)] [] (P1, g1, r1, n1)
              have he1 := i4
              have hw1 := he1.1
              obtain ⟨H1, hH1⟩ : ∃ H1, H1 = (wAn h s x k).2.2 := ⟨_, rfl⟩
              rw [← hH1] at he1 hw1
              have hin := wAn_in (g := h) (s := s) (x := x) hsz i1
              rw [← hH1] at hin
              have hfm : ∀ f, f ≠ 50 → (f < 103 ∨ 107 < f) → H1 f = h f := hin.2.2.2.2
              obtain ⟨y1, y2, y3, y4, y5⟩ := hw1.2.2.2.2.1.2 s (by omega) (by omega)
              rw [hfm 155 (by decide) (by decide), hfm 156 (by decide) (by decide)] at y3 y4
              have hcl : ∀ q, 0 ≤ q → q < 40 → g1 402 s q = h 157 0 (40 * s + q) := fun q z1 z2 => by rw [y5 q z1 z2, hfm 157 (by decide) (by decide)]
              have hb1 : r1 1 0 0 = some (2, 0) ∧ P1 2 0 := (cWd_sta hw1).2.2.2
              have hst1 : 0 ≤ g1 2 0 11 ∧ g1 2 0 11 ≤ 100000 := ⟨by have := hw1.2.2.2.1.2.1; omega, by omega⟩
              refine aj_run (C := True) (pc' := 73) (la' := [some (.inr (.inr (some (1, 0)))), some (.inl s), some (.inl t), some (.inl x), some (.inl m), some (.inr (.inr (some (4, s)))), some (.inl c), some (.inl (x + 3 * k)), some (.inl k)]) (st' := [.inl m, .inl k]) (M' := (P1, g1, r1, n1)) ok_X10_ants true 2 rfl trivial ?_
              refine aj_icmp_ge (tgt := 137) (ax_dec2 (i := .if_icmp .ge 64) (n := 3) ok_X10_ants rfl) (by decide) (fun c7 => ?_) (fun c7 => ?_)
              · refine aj_run (C := True) (pc' := 139) (la' := [some (.inr (.inr (some (1, 0)))), some (.inl s), some (.inl t), some (.inl x), some (.inl m), some (.inr (.inr (some (4, s)))), some (.inl c), some (.inl (x + 3 * k)), some (.inl k)]) (st' := [.inl c]) (M' := (P1, g1, r1, n1)) ok_X10_ants true 1 rfl trivial ?_
                refine aj_ret (r := some (.inl c)) (ax_dec2 (i := .ireturn) (n := 1) ok_X10_ants rfl) ⟨?_, ?_, by first | decide | omega, by first | decide | omega⟩ rfl
                · (have hkm : k = m := (by omega); subst hkm; exact ⟨ax_si (by unfold mAnts; rw [if_pos (by omega), if_neg (by omega), if_neg (by omega), if_neg (by omega)]; exact i3), P1, g1, r1, n1, rfl, by unfold mAnts; rw [if_pos (by omega), if_neg (by omega), if_neg (by omega)]; exact i4, i5, by omega⟩)
                · exact ax_ro_i
              · refine aj_run (C := True) (pc' := 81) (la' := [some (.inr (.inr (some (1, 0)))), some (.inl s), some (.inl t), some (.inl x), some (.inl m), some (.inr (.inr (some (4, s)))), some (.inl c), some (.inl (x + 3 * k)), some (.inl k)]) (st' := [.inl 3, .inl (x + 3 * k), .inr (.inr (some (4, s)))]) (M' := (P1, g1, r1, n1)) ok_X10_ants true 3 rfl trivial ?_
                refine aj_callV (av := [.inl (x + 3 * k), .inl 3]) (st := []) (f := 4) (o := s) (ci := 5) cal_X5_has lk_10_280 ins_X5_has rfl sel_X5_has rfl (fun c9 h9 _ => by simpa [ax_ok] using h9) (cp_has s (x + 3 * k) 3 _ _ _ _ (by omega)) ⟨by decide, by decide, by first | decide | (show _ ≤ 21; omega), by first | decide | (show _ ≤ 147; omega)⟩ (Nat.le_of_ble_eq_true rfl) (ax_dec2 (i := .invokevirtual 280) (n := 3) ok_X10_ants rfl) (fun r M' hq => ?_)
                obtain ⟨rfl, rfl⟩ := hq
                change ax_J _ _ _ _ _ _ _ _ _ 84 [some (.inr (.inr (some (1, 0)))), some (.inl s), some (.inl t), some (.inl x), some (.inl m), some (.inr (.inr (some (4, s)))), some (.inl c), some (.inl (x + 3 * k)), some (.inl k)] [.inl (bI ((0 ≤ (x + 3 * k) ∧ 0 ≤ 3) ∧ (x + 3 * k) ≤ g1 4 s 1 ∧ 3 ≤ g1 4 s 1 - (x + 3 * k)))] (P1, g1, r1, n1)
                refine aj_if_ne (tgt := 90) (ax_dec2 (i := .ifCond .ne 6) (n := 3) ok_X10_ants rfl) (by decide) (fun c8 => ?_) (fun c8 => ?_)
                · replace c8 := bI_n0 c8
                  have eA := hcl (x + 3 * k) (by omega) (by omega)
                  have eB := hcl (x + 3 * k + 1) (by omega) (by omega)
                  have eC := hcl (x + 3 * k + 2) (by omega) (by omega)
                  have hs9 : wAn h s x (k + 1) = (0, c + bI (0 ≤ (mAnt H1 (g1 402 s (x + 3 * k)) (g1 402 s (x + 3 * k + 1)) (g1 402 s (x + 3 * k + 2))).1), (mAnt H1 (g1 402 s (x + 3 * k)) (g1 402 s (x + 3 * k + 1)) (g1 402 s (x + 3 * k + 2))).2) := by
                      rw [wAn_s i1, if_neg (by omega), if_pos (by omega), eA, eB, eC, i3, hH1]
                      rw [show 40 * s + (x + 3 * k + 1) = 40 * s + (x + 3 * k) + 1 by omega, show 40 * s + (x + 3 * k + 2) = 40 * s + (x + 3 * k) + 2 by omega]
                  refine aj_run (C := (0 ≤ x + 3 * k ∧ x + 3 * k < n1 402 s) ∧ (-2147483648 ≤ (x + 3 * k) + 1 ∧ (x + 3 * k) + 1 ≤ 2147483647) ∧ (0 ≤ (x + 3 * k) + 1 ∧ (x + 3 * k) + 1 < n1 402 s) ∧ (-2147483648 ≤ (x + 3 * k) + 2 ∧ (x + 3 * k) + 2 ≤ 2147483647) ∧ (0 ≤ (x + 3 * k) + 2 ∧ (x + 3 * k) + 2 < n1 402 s) ∧ True) (pc' := 119) (la' := [some (.inr (.inr (some (1, 0)))), some (.inl s), some (.inl t), some (.inl x), some (.inl m), some (.inr (.inr (some (4, s)))), some (.inl c), some (.inl (x + 3 * k)), some (.inl k)]) (st' := [.inl (g1 402 s ((x + 3 * k) + 2)), .inl (g1 402 s ((x + 3 * k) + 1)), .inl (g1 402 s (x + 3 * k)), .inr (.inr (some (1, 0)))]) (M' := (P1, g1, r1, n1)) ok_X10_ants true 17 rfl (by refine ⟨?_, ?_, ?_, ?_, ?_, trivial⟩ <;> (omega)) ?_
                  refine aj_callV (av := [.inl (g1 402 s (x + 3 * k)), .inl (g1 402 s ((x + 3 * k) + 1)), .inl (g1 402 s ((x + 3 * k) + 2))]) (st := []) (f := 1) (o := 0) (ci := 10) cal_X10_setDown lk_10_94 ins_X10_setDown rfl sel_X10_setDown rfl (fun c9 h9 _ => by simpa [ax_ok] using h9) (cp_setDown (g1 402 s (x + 3 * k)) (g1 402 s ((x + 3 * k) + 1)) (g1 402 s ((x + 3 * k) + 2)) P1 g1 r1 n1 H1 he1 hst1) ⟨by decide, by decide, by first | decide | (show _ ≤ 21; omega), by first | decide | (show _ ≤ 147; omega)⟩ (Nat.le_of_ble_eq_true rfl) (ax_dec2 (i := .invokevirtual 94) (n := 3) ok_X10_ants rfl) (fun r M' hq => ?_)
                  obtain ⟨rfl, P9, g9, r9, n9, rfl, he9, gr9, st9⟩ := hq
                  change ax_J _ _ _ _ _ _ _ _ _ 122 [some (.inr (.inr (some (1, 0)))), some (.inl s), some (.inl t), some (.inl x), some (.inl m), some (.inr (.inr (some (4, s)))), some (.inl c), some (.inl (x + 3 * k)), some (.inl k)] [.inl ((mAnt H1 (g1 402 s (x + 3 * k)) (g1 402 s (x + 3 * k + 1)) (g1 402 s (x + 3 * k + 2))).1)] (P9, g9, r9, n9)
                  refine aj_if_lt (tgt := 128) (ax_dec2 (i := .ifCond .lt 6) (n := 3) ok_X10_ants rfl) (by decide) (fun c9 => ?_) (fun c9 => ?_)
                  · refine aj_run (C := (-2147483648 ≤ (x + 3 * k) + 3 ∧ (x + 3 * k) + 3 ≤ 2147483647) ∧ (-2147483648 ≤ k + 1 ∧ k + 1 ≤ 2147483647) ∧ True) (pc' := 69) (la' := [some (.inr (.inr (some (1, 0)))), some (.inl s), some (.inl t), some (.inl x), some (.inl m), some (.inr (.inr (some (4, s)))), some (.inl c), some (.inl ((x + 3 * k) + 3)), some (.inl (k + 1))]) (st' := []) (M' := (P9, g9, r9, n9)) ok_X10_ants true 3 rfl (by refine ⟨?_, ?_, trivial⟩ <;> (omega)) ?_
                    refine aj_kc (kc' := 3 * (k + 1).toNat) (ks' := 21 * (k + 1).toNat) (by omega) (by omega) ?_
                    refine aj_cast (congrArg (fun (z9 : Int) => ([some (.inr (.inr (some (1, 0)))), some (.inl s), some (.inl t), some (.inl x), some (.inl m), some (.inr (.inr (some (4, s)))), some (.inl c), some (.inl z9), some (.inl (k + 1))] : List (Option ax_V))) (show ((x + 3 * k) + 3) = x + 3 * (k + 1) from by omega)) rfl rfl ?_
                    refine ih69 (k + 1, c, P9, g9, r9, n9) ?_ ?_
                    · (try dsimp only); exact ⟨by omega, by omega, by rw [hs9], by rw [hs9]; show _ = c + bI _; (first | rw [bI_t (by omega)] | rw [bI_f (by omega)]) <;> omega, by rw [hs9]; exact he9, i5.tr gr9, by omega⟩
                    · omega
                  · refine aj_run (C := (-2147483648 ≤ c + 1 ∧ c + 1 ≤ 2147483647) ∧ (-2147483648 ≤ (x + 3 * k) + 3 ∧ (x + 3 * k) + 3 ≤ 2147483647) ∧ (-2147483648 ≤ k + 1 ∧ k + 1 ≤ 2147483647) ∧ True) (pc' := 69) (la' := [some (.inr (.inr (some (1, 0)))), some (.inl s), some (.inl t), some (.inl x), some (.inl m), some (.inr (.inr (some (4, s)))), some (.inl (c + 1)), some (.inl ((x + 3 * k) + 3)), some (.inl (k + 1))]) (st' := []) (M' := (P9, g9, r9, n9)) ok_X10_ants true 4 rfl (by refine ⟨?_, ?_, ?_, trivial⟩ <;> (omega)) ?_
                    refine aj_kc (kc' := 3 * (k + 1).toNat) (ks' := 21 * (k + 1).toNat) (by omega) (by omega) ?_
                    refine aj_cast (congrArg (fun (z9 : Int) => ([some (.inr (.inr (some (1, 0)))), some (.inl s), some (.inl t), some (.inl x), some (.inl m), some (.inr (.inr (some (4, s)))), some (.inl (c + 1)), some (.inl z9), some (.inl (k + 1))] : List (Option ax_V))) (show ((x + 3 * k) + 3) = x + 3 * (k + 1) from by omega)) rfl rfl ?_
                    refine ih69 (k + 1, c + 1, P9, g9, r9, n9) ?_ ?_
                    · (try dsimp only); exact ⟨by omega, by omega, by rw [hs9], by rw [hs9]; show _ = c + bI _; (first | rw [bI_t (by omega)] | rw [bI_f (by omega)]) <;> omega, by rw [hs9]; exact he9, i5.tr gr9, by omega⟩
                    · omega
                · replace c8 := bI_e0 c8
                  refine aj_run (C := True) (pc' := 89) (la' := [some (.inr (.inr (some (1, 0)))), some (.inl s), some (.inl t), some (.inl x), some (.inl m), some (.inr (.inr (some (4, s)))), some (.inl c), some (.inl (x + 3 * k)), some (.inl k)]) (st' := [.inl (-12)]) (M' := (P1, g1, r1, n1)) ok_X10_ants true 1 rfl trivial ?_
                  refine aj_ret (r := some (.inl (-12))) (ax_dec2 (i := .ireturn) (n := 1) ok_X10_ants rfl) ⟨?_, ?_, by first | decide | omega, by first | decide | omega⟩ rfl
                  · (have ho9 : wAn h s x (k + 1) = (1, (wAn h s x k).2) := (by rw [wAn_s i1, if_neg (by omega), if_neg (by omega)]); have hz9 := wAn_st (g := h) (s := s) (x := x) (k := k + 1) (by omega) (by rw [ho9]; show (1 : Int) ≠ 0; decide) (m - (k + 1)).toNat; rw [show k + 1 + (((m - (k + 1)).toNat : Nat) : Int) = m by omega, ho9] at hz9; exact ⟨ax_si (by unfold mAnts; rw [if_pos (by omega), if_neg (by omega), if_neg (by omega), hz9]; rfl), P1, g1, r1, n1, rfl, by unfold mAnts; rw [if_pos (by omega), if_neg (by omega), if_neg (by omega), hz9]; exact i4, i5, by omega⟩)
                  · exact ax_ro_i
            · refine aj_run (C := True) (pc' := 59) (la' := [some (.inr (.inr (some (1, 0)))), some (.inl s), some (.inl t), some (.inl x), some (.inl m), some (.inr (.inr (some (4, s)))), none, none, none]) (st' := [.inl (-13)]) (M' := (P, g, r0, n)) ok_X10_ants true 1 rfl trivial ?_
              refine aj_ret (r := some (.inl (-13))) (ax_dec2 (i := .ireturn) (n := 1) ok_X10_ants rfl) ⟨?_, ?_, by first | decide | omega, by first | decide | omega⟩ rfl
              · first | (exfalso; omega) | exact ⟨ax_si (by unfold mAnts; (repeat first | rw [if_pos (by omega)] | rw [if_neg (by omega)] | rw [bI_t (by omega)] | rw [bI_f (by omega)]); try rfl), P, g, r0, n, rfl, by unfold mAnts; (repeat first | rw [if_pos (by omega)] | rw [if_neg (by omega)] | rw [bI_t (by omega)] | rw [bI_f (by omega)]); exact he, cGr.rf, by omega⟩
              · exact ax_ro_i
          · replace c5 := bI_n0 c5
            refine aj_run (C := True) (pc' := 47) (la' := [some (.inr (.inr (some (1, 0)))), some (.inl s), some (.inl t), some (.inl x), some (.inl m), some (.inr (.inr (some (4, s)))), none, none, none]) (st' := [.inl (-11)]) (M' := (P, g, r0, n)) ok_X10_ants true 1 rfl trivial ?_
            refine aj_ret (r := some (.inl (-11))) (ax_dec2 (i := .ireturn) (n := 1) ok_X10_ants rfl) ⟨?_, ?_, by first | decide | omega, by first | decide | omega⟩ rfl
            · first | (exfalso; omega) | exact ⟨ax_si (by unfold mAnts; (repeat first | rw [if_pos (by omega)] | rw [if_neg (by omega)] | rw [bI_t (by omega)] | rw [bI_f (by omega)]); try rfl), P, g, r0, n, rfl, by unfold mAnts; (repeat first | rw [if_pos (by omega)] | rw [if_neg (by omega)] | rw [bI_t (by omega)] | rw [bI_f (by omega)]); exact he, cGr.rf, by omega⟩
            · exact ax_ro_i
        · refine aj_run (C := True) (pc' := 28) (la' := [some (.inr (.inr (some (1, 0)))), some (.inl s), some (.inl t), some (.inl x), some (.inl m), none, none, none, none]) (st' := [.inl (-2)]) (M' := (P, g, r0, n)) ok_X10_ants true 1 rfl trivial ?_
          refine aj_ret (r := some (.inl (-2))) (ax_dec2 (i := .ireturn) (n := 1) ok_X10_ants rfl) ⟨?_, ?_, by first | decide | omega, by first | decide | omega⟩ rfl
          · first | (exfalso; omega) | exact ⟨ax_si (by unfold mAnts; (repeat first | rw [if_pos (by omega)] | rw [if_neg (by omega)] | rw [bI_t (by omega)] | rw [bI_f (by omega)]); try rfl), P, g, r0, n, rfl, by unfold mAnts; (repeat first | rw [if_pos (by omega)] | rw [if_neg (by omega)] | rw [bI_t (by omega)] | rw [bI_f (by omega)]); exact he, cGr.rf, by omega⟩
          · exact ax_ro_i

