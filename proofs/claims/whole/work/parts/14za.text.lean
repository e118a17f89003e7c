/-! ===== a text of the reference ===== -/
def TA (x : Int) : Nat → Int → Int → Prop := fun f o j => TN f o j ∨ (f = 50 ∧ o = 0 ∧ 20 < j ∧ j < 27) ∨ (f = 120 ∧ o = 0) ∨ (f = 124 ∧ o = 0) ∨ (f = 112 ∧ o = 0 ∧ 480 * x ≤ j ∧ j < 480 * x + 480) ∨ (f = 113 ∧ o = 0 ∧ 3 * x ≤ j ∧ j < 3 * x + 3)
theorem rSZ_e {T V p : Int → Int} {N : Int} (h : (rSk T V p N 3).2.2 = -1) : (T (rSk T V p N 3).1 = 0 → (rSZ T V p N).2.2 = -1) ∧ (T (rSk T V p N 3).1 ≠ 0 → (rSZ T V p N).2.2 = p (rSk T V p N 3).1) := by
  have e : rSk T V p N 3 = rS3 T V p N := rfl
  rw [e] at h ⊢
  unfold rSZ
  refine ⟨fun z => by rw [if_pos z]; exact h, fun z => ?_⟩
  rw [if_neg z]
  unfold rRef
  rw [if_pos h]
theorem TR_TA {x q : Int} {f : Nat} {o j : Int} (hq : 0 ≤ q ∧ q < 3) (h : ¬ TA x f o j) : ¬ TR (3 * x + q) f o j := fun z => h (by unfold TA; unfold TR TN TY at z; unfold TN; omega)
set_option maxRecDepth 100000 in
set_option maxHeartbeats 4000000 in
theorem sp_readAll (x : Int) (P : Nat → Int → Prop) (g : Nat → Int → Int → Int) (r0 : Nat → Int → Int → Option (Nat × Int)) (n : Nat → Int → Int) (hn : mLen n) (hx : 0 ≤ x ∧ x < 6) (ht : 0 ≤ g 50 0 9 ∧ g 50 0 9 ≤ 160) (hl : mLtr g) : ax_S yX11_readAll cX11_readAll 3 (some FieldType.int) 4 0 0 [.inr (.inr (some (50, 0))), .inl x] (P, g, r0, n) (fun r M' => r = some (.inl (rSZ (tT (g 108 0) (g 50 0 9)) (tV (g 108 0) (g 50 0 9)) (tkP (g 108 0) (g 50 0 9)) (tkN (g 108 0) (g 50 0 9))).2.2) ∧ (-1 ≤ (rSZ (tT (g 108 0) (g 50 0 9)) (tV (g 108 0) (g 50 0 9)) (tkP (g 108 0) (g 50 0 9)) (tkN (g 108 0) (g 50 0 9))).2.2 ∧ (rSZ (tT (g 108 0) (g 50 0 9)) (tV (g 108 0) (g 50 0 9)) (tkP (g 108 0) (g 50 0 9)) (tkN (g 108 0) (g 50 0 9))).2.2 ≤ 160) ∧ ∃ g', M' = (P, g', r0, n) ∧ cFr (TA x) g' g ∧ ((rSZ (tT (g 108 0) (g 50 0 9)) (tV (g 108 0) (g 50 0 9)) (tkP (g 108 0) (g 50 0 9)) (tkN (g 108 0) (g 50 0 9))).2.2 = -1 → ∀ q, 0 ≤ q → q < 3 → yPd g' (tT (g 108 0) (g 50 0 9)) (tV (g 108 0) (g 50 0 9)) (tkP (g 108 0) (g 50 0 9)) (tkN (g 108 0) (g 50 0 9)) (3 * x) q)) := by
  refine ax_S_of (own := 11) (by decide) rfl (fun h => absurd h (by decide)) rfl (Nat.le_of_ble_eq_true rfl) ?_
  change ax_J _ _ _ _ _ _ _ _ _ _ [some (.inr (.inr (some (50, 0)))), some (.inl x), none] _ _
  refine aj_run (C := True) (pc' := 7) (la' := [some (.inr (.inr (some (50, 0)))), some (.inl x), some (.inl 0)]) (st' := []) (M' := (P, ax_u3 g 50 0 14 0, r0, n)) ok_X11_readAll true 5 rfl trivial ?_
  refine aj_loop (σ := (Int) × (Nat → Int → Int → Int)) (fun xL => cFr (TA x) xL.2 g ∧ (0 ≤ xL.1 ∧ xL.1 ≤ 3) ∧ (rSk (tT (g 108 0) (g 50 0 9)) (tV (g 108 0) (g 50 0 9)) (tkP (g 108 0) (g 50 0 9)) (tkN (g 108 0) (g 50 0 9)) xL.1).2.2 = -1 ∧ (0 ≤ (rSk (tT (g 108 0) (g 50 0 9)) (tV (g 108 0) (g 50 0 9)) (tkP (g 108 0) (g 50 0 9)) (tkN (g 108 0) (g 50 0 9)) xL.1).1 ∧ (rSk (tT (g 108 0) (g 50 0 9)) (tV (g 108 0) (g 50 0 9)) (tkP (g 108 0) (g 50 0 9)) (tkN (g 108 0) (g 50 0 9)) xL.1).1 ≤ (tkN (g 108 0) (g 50 0 9)) ∧ ((rSk (tT (g 108 0) (g 50 0 9)) (tV (g 108 0) (g 50 0 9)) (tkP (g 108 0) (g 50 0 9)) (tkN (g 108 0) (g 50 0 9)) xL.1).2.1.length : Int) ≤ (rSk (tT (g 108 0) (g 50 0 9)) (tV (g 108 0) (g 50 0 9)) (tkP (g 108 0) (g 50 0 9)) (tkN (g 108 0) (g 50 0 9)) xL.1).1) ∧ yAt xL.2 (g 108 0) (g 50 0 9) (rSk (tT (g 108 0) (g 50 0 9)) (tV (g 108 0) (g 50 0 9)) (tkP (g 108 0) (g 50 0 9)) (tkN (g 108 0) (g 50 0 9)) xL.1).1 ∧ ∀ k, 0 ≤ k → k < xL.1 → yPd xL.2 (tT (g 108 0) (g 50 0 9)) (tV (g 108 0) (g 50 0 9)) (tkP (g 108 0) (g 50 0 9)) (tkN (g 108 0) (g 50 0 9)) (3 * x) k ∧ ((rSk (tT (g 108 0) (g 50 0 9)) (tV (g 108 0) (g 50 0 9)) (tkP (g 108 0) (g 50 0 9)) (tkN (g 108 0) (g 50 0 9)) (k + 1)).2.1.length : Int) ≤ 160) (fun xL => (3 - xL.1).toNat) (fun xL => [some (.inr (.inr (some (50, 0)))), some (.inl x), some (.inl xL.1)]) (fun xL => []) (fun xL => (P, xL.2, r0, n)) ?_ (0, ax_u3 g 50 0 14 0) ?_
  rotate_left
  · (try dsimp only); exact ⟨fun f o j z => ax_u3_n (fun y => z (Or.inl (by unfold TN; omega))), ⟨by decide, by decide⟩, rfl, ⟨Int.le_refl 0, (tkN_in ht.1).1.1, Int.le_refl 0⟩, ⟨by rw [ax_u3_s]; decide, by rw [ax_u3_s]; exact ht.1, by rw [ax_u3_s]; rfl⟩, fun k z1 z2 => by omega⟩
  rintro ⟨q, g1⟩ hI ih7
  try dsimp only at hI ih7
  obtain ⟨a1, a2, a3, a4, a5, a6⟩ := hI
  change ax_J _ _ _ _ _ _ _ _ _ 7 [some (.inr (.inr (some (50, 0)))), some (.inl x), some (.inl q)] [] (P, g1, r0, n)
  have b108 : g1 108 0 = g 108 0 := funext fun q => a1 108 0 q (by unfold TA TN; omega)
  have b9 : g1 50 0 9 = g 50 0 9 := a1 50 0 9 (by unfold TA TN; omega)
  have hl1 : mLtr g1 := mLtr_fr (fun f hf j => a1 f 0 j (by unfold TA TN; omega)) hl
  have hiN := tkN_in (B := (g 108 0)) (m := (g 50 0 9)) ht.1
  have hT0 := tT_N (B := (g 108 0)) (m := (g 50 0 9)) ht.1
  obtain ⟨ps, hps⟩ : ∃ ps, ps = (rSk (tT (g 108 0) (g 50 0 9)) (tV (g 108 0) (g 50 0 9)) (tkP (g 108 0) (g 50 0 9)) (tkN (g 108 0) (g 50 0 9)) q).1 := ⟨_, rfl⟩
  obtain ⟨t, ht0⟩ : ∃ t, t = tT (g 108 0) (g 50 0 9) ps := ⟨_, rfl⟩
  obtain ⟨v, hv0⟩ : ∃ v, v = tV (g 108 0) (g 50 0 9) ps := ⟨_, rfl⟩
  refine aj_run (C := True) (pc' := 9) (la' := [some (.inr (.inr (some (50, 0)))), some (.inl x), some (.inl q)]) (st' := [.inl 3, .inl q]) (M' := (P, g1, r0, n)) ok_X11_readAll true 2 rfl trivial ?_
  refine aj_icmp_ge (tgt := 56) (ax_dec2 (i := .if_icmp .ge 47) (n := 3) ok_X11_readAll rfl) (by decide) (fun c1 => ?_) (fun c1 => ?_)
  · have hq3 : q = 3 := by omega
    obtain ⟨ze1, ze2⟩ := rSZ_e (by rw [← hq3]; exact a3)
    rw [← hq3, ← hps, ← ht0] at ze1 ze2
    rw [← hps] at a4 a5
    refine aj_run (C := True) (pc' := 57) (la' := [some (.inr (.inr (some (50, 0)))), some (.inl x), some (.inl q)]) (st' := [.inr (.inr (some (50, 0)))]) (M' := (P, g1, r0, n)) ok_X11_readAll true 1 rfl trivial ?_
    refine aj_callV (av := []) (st := []) (f := 50) (o := 0) (ci := 11) cal_X11_next lk_11_141 ins_X11_next rfl sel_X11_next rfl (fun c9 h9 _ => by simpa [ax_ok] using h9) (sp_next ps _ _ _ _ hn (by rw [b9]; exact ht) hl1 (by omega) (by rw [b108, b9]; exact a5)) ⟨by decide, by decide, by decide, by decide⟩ (Nat.le_of_ble_eq_true rfl) (ax_dec2 (i := .invokevirtual 141) (n := 3) ok_X11_readAll rfl) (fun r M' hq => ?_)
    obtain ⟨rfl, g2, rfl, fr2, hx2⟩ := hq
    rw [b108, b9] at hx2
    have d108 : g2 108 0 = g 108 0 := (funext fun q => fr2 108 0 q (by unfold TN; omega)).trans b108
    have d9 : g2 50 0 9 = g 50 0 9 := (fr2 50 0 9 (by unfold TN; omega)).trans b9
    have hl2 : mLtr g2 := mLtr_fr (fun f hf j => fr2 f 0 j (by unfold TN; omega)) hl1
    have hk : yTo g2 t v := by rw [ht0, hv0]; exact ⟨hx2.2.2, tT_v⟩
    have hk0 := (yT_15 hk).2.2.2.1
    change ax_J _ _ _ _ _ _ _ _ _ 60 [some (.inr (.inr (some (50, 0)))), some (.inl x), some (.inl q)] [] (P, g2, r0, n)
    refine aj_run (C := True) (pc' := 65) (la' := [some (.inr (.inr (some (50, 0)))), some (.inl x), some (.inl q)]) (st' := [.inl 5, .inl (g2 50 0 15)]) (M' := (P, g2, r0, n)) ok_X11_readAll true 3 rfl trivial ?_
    refine aj_icmp_ne (tgt := 72) (ax_dec2 (i := .if_icmp .ne 7) (n := 3) ok_X11_readAll rfl) (by decide) (fun c2 => ?_) (fun c2 => ?_)
    · refine aj_run (C := True) (pc' := 76) (la' := [some (.inr (.inr (some (50, 0)))), some (.inl x), some (.inl q)]) (st' := [.inl (g2 50 0 17)]) (M' := (P, g2, r0, n)) ok_X11_readAll true 2 rfl trivial ?_
      refine aj_ret (r := some (.inl (g2 50 0 17))) (ax_dec2 (i := .ireturn) (n := 1) ok_X11_readAll rfl) ⟨?_, ?_, by decide, by decide⟩ rfl
      · (have htz := (tkP_i (B := (g 108 0)) (m := (g 50 0 9)) (j := ps) ht.1).1; have ze2 := ze2 (by omega); exact ⟨by rw [hx2.1, ze2], by omega, g2, rfl, fun f o j z => (fr2 f o j (fun y => z (Or.inl y))).trans (a1 f o j z), fun z => absurd (ze2.symm.trans z) (tkP_ne ht.1 _)⟩)
      · exact trivial
    · refine aj_run (C := True) (pc' := 76) (la' := [some (.inr (.inr (some (50, 0)))), some (.inl x), some (.inl q)]) (st' := [.inl (-1)]) (M' := (P, g2, r0, n)) ok_X11_readAll true 2 rfl trivial ?_
      refine aj_ret (r := some (.inl (-1))) (ax_dec2 (i := .ireturn) (n := 1) ok_X11_readAll rfl) ⟨?_, ?_, by decide, by decide⟩ rfl
      · (have ze1 := ze1 (by omega); exact ⟨by rw [ze1], by omega, g2, rfl, fun f o j z => (fr2 f o j (fun y => z (Or.inl y))).trans (a1 f o j z), fun _ k z1 z2 => (by obtain ⟨u1, u2⟩ := a6 k z1 (by omega); exact yPd_fr u2 (fr2 113 0 _ (by unfold TN; omega)) (fun j y1 y2 => fr2 112 0 _ (by unfold TN; omega)) u1)⟩)
      · exact trivial
  · obtain ⟨pq1, pq2⟩ := yPq hT0 (by omega) (tkP_ne ht.1) (tV_ok (B := (g 108 0)) (m := (g 50 0 9))) a2.1 (by omega) a3 a4
    rw [← hps] at pq1 pq2 a4 a5
    rw [← ht0] at pq1 pq2
    refine aj_run (C := True) (pc' := 13) (la' := [some (.inr (.inr (some (50, 0)))), some (.inl x), some (.inl q)]) (st' := [.inr (.inr (some (50, 0)))]) (M' := (P, g1, r0, n)) ok_X11_readAll true 1 rfl trivial ?_
    refine aj_callV (av := []) (st := []) (f := 50) (o := 0) (ci := 11) cal_X11_next lk_11_141 ins_X11_next rfl sel_X11_next rfl (fun c9 h9 _ => by simpa [ax_ok] using h9) (sp_next ps _ _ _ _ hn (by rw [b9]; exact ht) hl1 (by omega) (by rw [b108, b9]; exact a5)) ⟨by decide, by decide, by decide, by decide⟩ (Nat.le_of_ble_eq_true rfl) (ax_dec2 (i := .invokevirtual 141) (n := 3) ok_X11_readAll rfl) (fun r M' hq => ?_)
    obtain ⟨rfl, g2, rfl, fr2, hx2⟩ := hq
    rw [b108, b9] at hx2
    have d108 : g2 108 0 = g 108 0 := (funext fun q => fr2 108 0 q (by unfold TN; omega)).trans b108
    have d9 : g2 50 0 9 = g 50 0 9 := (fr2 50 0 9 (by unfold TN; omega)).trans b9
    have hl2 : mLtr g2 := mLtr_fr (fun f hf j => fr2 f 0 j (by unfold TN; omega)) hl1
    have hk : yTo g2 t v := by rw [ht0, hv0]; exact ⟨hx2.2.2, tT_v⟩
    have hk0 := (yT_15 hk).2.2.2.1
    change ax_J _ _ _ _ _ _ _ _ _ 16 [some (.inr (.inr (some (50, 0)))), some (.inl x), some (.inl q)] [] (P, g2, r0, n)
    refine aj_run (C := True) (pc' := 18) (la' := [some (.inr (.inr (some (50, 0)))), some (.inl x), some (.inl q)]) (st' := [.inl q, .inr (.inr (some (50, 0)))]) (M' := (P, g2, r0, n)) ok_X11_readAll true 2 rfl trivial ?_
    refine aj_callV (av := [.inl q]) (st := []) (f := 50) (o := 0) (ci := 11) cal_X11_isKey lk_11_111 ins_X11_isKey rfl sel_X11_isKey rfl (fun c9 h9 _ => by simpa [ax_ok] using h9) (sp_isKey q _ _ _ _) ⟨by decide, by decide, by decide, by decide⟩ (Nat.le_of_ble_eq_true rfl) (ax_dec2 (i := .invokevirtual 111) (n := 3) ok_X11_readAll rfl) (fun r M' hq => ?_)
    obtain ⟨rfl, rfl⟩ := hq
    change ax_J _ _ _ _ _ _ _ _ _ 21 [some (.inr (.inr (some (50, 0)))), some (.inl x), some (.inl q)] [.inl (bI (g2 50 0 15 = 3 ∧ g2 50 0 16 = q))] (P, g2, r0, n)
    rw [yT_ky (h := g2) hk (by omega)]
    change ax_J _ _ _ _ _ _ _ _ _ 21 [some (.inr (.inr (some (50, 0)))), some (.inl x), some (.inl q)] [.inl (bI (t = q + 5))] (P, g2, r0, n)
    refine aj_if_ne (tgt := 29) (ax_dec2 (i := .ifCond .ne 8) (n := 3) ok_X11_readAll rfl) (by decide) (fun c3 => ?_) (fun c3 => ?_)
    · replace c3 := bI_n0 c3
      obtain ⟨hp1, pq3⟩ := pq2 (by omega)
      refine aj_run (C := True) (pc' := 30) (la' := [some (.inr (.inr (some (50, 0)))), some (.inl x), some (.inl q)]) (st' := [.inr (.inr (some (50, 0)))]) (M' := (P, g2, r0, n)) ok_X11_readAll true 1 rfl trivial ?_
      refine aj_callV (av := []) (st := []) (f := 50) (o := 0) (ci := 11) cal_X11_next lk_11_141 ins_X11_next rfl sel_X11_next rfl (fun c9 h9 _ => by simpa [ax_ok] using h9) (sp_next (ps + 1) _ _ _ _ hn (by rw [d9]; exact ht) hl2 (by omega) (by rw [d108, d9]; exact hx2.2.1)) ⟨by decide, by decide, by decide, by decide⟩ (Nat.le_of_ble_eq_true rfl) (ax_dec2 (i := .invokevirtual 141) (n := 3) ok_X11_readAll rfl) (fun r M' hq => ?_)
      obtain ⟨rfl, g3, rfl, fr3, hx3⟩ := hq
      rw [d108, d9] at hx3
      have e108 : g3 108 0 = g 108 0 := (funext fun q => fr3 108 0 q (by unfold TN; omega)).trans d108
      have e9 : g3 50 0 9 = g 50 0 9 := (fr3 50 0 9 (by unfold TN; omega)).trans d9
      have hl3 : mLtr g3 := mLtr_fr (fun f hf j => fr3 f 0 j (by unfold TN; omega)) hl2
      change ax_J _ _ _ _ _ _ _ _ _ 33 [some (.inr (.inr (some (50, 0)))), some (.inl x), some (.inl q)] [] (P, g3, r0, n)
      refine aj_run (C := (-2147483648 ≤ 3 * x ∧ 3 * x ≤ 2147483647) ∧ (-2147483648 ≤ (3 * x) + q ∧ (3 * x) + q ≤ 2147483647) ∧ True) (pc' := 39) (la' := [some (.inr (.inr (some (50, 0)))), some (.inl x), some (.inl q)]) (st' := [.inl ((3 * x) + q), .inr (.inr (some (50, 0)))]) (M' := (P, g3, r0, n)) ok_X11_readAll true 6 rfl (by refine ⟨?_, ?_, trivial⟩ <;> (omega)) ?_
      refine aj_callV (av := [.inl ((3 * x) + q)]) (st := []) (f := 50) (o := 0) (ci := 11) cal_X11_readE lk_11_144 ins_X11_readE rfl sel_X11_readE rfl (fun c9 h9 _ => by simpa [ax_ok] using h9) (sp_readE ((3 * x) + q) (ps + 1) _ _ _ _ hn (by omega) (by rw [e9]; exact ht) hl3 (by rw [e108, e9]; exact ⟨by omega, hp1⟩) (by rw [e108, e9]; exact hx3)) ⟨by decide, by decide, by decide, by decide⟩ (Nat.le_of_ble_eq_true rfl) (ax_dec2 (i := .invokevirtual 144) (n := 3) ok_X11_readAll rfl) (fun r M' hq => ?_)
      rw [e108, e9] at hq
      obtain ⟨g4, b, rfl, fr4, hre, hst, hx4, hb4, hr4⟩ := hq
      obtain ⟨z1, z2⟩ := pq3 _ b rfl hre hst
      have htb := (tkP_i (B := (g 108 0)) (m := (g 50 0 9)) (j := b.1) ht.1).1
      obtain ⟨rfl, hdn, h113, h112⟩ | ⟨rfl, hdn⟩ := hr4
      · obtain ⟨⟨w1, w2, w3, w4, w5⟩, M, v1, v2, v3, v4, v5⟩ := z2 hdn
        change ax_J _ _ _ _ _ _ _ _ _ 42 [some (.inr (.inr (some (50, 0)))), some (.inl x), some (.inl q)] [.inl 1] (P, g4, r0, n)
        refine aj_if_ne (tgt := 50) (ax_dec2 (i := .ifCond .ne 8) (n := 3) ok_X11_readAll rfl) (by decide) (fun c4 => ?_) (fun c4 => ?_)
        · refine aj_run (C := (-2147483648 ≤ q + 1 ∧ q + 1 ≤ 2147483647) ∧ True) (pc' := 7) (la' := [some (.inr (.inr (some (50, 0)))), some (.inl x), some (.inl (q + 1))]) (st' := []) (M' := (P, g4, r0, n)) ok_X11_readAll true 2 rfl (by refine ⟨?_, trivial⟩ <;> (omega)) ?_
          refine ih7 (q + 1, g4) ?_ ?_
          · (try dsimp only); exact ⟨fun f o j z => (fr4 f o j (TR_TA ⟨a2.1, by omega⟩ z)).trans ((fr3 f o j (fun y => z (Or.inl y))).trans ((fr2 f o j (fun y => z (Or.inl y))).trans (a1 f o j z))), ⟨by omega, by omega⟩, w1, ⟨by omega, by omega, w5⟩, by rw [w2]; exact hx4.2.1, fun k z1 z2 => by
        by_cases ck : k = q
        · rw [ck]
          exact ⟨⟨M, v1, v2, v3, v4, by rw [h113, v5, List.length_map], fun k x hx => h112 k (cdN x) (by rw [v5, List.getElem?_map, hx]; rfl)⟩, by omega⟩
        · obtain ⟨u1, u2⟩ := a6 k z1 (by omega)
          exact ⟨yPd_fr u2 ((fr4 113 0 _ (by unfold TR TN TY; omega)).trans ((fr3 113 0 _ (by unfold TN; omega)).trans (fr2 113 0 _ (by unfold TN; omega)))) (fun j y1 y2 => (fr4 112 0 _ (by unfold TR TN TY; omega)).trans ((fr3 112 0 _ (by unfold TN; omega)).trans (fr2 112 0 _ (by unfold TN; omega)))) u1, u2⟩⟩
          · omega
        · exact absurd c4 (by omega)
      · have z1 := z1 hdn
        change ax_J _ _ _ _ _ _ _ _ _ 42 [some (.inr (.inr (some (50, 0)))), some (.inl x), some (.inl q)] [.inl 0] (P, g4, r0, n)
        refine aj_if_ne (tgt := 50) (ax_dec2 (i := .ifCond .ne 8) (n := 3) ok_X11_readAll rfl) (by decide) (fun c5 => ?_) (fun c5 => ?_)
        · exact absurd c5 (by omega)
        · refine aj_run (C := True) (pc' := 49) (la' := [some (.inr (.inr (some (50, 0)))), some (.inl x), some (.inl q)]) (st' := [.inl (g4 50 0 17)]) (M' := (P, g4, r0, n)) ok_X11_readAll true 2 rfl trivial ?_
          refine aj_ret (r := some (.inl (g4 50 0 17))) (ax_dec2 (i := .ireturn) (n := 1) ok_X11_readAll rfl) ⟨?_, ?_, by decide, by decide⟩ rfl
          · exact ⟨by rw [hx4.1, z1], by omega, g4, rfl, fun f o j z => (fr4 f o j (TR_TA ⟨a2.1, by omega⟩ z)).trans ((fr3 f o j (fun y => z (Or.inl y))).trans ((fr2 f o j (fun y => z (Or.inl y))).trans (a1 f o j z))), fun z => absurd (z1.symm.trans z) (tkP_ne ht.1 _)⟩
          · exact trivial
    · replace c3 := bI_e0 c3
      refine aj_run (C := True) (pc' := 28) (la' := [some (.inr (.inr (some (50, 0)))), some (.inl x), some (.inl q)]) (st' := [.inl (g2 50 0 17)]) (M' := (P, g2, r0, n)) ok_X11_readAll true 2 rfl trivial ?_
      refine aj_ret (r := some (.inl (g2 50 0 17))) (ax_dec2 (i := .ireturn) (n := 1) ok_X11_readAll rfl) ⟨?_, ?_, by decide, by decide⟩ rfl
      · (have htz := (tkP_i (B := (g 108 0)) (m := (g 50 0 9)) (j := ps) ht.1).1; have pq1 := pq1 (by omega); exact ⟨by rw [hx2.1, pq1], by omega, g2, rfl, fun f o j z => (fr2 f o j (fun y => z (Or.inl y))).trans (a1 f o j z), fun z => absurd (pq1.symm.trans z) (tkP_ne ht.1 _)⟩)
      · exact trivial

set_option maxRecDepth 100000 in
set_option maxHeartbeats 4000000 in
theorem sp_text (P : Nat → Int → Prop) (g : Nat → Int → Int → Int) (r0 : Nat → Int → Int → Option (Nat × Int)) (n : Nat → Int → Int) (hn : mLen n) (hx : 0 ≤ g 50 0 10 ∧ g 50 0 10 ≤ 6) (ht : 0 ≤ g 50 0 9 ∧ g 50 0 9 ≤ 160) (hl : mLtr g) : ax_S yX11_text cX11_text 2 (some FieldType.int) 5 0 0 [.inr (.inr (some (50, 0)))] (P, g, r0, n) (fun r M' => (g 50 0 10 = 6 → r = some (.inl (-4)) ∧ M' = (P, g, r0, n)) ∧ (g 50 0 10 ≠ 6 → ∃ g', M' = (P, g', r0, n) ∧ cFr (fun f o j => TA (g 50 0 10) f o j ∨ (f = 50 ∧ o = 0 ∧ (j = 9 ∨ j = 10))) g' g ∧ (-1 ≤ (rSZ (tT (g 108 0) (g 50 0 9)) (tV (g 108 0) (g 50 0 9)) (tkP (g 108 0) (g 50 0 9)) (tkN (g 108 0) (g 50 0 9))).2.2 ∧ (rSZ (tT (g 108 0) (g 50 0 9)) (tV (g 108 0) (g 50 0 9)) (tkP (g 108 0) (g 50 0 9)) (tkN (g 108 0) (g 50 0 9))).2.2 ≤ 160) ∧ g' 50 0 9 = 0 ∧ ((rSZ (tT (g 108 0) (g 50 0 9)) (tV (g 108 0) (g 50 0 9)) (tkP (g 108 0) (g 50 0 9)) (tkN (g 108 0) (g 50 0 9))).2.2 ≠ -1 → r = some (.inl (-100 - (rSZ (tT (g 108 0) (g 50 0 9)) (tV (g 108 0) (g 50 0 9)) (tkP (g 108 0) (g 50 0 9)) (tkN (g 108 0) (g 50 0 9))).2.2)) ∧ g' 50 0 10 = g 50 0 10) ∧ ((rSZ (tT (g 108 0) (g 50 0 9)) (tV (g 108 0) (g 50 0 9)) (tkP (g 108 0) (g 50 0 9)) (tkN (g 108 0) (g 50 0 9))).2.2 = -1 → r = some (.inl (g 50 0 10)) ∧ g' 50 0 10 = g 50 0 10 + 1 ∧ ∀ q, 0 ≤ q → q < 3 → yPd g' (tT (g 108 0) (g 50 0 9)) (tV (g 108 0) (g 50 0 9)) (tkP (g 108 0) (g 50 0 9)) (tkN (g 108 0) (g 50 0 9)) (3 * g 50 0 10) q))) := by
  refine ax_S_of (own := 11) (by decide) rfl (fun h => absurd h (by decide)) rfl (Nat.le_of_ble_eq_true rfl) ?_
  change ax_J _ _ _ _ _ _ _ _ _ _ [some (.inr (.inr (some (50, 0)))), none] _ _
  refine aj_run (C := True) (pc' := 6) (la' := [some (.inr (.inr (some (50, 0)))), none]) (st' := [.inl 6, .inl (g 50 0 10)]) (M' := (P, g, r0, n)) ok_X11_text true 3 rfl trivial ?_
  refine aj_icmp_ne (tgt := 12) (ax_dec2 (i := .if_icmp .ne 6) (n := 3) ok_X11_text rfl) (by decide) (fun c1 => ?_) (fun c1 => ?_)
  · refine aj_run (C := True) (pc' := 17) (la' := [some (.inr (.inr (some (50, 0)))), none]) (st' := [.inl (g 50 0 10), .inr (.inr (some (50, 0)))]) (M' := (P, g, r0, n)) ok_X11_text true 3 rfl trivial ?_
    refine aj_callV (av := [.inl (g 50 0 10)]) (st := []) (f := 50) (o := 0) (ci := 11) cal_X11_readAll lk_11_150 ins_X11_readAll rfl sel_X11_readAll rfl (fun c9 h9 _ => by simpa [ax_ok] using h9) (sp_readAll (g 50 0 10) _ _ _ _ hn (by omega) ht hl) ⟨by decide, by decide, by decide, by decide⟩ (Nat.le_of_ble_eq_true rfl) (ax_dec2 (i := .invokevirtual 150) (n := 3) ok_X11_text rfl) (fun r M' hq => ?_)
    obtain ⟨rfl, hb9, g3, rfl, fr3, hpd⟩ := hq
    have f10 : g3 50 0 10 = g 50 0 10 := fr3 50 0 10 (by unfold TA TN; omega)
    change ax_J _ _ _ _ _ _ _ _ _ 20 [some (.inr (.inr (some (50, 0)))), none] [.inl ((rSZ (tT (g 108 0) (g 50 0 9)) (tV (g 108 0) (g 50 0 9)) (tkP (g 108 0) (g 50 0 9)) (tkN (g 108 0) (g 50 0 9))).2.2)] (P, g3, r0, n)
    refine aj_run (C := True) (pc' := 28) (la' := [some (.inr (.inr (some (50, 0)))), some (.inl ((rSZ (tT (g 108 0) (g 50 0 9)) (tV (g 108 0) (g 50 0 9)) (tkP (g 108 0) (g 50 0 9)) (tkN (g 108 0) (g 50 0 9))).2.2))]) (st' := [.inl (-1), .inl ((rSZ (tT (g 108 0) (g 50 0 9)) (tV (g 108 0) (g 50 0 9)) (tkP (g 108 0) (g 50 0 9)) (tkN (g 108 0) (g 50 0 9))).2.2)]) (M' := (P, ax_u3 g3 50 0 9 0, r0, n)) ok_X11_text true 6 rfl trivial ?_
    refine aj_icmp_eq (tgt := 36) (ax_dec2 (i := .if_icmp .eq 8) (n := 3) ok_X11_text rfl) (by decide) (fun c2 => ?_) (fun c2 => ?_)
    · refine aj_run (C := (-2147483648 ≤ (g3 50 0 10) + 1 ∧ (g3 50 0 10) + 1 ≤ 2147483647) ∧ (-2147483648 ≤ ((g3 50 0 10) + 1) - 1 ∧ ((g3 50 0 10) + 1) - 1 ≤ 2147483647) ∧ True) (pc' := 52) (la' := [some (.inr (.inr (some (50, 0)))), some (.inl ((rSZ (tT (g 108 0) (g 50 0 9)) (tV (g 108 0) (g 50 0 9)) (tkP (g 108 0) (g 50 0 9)) (tkN (g 108 0) (g 50 0 9))).2.2))]) (st' := [.inl (((g3 50 0 10) + 1) - 1)]) (M' := (P, ax_u3 (ax_u3 g3 50 0 9 0) 50 0 10 ((g3 50 0 10) + 1), r0, n)) ok_X11_text true 10 rfl (by refine ⟨?_, ?_, trivial⟩ <;> (omega)) ?_
      refine aj_ret (r := some (.inl (((g3 50 0 10) + 1) - 1))) (ax_dec2 (i := .ireturn) (n := 1) ok_X11_text rfl) ⟨?_, ?_, by decide, by decide⟩ rfl
      · exact ⟨fun z => absurd z (by omega), fun _ => ⟨_, rfl, fun f o j z => by rw [ax_u3_n (fun y => z (by omega)), ax_u3_n (fun y => z (by omega))]; exact fr3 f o j (fun y => z (Or.inl y)), hb9, by rw [ax_u3_n (by omega), ax_u3_s], fun z => absurd (by omega) z, fun z => ⟨by (try rw [f10]); congr 2; omega, by rw [ax_u3_s]; omega, fun q z1 z2 => by obtain ⟨M, u1, u2, u3, u4, u5, u6⟩ := hpd z q z1 z2; exact ⟨M, u1, u2, u3, u4, by rw [ax_u3_n (by omega), ax_u3_n (by omega)]; exact u5, fun k x hx => by rw [ax_u3_n (by omega), ax_u3_n (by omega)]; exact u6 k x hx⟩⟩⟩⟩
      · exact trivial
    · refine aj_run (C := (-2147483648 ≤ (-100) - ((rSZ (tT (g 108 0) (g 50 0 9)) (tV (g 108 0) (g 50 0 9)) (tkP (g 108 0) (g 50 0 9)) (tkN (g 108 0) (g 50 0 9))).2.2) ∧ (-100) - ((rSZ (tT (g 108 0) (g 50 0 9)) (tV (g 108 0) (g 50 0 9)) (tkP (g 108 0) (g 50 0 9)) (tkN (g 108 0) (g 50 0 9))).2.2) ≤ 2147483647) ∧ True) (pc' := 35) (la' := [some (.inr (.inr (some (50, 0)))), some (.inl ((rSZ (tT (g 108 0) (g 50 0 9)) (tV (g 108 0) (g 50 0 9)) (tkP (g 108 0) (g 50 0 9)) (tkN (g 108 0) (g 50 0 9))).2.2))]) (st' := [.inl ((-100) - ((rSZ (tT (g 108 0) (g 50 0 9)) (tV (g 108 0) (g 50 0 9)) (tkP (g 108 0) (g 50 0 9)) (tkN (g 108 0) (g 50 0 9))).2.2))]) (M' := (P, ax_u3 g3 50 0 9 0, r0, n)) ok_X11_text true 3 rfl (by refine ⟨?_, trivial⟩ <;> (omega)) ?_
      refine aj_ret (r := some (.inl ((-100) - ((rSZ (tT (g 108 0) (g 50 0 9)) (tV (g 108 0) (g 50 0 9)) (tkP (g 108 0) (g 50 0 9)) (tkN (g 108 0) (g 50 0 9))).2.2)))) (ax_dec2 (i := .ireturn) (n := 1) ok_X11_text rfl) ⟨?_, ?_, by decide, by decide⟩ rfl
      · exact ⟨fun z => absurd z (by omega), fun _ => ⟨_, rfl, fun f o j z => by rw [ax_u3_n (fun y => z (by omega))]; exact fr3 f o j (fun y => z (Or.inl y)), hb9, by rw [ax_u3_s], fun _ => ⟨rfl, by rw [ax_u3_n (by omega)]; exact f10⟩, fun z => absurd z (by omega)⟩⟩
      · exact trivial
  · refine aj_run (C := True) (pc' := 11) (la' := [some (.inr (.inr (some (50, 0)))), none]) (st' := [.inl (-4)]) (M' := (P, g, r0, n)) ok_X11_text true 1 rfl trivial ?_
    refine aj_ret (r := some (.inl (-4))) (ax_dec2 (i := .ireturn) (n := 1) ok_X11_text rfl) ⟨?_, ?_, by decide, by decide⟩ rfl
    · exact ⟨fun _ => ⟨rfl, rfl⟩, fun z => absurd (by omega) z⟩
    · exact trivial

