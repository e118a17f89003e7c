/-! ===== the class goes on till behind a beat ===== -/
def TGo (z : Int) : Nat → Int → Int → Prop := fun f o j => f = 214 ∨ f = 215 ∨ f = 216 ∨ f = 604 ∨ (f = 2 ∧ o = 0 ∧ (j = 5 ∨ j = 6 ∨ j = 7 ∨ j = 8 ∨ j = 12)) ∨ (f = 5 ∧ (0 ≤ o ∧ o < z) ∧ 2 ≤ j ∧ j ≤ 10)
theorem cGo_one {g1 g2 g3 g4 g5 g6 g7 g8 hB h : Nat → Int → Int → Int} {b z : Int} (hh : h = wIt hB b.toNat) (b0 : 0 ≤ b) (b9 : b ≤ 1000) (ho : wOa h) (hS : cSm g1 hB b) (q2 : ∀ f o j, ¬ (f = 2 ∧ o = 0 ∧ j = 12) → g2 f o j = g1 f o j) (q2b : g2 2 0 12 = b) (kk3 : cFr (TMv z) g3 g2) (kk4 : cFr TMk g4 g3) (kk5 : cFr (fun f o j => f = 2 ∧ o = 0 ∧ j = 5) g5 g4) (v5 : g5 2 0 5 = wNxO (wSt1 h) (wSt1 h 50 0 2)) (kk6 : cFr (TMt z) g6 g5) (v6 : g6 2 0 6 = wPrO (wSt1 h) (wSt1 h 50 0 2)) (v7 : g6 2 0 7 = cMIn g5 (wSt1 h) (wSt1 h 50 0 2)) (kk7 : cFr (TEn z) g7 g6) (D7 : ∀ a, 0 ≤ a → a < h 50 0 2 → cD1 g7 (wStep h) a) (s7 : g7 2 0 8 = g6 2 0 8 - cLv (wMeet (wSt1 h)) (h 50 0 2)) (kk8 : cFr TMk g8 g7) (z8 : ∀ p, 0 ≤ p → p ≤ 80 → g8 214 0 p = 0 ∧ g8 215 0 p = 0) : cSm g8 hB (b + 1) ∧ cFr (TGo z) g8 g1 := by
  have a8 : ∀ f o j, f ≠ 214 → f ≠ 215 → g8 f o j = g7 f o j := fun f o j c1 c2 => kk8 f o j (by unfold TMk; omega)
  have a7 := fun j (c : j ≠ 8) => kk7 2 0 j (by unfold TEn; omega)
  have a6 := fun j (c : j ≠ 6 ∧ j ≠ 7) => kk6 2 0 j (by unfold TMt; omega)
  have a5 := fun j (c : j ≠ 5) => kk5 2 0 j (by omega)
  have a4 := fun j => kk4 2 0 j (by unfold TMk; omega)
  have a3 := fun j => kk3 2 0 j (by unfold TMv; omega)
  obtain ⟨s1, s2, s3, s4⟩ := hS
  rw [← hh] at s1
  obtain ⟨s11, ⟨s12, s13, s14, s15⟩, s16⟩ := s1
  have w5 := v5
  rw [st1_sz] at v5 v6 v7
  have et : (b + 1).toNat = b.toNat + 1 := by omega
  have ew : wIt hB (b + 1).toNat = wStep h := by rw [et, hh]; rfl
  refine ⟨⟨?_, ?_, fun _ => ?_, ?_⟩, ?_⟩
  · rw [ew]
    refine ⟨fun a h1 h3 => ?_, ⟨?_, ?_, ?_, ?_⟩, z8⟩
    · rw [step_sz] at h3
      exact cD1_c (fun j => a8 5 a j (by decide) (by decide)) (D7 a h1 h3)
    · rw [a8 2 0 5 (by decide) (by decide), a7 5 (by decide), a6 5 (by decide), v5, step_v.2.1]
    · rw [a8 2 0 6 (by decide) (by decide), a7 6 (by decide), v6, step_v.1]
    · rw [a8 2 0 8 (by decide) (by decide), s7, cSt_step ho.1 ho.2.1 ho.2.2.1, a6 8 (by decide), a5 8 (by decide), a4 8, a3 8, q2 2 0 8 (by decide), s14]
    · rw [a8 2 0 13 (by decide) (by decide), a7 13 (by decide), a6 13 (by decide), a5 13 (by decide), a4 13, a3 13, q2 2 0 13 (by decide), s15, step_v.2.2]
  · rw [et]
    show _ = if wAny (wSt1 (wIt hB b.toNat)) (hB 50 0 2) ≠ 0 then ((b.toNat : Nat) : Int) else wMi hB b.toNat
    rw [a8 2 0 7 (by decide) (by decide), a7 7 (by decide), v7, ← hh]
    unfold cMIn
    rw [a5 12 (by decide), a4 12, a3 12, q2b, a5 7 (by decide), a4 7, a3 7, q2 2 0 7 (by decide), s2, show h 50 0 2 = hB 50 0 2 by rw [hh, it_sz], show ((b.toNat : Nat) : Int) = b by omega]
  · rw [a8 2 0 12 (by decide) (by decide), a7 12 (by decide), a6 12 (by decide), a5 12 (by decide), a4 12, a3 12, q2b]
    omega
  · rw [a8 2 0 12 (by decide) (by decide), a7 12 (by decide), a6 12 (by decide), a5 12 (by decide), a4 12, a3 12, q2b]
    omega
  · intro f o j w
    unfold TGo at w
    rw [kk8 f o j (by unfold TMk; omega), kk7 f o j (by unfold TEn; omega), kk6 f o j (by unfold TMt; omega), kk5 f o j (by omega), kk4 f o j (by unfold TMk; omega), kk3 f o j (by unfold TMv; omega), q2 f o j (by omega)]
theorem cUn {G h : Nat → Int → Int → Int} {z : Int} (h0 : 0 ≤ h 50 0 2) (h7 : h 50 0 2 ≤ 7) (ez : z = h 50 0 2) (hm : cMk G h (h 50 0 2)) (hp : ∀ a, 0 ≤ a → a < h 50 0 2 → 0 ≤ h 129 0 a → G 5 a 3 = h 129 0 a) : ∀ p, 0 ≤ p → p ≤ 80 → (∀ a, 0 ≤ a → a < z → G 5 a 3 ≠ p) → G 214 0 p = 0 ∧ G 215 0 p = 0 := by
  intro p p0 p8 hq
  obtain ⟨m1, m2⟩ := hm p p0 p8
  rw [m1, m2]
  refine ⟨?_, ?_⟩
  · by_cases c : mS (qL h p) (h 50 0 2) = 0
    · exact c
    · obtain ⟨i, i1, i2, i3⟩ := (mS_ex h0 h7).mp c
      have := i3.1
      exact absurd ((hp i i1 i2 (by omega)).trans i3.1) (hq i i1 (by omega))
  · by_cases c : mS (qR h p) (h 50 0 2) = 0
    · exact c
    · obtain ⟨i, i1, i2, i3⟩ := (mS_ex h0 h7).mp c
      have := i3.1
      exact absurd ((hp i i1 i2 (by omega)).trans i3.1) (hq i i1 (by omega))
theorem wVl_s {h h' : Nat → Int → Int → Int} (hss : wSs h' h) {row : Int} {nm : Int → Int} : wVl h' row nm = wVl h row nm := by
  unfold wVl wCd
  rw [hss.1 112 (by decide) (by omega), hss.1 113 (by decide) (by omega)]
theorem cSm_end {g hB : Nat → Int → Int → Int} (ho : wOa hB) (hb : hB 50 0 39 = -1) {k u : Int} (hk : 0 ≤ k) (hku : k ≤ u + 1) (hu : u ≤ 1000) (hz : g 2 0 8 ≤ 0 ∨ k = u + 1) (hS : cSm g hB k) : cSm g hB (u + 1) := by
  rcases hz with hz | hz
  · have := cSm_off ho hb hk hz hS (u + 1 - k).toNat (by omega)
    rw [show k + (((u + 1 - k).toNat : Nat) : Int) = u + 1 by omega] at this
    exact this
  · rw [← hz]
    exact hS
theorem cFr_t {T : Nat → Int → Int → Prop} {a b c : Nat → Int → Int → Int} (h : cFr T a b) (h' : cFr T b c) : cFr T a c := fun f o j w => (h f o j w).trans (h' f o j w)
theorem cLv_z {h : Nat → Int → Int → Int} {k : Int} (hz : ∀ a, ¬ wAE h a ≠ 0) : cLv h k = 0 := by
  unfold cLv cSum wFI
  generalize k.toNat = m
  induction m with
  | zero => rfl
  | succ m ih =>
    unfold wF
    rw [ih]
    have hb9 : bI (wAE h m ≠ 0 ∧ wWb h m = 0) = 0 := bI_f (fun z => hz _ z.1)
    show 0 + bI (wAE h m ≠ 0 ∧ wWb h m = 0) = 0
    omega
set_option maxRecDepth 100000 in
set_option maxHeartbeats 4000000 in
theorem cp_goOn (u9 k0 : Int) (P : Nat → Int → Prop) (g : Nat → Int → Int → Int) (r0 : Nat → Int → Int → Option (Nat × Int)) (n : Nat → Int → Int) (hA : cAn P r0 n (g 2 0 1)) (hn2 : n 214 0 = 81 ∧ n 215 0 = 81) (h6 : n 216 0 = 6) (hB : Nat → Int → Int → Int) (hP : cPl g hB n) (hob : wOa hB) (hob2 : hB 50 0 39 = -1) (hk0 : 0 ≤ k0) (hku : k0 ≤ u9 + 1) (hu : u9 ≤ 1000) (hS : cSm g hB k0) (t : Int) (V : Int → (Int → Int) → Int) (hru : (r0 2 0 4 = some (6, t) ∧ P 6 t) ∧ cRu g n t V) (hVn : cVn V) (hV : ∀ p nm, V p nm = wVl hB (3 * hB 50 0 11 + p) nm) : ax_S yX2_goOn cX2_goOn 3 none 11 0 0 [.inr (.inr (some (2, 0))), .inl u9] (P, g, r0, n) (fun r M' => r = none ∧ ∃ g', M' = (P, g', r0, n) ∧ cSm g' hB (u9 + 1) ∧ cFr (TGo (g 2 0 1)) g' g) := by
  have hbr := hS.2.2.2
  refine ax_S_of (own := 2) (by decide) rfl (fun h => absurd h (by decide)) rfl (Nat.le_of_ble_eq_true rfl) ?_
  change ax_J _ _ _ _ _ _ _ _ _ _ [some (.inr (.inr (some (2, 0)))), some (.inl u9), none] _ _
  refine aj_run (C := (-2147483648 ≤ (g 2 0 12) + 1 ∧ (g 2 0 12) + 1 ≤ 2147483647) ∧ True) (pc' := 7) (la' := [some (.inr (.inr (some (2, 0)))), some (.inl u9), some (.inl ((g 2 0 12) + 1))]) (st' := []) (M' := (P, g, r0, n)) ok_X2_goOn true 5 rfl (by refine ⟨?_, trivial⟩ <;> (omega)) ?_
  refine aj_loop (σ := (Int) × (Nat → Int → Int → Int)) (fun xL => ∃ k : Int, 0 ≤ k ∧ k ≤ u9 + 1 ∧ cSm xL.2 hB k ∧ (0 < xL.2 2 0 8 → k = xL.1) ∧ cFr (TGo (g 2 0 1)) xL.2 g ∧ (0 ≤ xL.1 ∧ xL.1 ≤ 1001)) (fun xL => (u9 + 1 - xL.1).toNat) (fun xL => [some (.inr (.inr (some (2, 0)))), some (.inl u9), some (.inl xL.1)]) (fun xL => []) (fun xL => (P, xL.2, r0, n)) ?_ ((g 2 0 12) + 1, g) ?_
  rotate_left
  · (try dsimp only); exact ⟨k0, hk0, hku, hS, fun z => by have := hS.2.2.1 z; omega, fun _ _ _ _ => rfl, by have := hS.2.2.2; omega⟩
  rintro ⟨b, g1⟩ hI ih7
  try dsimp only at hI ih7
  obtain ⟨k, i1, i2, i3, i4, i5, i6⟩ := hI
  change ax_J _ _ _ _ _ _ _ _ _ 7 [some (.inr (.inr (some (2, 0)))), some (.inl u9), some (.inl b)] [] (P, g1, r0, n)
  refine aj_run (C := True) (pc' := 9) (la' := [some (.inr (.inr (some (2, 0)))), some (.inl u9), some (.inl b)]) (st' := [.inl u9, .inl b]) (M' := (P, g1, r0, n)) ok_X2_goOn true 2 rfl trivial ?_
  refine aj_icmp_gt (tgt := 61) (ax_dec2 (i := .if_icmp .gt 52) (n := 3) ok_X2_goOn rfl) (by decide) (fun c1 => ?_) (fun c1 => ?_)
  · refine aj_ret (r := none) (ax_dec2 (i := .return_) (n := 1) ok_X2_goOn rfl) ⟨?_, ?_, by decide, by decide⟩ rfl
    · exact ⟨rfl, g1, rfl, cSm_end hob hob2 i1 i2 hu (by omega) i3, i5⟩
    · exact trivial
  · refine aj_run (C := True) (pc' := 16) (la' := [some (.inr (.inr (some (2, 0)))), some (.inl u9), some (.inl b)]) (st' := [.inl (g1 2 0 8)]) (M' := (P, g1, r0, n)) ok_X2_goOn true 2 rfl trivial ?_
    refine aj_if_le (tgt := 61) (ax_dec2 (i := .ifCond .le 45) (n := 3) ok_X2_goOn rfl) (by decide) (fun c2 => ?_) (fun c2 => ?_)
    · refine aj_ret (r := none) (ax_dec2 (i := .return_) (n := 1) ok_X2_goOn rfl) ⟨?_, ?_, by decide, by decide⟩ rfl
      · exact ⟨rfl, g1, rfl, cSm_end hob hob2 i1 i2 hu (by omega) i3, i5⟩
      · exact trivial
    · have hkb := (i4 (by omega)).symm
      subst hkb
      have hst9 := i3.1.2.1.2.2.1
      obtain ⟨h, hh⟩ : ∃ h, h = wIt hB b.toNat := ⟨_, rfl⟩
      obtain ⟨hoa, hbt⟩ := it_oa hob hob2 b.toNat (by omega)
      rw [← hh] at hoa hbt hst9
      obtain ⟨hs, hd, hx, ht, hcr⟩ := id hoa
      have ezh : h 50 0 2 = hB 50 0 2 := by rw [hh, it_sz]
      have hss : wSs h hB := by rw [hh]; exact it_ss _
      have hD1 : ∀ a, 0 ≤ a → a < h 50 0 2 → cD1 g1 h a := by rw [hh]; exact i3.1.1
      have hc1 := i3.1.2.1
      rw [← hh] at hc1
      have hmz := i3.1.2.2
      have hs2 := hs.2.2.1
      have hsk := hs.1
      have hsr := hs.2.1
      have hin := cSt_in (h := h) (by omega)
      have hf1 : ∀ a, 0 ≤ a → a < wSt1 h 50 0 2 → wSt1 h 130 0 a = 0 ∨ wSt1 h 130 0 a = 1 := fun a z1 z2 => by rw [st1_sz] at z2; rw [st1_130]; exact (hd.2 a z1 z2).1
      have hV1 : ∀ p nm, V p nm = wVl (wSt1 h) (3 * wSt1 h 50 0 11 + p) nm := fun p nm => by rw [wVl_s (wSs.tr st1_ss hss), st1_o (by decide) (fun _ => by decide), hss.2 0 11 (by omega)]; exact hV p nm
      have hpls : cPl g1 (wSt1 h) n := cPl_s (wSs.tr st1_ss hss) (cPl_g (fun j z1 z2 => i5 2 0 j (by unfold TGo; omega)) (fun a j => i5 500 a j (by unfold TGo; omega)) hP)
      have hpl0 : cPl g1 h n := cPl_s hss (cPl_g (fun j z1 z2 => i5 2 0 j (by unfold TGo; omega)) (fun a j => i5 500 a j (by unfold TGo; omega)) hP)
      have hz1 : g1 2 0 1 = g 2 0 1 := i5 2 0 1 (by unfold TGo; omega)
      have ez1 := hpl0.1.1
      refine aj_run (C := True) (pc' := 24) (la' := [some (.inr (.inr (some (2, 0)))), some (.inl u9), some (.inl b)]) (st' := []) (M' := (P, ax_u3 g1 2 0 12 b, r0, n)) ok_X2_goOn true 3 rfl trivial ?_
      have q2 : ∀ f o j, ¬ (f = 2 ∧ o = 0 ∧ j = 12) → (ax_u3 g1 2 0 12 b) f o j = g1 f o j := fun f o j w => ax_u3_n w
      have q2b : (ax_u3 g1 2 0 12 b) 2 0 12 = b := ax_u3_s
      generalize (ax_u3 g1 2 0 12 b) = g2 at q2 q2b ⊢
      have zz2 : g2 2 0 1 = g 2 0 1 := (q2 2 0 1 (by decide)).trans hz1
      refine aj_run (C := True) (pc' := 25) (la' := [some (.inr (.inr (some (2, 0)))), some (.inl u9), some (.inl b)]) (st' := [.inr (.inr (some (2, 0)))]) (M' := (P, g2, r0, n)) ok_X2_goOn true 1 rfl trivial ?_
      refine aj_callV (av := []) (st := []) (f := 2) (o := 0) (ci := 2) cal_X2_move lk_2_69 ins_X2_move rfl sel_X2_move rfl (fun c9 h9 _ => by simpa [ax_ok] using h9) (cp_move _ _ _ _ (by rw [zz2]; exact hA) h (cPl_g (fun j z1 z2 => q2 2 0 j (by omega)) (fun a j => q2 500 a j (by omega)) hpl0) hs hd hx (fun a z1 z2 => cD1_c (fun j => q2 5 a j (by omega)) (hD1 a z1 z2)) (by omega) (by omega)) ⟨by decide, by decide, by decide, by decide⟩ (Nat.le_of_ble_eq_true rfl) (ax_dec2 (i := .invokevirtual 69) (n := 3) ok_X2_goOn rfl) (fun r M' hq => ?_)
      obtain ⟨rfl, g3, rfl, kk3, dd3⟩ := hq
      rw [zz2] at kk3
      have zz3 : g3 2 0 1 = g 2 0 1 := (kk3 2 0 1 (by unfold TMv; omega)).trans zz2
      have hpl3 : cPl g3 (wSt1 h) n := cPl_g (fun j z1 z2 => (kk3 2 0 j (by unfold TMv; omega)).trans (q2 2 0 j (by omega))) (fun a j => (kk3 500 a j (by unfold TMv; omega)).trans (q2 500 a j (by omega))) hpls
      have hD3 : ∀ a, 0 ≤ a → a < wSt1 h 50 0 2 → cD1 g3 (wSt1 h) a := fun a z1 z2 => by rw [st1_sz] at z2; exact dd3 a z1 z2
      change ax_J _ _ _ _ _ _ _ _ _ 28 [some (.inr (.inr (some (2, 0)))), some (.inl u9), some (.inl b)] [] (P, g3, r0, n)
      refine aj_run (C := True) (pc' := 29) (la' := [some (.inr (.inr (some (2, 0)))), some (.inl u9), some (.inl b)]) (st' := [.inr (.inr (some (2, 0)))]) (M' := (P, g3, r0, n)) ok_X2_goOn true 1 rfl trivial ?_
      refine aj_callV (av := []) (st := []) (f := 2) (o := 0) (ci := 2) cal_X2_mark lk_2_72 ins_X2_mark rfl sel_X2_mark rfl (fun c9 h9 _ => by simpa [ax_ok] using h9) (cp_mark _ _ _ _ (by rw [zz3]; exact hA) (wSt1 h) hpl3 hf1 hD3 hn2 (fun p z1 z2 => by rw [kk3 214 0 p (by unfold TMv; omega), kk3 215 0 p (by unfold TMv; omega), q2 214 0 p (by omega), q2 215 0 p (by omega)]; exact hmz p z1 z2)) ⟨by decide, by decide, by decide, by decide⟩ (Nat.le_of_ble_eq_true rfl) (ax_dec2 (i := .invokevirtual 72) (n := 3) ok_X2_goOn rfl) (fun r M' hq => ?_)
      obtain ⟨rfl, g4, rfl, kk4, mm4⟩ := hq
      have zz4 : g4 2 0 1 = g 2 0 1 := (kk4 2 0 1 (by unfold TMk; omega)).trans zz3
      have hpl4 : cPl g4 (wSt1 h) n := cPl_g (fun j z1 z2 => kk4 2 0 j (by unfold TMk; omega)) (fun a j => kk4 500 a j (by unfold TMk; omega)) hpl3
      have hD4 : ∀ a, 0 ≤ a → a < wSt1 h 50 0 2 → cD1 g4 (wSt1 h) a := fun a z1 z2 => cD1_c (fun j => kk4 5 a j (by unfold TMk; omega)) (hD3 a z1 z2)
      have hr4 := fun j => (kk4 2 0 j (by unfold TMk; omega)).trans (kk3 2 0 j (by unfold TMv; omega))
      change ax_J _ _ _ _ _ _ _ _ _ 32 [some (.inr (.inr (some (2, 0)))), some (.inl u9), some (.inl b)] [] (P, g4, r0, n)
      refine aj_run (C := True) (pc' := 33) (la' := [some (.inr (.inr (some (2, 0)))), some (.inl u9), some (.inl b)]) (st' := [.inr (.inr (some (2, 0)))]) (M' := (P, g4, r0, n)) ok_X2_goOn true 1 rfl trivial ?_
      refine aj_callV (av := []) (st := []) (f := 2) (o := 0) (ci := 2) cal_X2_handOver lk_2_75 ins_X2_handOver rfl sel_X2_handOver rfl (fun c9 h9 _ => by simpa [ax_ok] using h9) (cp_handOver _ _ _ _ (by rw [zz4]; exact hA) (wSt1 h) hpl4 hf1 hD4 hn2 mm4 (by rw [hr4 5, q2 2 0 5 (by decide), hc1.1]; exact (st1_o (by decide) (fun _ => by decide)).symm) (by rw [show wSt1 h 50 0 41 = h 50 0 41 from st1_o (by decide) (fun _ => by decide), st1_sz]; exact hcr)) ⟨by decide, by decide, by decide, by decide⟩ (Nat.le_of_ble_eq_true rfl) (ax_dec2 (i := .invokevirtual 75) (n := 3) ok_X2_goOn rfl) (fun r M' hq => ?_)
      obtain ⟨rfl, g5, rfl, kk5, v5⟩ := hq
      have zz5 : g5 2 0 1 = g 2 0 1 := (kk5 2 0 1 (by omega)).trans zz4
      have hpl5 : cPl g5 (wSt1 h) n := cPl_g (fun j z1 z2 => kk5 2 0 j (by omega)) (fun a j => kk5 500 a j (by omega)) hpl4
      have hD5 : ∀ a, 0 ≤ a → a < wSt1 h 50 0 2 → cD1 g5 (wSt1 h) a := fun a z1 z2 => cD1_c (fun j => kk5 5 a j (by omega)) (hD4 a z1 z2)
      have mm5 : cMk g5 (wSt1 h) (wSt1 h 50 0 2) := fun p z1 z2 => by rw [kk5 214 0 p (by omega), kk5 215 0 p (by omega)]; exact mm4 p z1 z2
      have hr5 := fun j (c : j ≠ 5) => (kk5 2 0 j (by omega)).trans (hr4 j)
      have e40 : wSt1 h 50 0 40 = h 50 0 40 := st1_o (by decide) (fun _ => by decide)
      have hx1 := hx.1
      change ax_J _ _ _ _ _ _ _ _ _ 36 [some (.inr (.inr (some (2, 0)))), some (.inl u9), some (.inl b)] [] (P, g5, r0, n)
      refine aj_run (C := True) (pc' := 37) (la' := [some (.inr (.inr (some (2, 0)))), some (.inl u9), some (.inl b)]) (st' := [.inr (.inr (some (2, 0)))]) (M' := (P, g5, r0, n)) ok_X2_goOn true 1 rfl trivial ?_
      refine aj_callV (av := []) (st := []) (f := 2) (o := 0) (ci := 2) cal_X2_meet lk_2_78 ins_X2_meet rfl sel_X2_meet rfl (fun c9 h9 _ => by simpa [ax_ok] using h9) (cp_meet _ _ _ _ (by rw [zz5]; exact hA) (wSt1 h) hpl5 hf1 hD5 h6 hn2 mm5 (by rw [hr5 12 (by decide), q2b, st1_b]; omega) (by rw [hr5 13 (by decide), q2 2 0 13 (by decide), hc1.2.2.2]; exact (st1_o (by decide) (fun _ => by decide)).symm) (by rw [hr5 6 (by decide), q2 2 0 6 (by decide), hc1.2.1, e40]) (by rw [e40]; omega) (fun a z1 z2 => by rw [st1_sz] at z2; have y := ht a z1 z2; rw [show wSt1 h 132 0 a = h 132 0 a from st1_o (by decide) (fun w => absurd w (by decide))]; omega) t V (⟨hru.1, cRu_c (fun f j z1 z2 => ((kk5 f t j (by omega)).trans ((kk4 f t j (by unfold TMk; omega)).trans ((kk3 f t j (by unfold TMv; omega)).trans ((q2 f t j (by omega)).trans (i5 f t j (by unfold TGo; omega))))))) hru.2⟩) hVn hV1) ⟨by decide, by decide, by decide, by decide⟩ (Nat.le_of_ble_eq_true rfl) (ax_dec2 (i := .invokevirtual 78) (n := 3) ok_X2_goOn rfl) (fun r M' hq => ?_)
      obtain ⟨rfl, g6, rfl, kk6, dd6, v6, v7⟩ := hq
      rw [zz5] at kk6
      have zz6 : g6 2 0 1 = g 2 0 1 := (kk6 2 0 1 (by unfold TMt; omega)).trans zz5
      have hpl6 : cPl g6 (wMeet (wSt1 h)) n := cPl_s mt_ss (cPl_g (fun j z1 z2 => kk6 2 0 j (by unfold TMt; omega)) (fun a j => kk6 500 a j (by unfold TMt; omega)) hpl5)
      have mm6 : cMk g6 (wSt1 h) (wSt1 h 50 0 2) := fun p z1 z2 => by rw [kk6 214 0 p (by unfold TMt; omega), kk6 215 0 p (by unfold TMt; omega)]; exact mm5 p z1 z2
      have z2h : wMeet (wSt1 h) 50 0 2 = wSt1 h 50 0 2 := mt_sz
      have hf6 : ∀ a, 0 ≤ a → a < wMeet (wSt1 h) 50 0 2 → wMeet (wSt1 h) 130 0 a = 0 ∨ wMeet (wSt1 h) 130 0 a = 1 := fun a z1 z2 => mt_130b z1 (by rw [← z2h]; exact z2) (hf1 a z1 (by rw [← z2h]; exact z2))
      have hD6 : ∀ a, 0 ≤ a → a < wMeet (wSt1 h) 50 0 2 → cD1 g6 (wMeet (wSt1 h)) a := fun a z1 z2 => dd6 a z1 (by rw [← z2h]; exact z2)
      have er6 : wMeet (wSt1 h) 50 0 1 = h 50 0 1 := by rw [mt_o (by decide) (fun _ => by decide), st1_o (by decide) (fun _ => by decide)]
      have ek6 : wMeet (wSt1 h) 50 0 0 = h 50 0 0 := by rw [mt_o (by decide) (fun _ => by decide), st1_o (by decide) (fun _ => by decide)]
      have eb6 : wMeet (wSt1 h) 50 0 39 = h 50 0 39 + 1 := by rw [mt_o (by decide) (fun _ => by decide), st1_b]
      have h63 : g6 2 0 3 = h 50 0 1 := by rw [← er6]; exact hpl6.1.2.2
      have h68 : g6 2 0 8 = cSt h := by rw [kk6 2 0 8 (by unfold TMt; omega), hr5 8 (by decide), q2 2 0 8 (by decide)]; exact hc1.2.2.1
      have hp6 : ∀ a, 0 ≤ a → a < wSt1 h 50 0 2 → 0 ≤ wSt1 h 129 0 a → g6 5 a 3 = wSt1 h 129 0 a := fun a z1 z2 z3 => by rw [kk6 5 a 3 (by unfold TMt; omega)]; exact (hD5 a z1 z2).2.1 z3
      have hp6b : ∀ a, 0 ≤ a → a < wSt1 h 50 0 2 → 0 ≤ g6 5 a 3 ∧ g6 5 a 3 ≤ 80 := fun a z1 z2 => by rw [kk6 5 a 3 (by unfold TMt; omega)]; exact (hD5 a z1 z2).2.2.1
      change ax_J _ _ _ _ _ _ _ _ _ 40 [some (.inr (.inr (some (2, 0)))), some (.inl u9), some (.inl b)] [] (P, g6, r0, n)
      refine aj_run (C := True) (pc' := 44) (la' := [some (.inr (.inr (some (2, 0)))), some (.inl u9), some (.inl b)]) (st' := [.inl (g6 2 0 3)]) (M' := (P, g6, r0, n)) ok_X2_goOn true 2 rfl trivial ?_
      refine aj_if_ne (tgt := 51) (ax_dec2 (i := .ifCond .ne 7) (n := 3) ok_X2_goOn rfl) (by decide) (fun c3 => ?_) (fun c3 => ?_)
      · have hae : ∀ a, ¬ wAE (wMeet (wSt1 h)) a ≠ 0 := fun a c => by have := (wAE_v.mp c).1; omega
        have kk7 : cFr (TEn (g 2 0 1)) g6 g6 := fun _ _ _ _ => rfl
        have D7 : ∀ a, 0 ≤ a → a < h 50 0 2 → cD1 g6 (wStep h) a := fun a z1 z2 => cEn_n z1 (by rw [z2h, st1_sz]; exact z2) (by have := hae a; omega) (dd6 a z1 (by rw [st1_sz]; exact z2))
        have s7 : g6 2 0 8 = g6 2 0 8 - cLv (wMeet (wSt1 h)) (h 50 0 2) := by rw [show cLv (wMeet (wSt1 h)) (h 50 0 2) = 0 from cLv_z hae]; omega
        have zz7 : g6 2 0 1 = g 2 0 1 := (kk7 2 0 1 (by unfold TEn; omega)).trans zz6
        have hp7 : ∀ a, g6 5 a 3 = g6 5 a 3 := fun a => kk7 5 a 3 (by unfold TEn; omega)
        have mm7 : cMk g6 (wSt1 h) (wSt1 h 50 0 2) := fun p z1 z2 => by rw [kk7 214 0 p (by unfold TEn; omega), kk7 215 0 p (by unfold TEn; omega)]; exact mm6 p z1 z2
        refine aj_run (C := True) (pc' := 52) (la' := [some (.inr (.inr (some (2, 0)))), some (.inl u9), some (.inl b)]) (st' := [.inr (.inr (some (2, 0)))]) (M' := (P, g6, r0, n)) ok_X2_goOn true 1 rfl trivial ?_
        refine aj_callV (av := []) (st := []) (f := 2) (o := 0) (ci := 2) cal_X2_unmark lk_2_87 ins_X2_unmark rfl sel_X2_unmark rfl (fun c9 h9 _ => by simpa [ax_ok] using h9) (cp_unmark _ _ _ _ (by rw [zz7]; exact hA) hn2 (fun a z1 z2 => by rw [hp7]; exact hp6b a z1 (by rw [st1_sz]; omega)) (cUn (h := wSt1 h) (by rw [st1_sz]; omega) (by rw [st1_sz]; omega) (by rw [st1_sz]; omega) mm7 (fun a z1 z2 z3 => by rw [hp7]; exact hp6 a z1 z2 z3))) ⟨by decide, by decide, by decide, by decide⟩ (Nat.le_of_ble_eq_true rfl) (ax_dec2 (i := .invokevirtual 87) (n := 3) ok_X2_goOn rfl) (fun r M' hq => ?_)
        obtain ⟨rfl, g8, rfl, kk8, z8⟩ := hq
        obtain ⟨S8, F8⟩ := cGo_one hh i1 (by omega) hoa i3 q2 q2b kk3 kk4 kk5 v5 kk6 v6 v7 kk7 D7 s7 kk8 z8
        change ax_J _ _ _ _ _ _ _ _ _ 55 [some (.inr (.inr (some (2, 0)))), some (.inl u9), some (.inl b)] [] (P, g8, r0, n)
        refine aj_run (C := (-2147483648 ≤ b + 1 ∧ b + 1 ≤ 2147483647) ∧ True) (pc' := 7) (la' := [some (.inr (.inr (some (2, 0)))), some (.inl u9), some (.inl (b + 1))]) (st' := []) (M' := (P, g8, r0, n)) ok_X2_goOn true 2 rfl (by refine ⟨?_, trivial⟩ <;> (omega)) ?_
        refine ih7 (b + 1, g8) ?_ ?_
        · (try dsimp only); exact ⟨b + 1, by omega, by omega, S8, fun _ => rfl, cFr_t F8 (by rw [hz1] at *; exact i5), by omega⟩
        · omega
      · refine aj_run (C := True) (pc' := 48) (la' := [some (.inr (.inr (some (2, 0)))), some (.inl u9), some (.inl b)]) (st' := [.inr (.inr (some (2, 0)))]) (M' := (P, g6, r0, n)) ok_X2_goOn true 1 rfl trivial ?_
        refine aj_callV (av := []) (st := []) (f := 2) (o := 0) (ci := 2) cal_X2_lookAtEnds lk_2_84 ins_X2_lookAtEnds rfl sel_X2_lookAtEnds rfl (fun c9 h9 _ => by simpa [ax_ok] using h9) (cp_lookAtEnds _ _ _ _ (by rw [zz6]; exact hA) (wMeet (wSt1 h)) hpl6 hf6 hD6 h6 hn2 (wSt1 h) z2h (funext fun a => mt_o (by decide) (fun w => absurd w (by decide))) hf1 mm6 (by omega) (by omega) (by rw [kk6 2 0 12 (by unfold TMt; omega), hr5 12 (by decide), q2b]; omega) (by omega) t V (⟨hru.1, cRu_c (fun f j z1 z2 => ((kk6 f t j (by unfold TMt; omega)).trans ((kk5 f t j (by omega)).trans ((kk4 f t j (by unfold TMk; omega)).trans ((kk3 f t j (by unfold TMv; omega)).trans ((q2 f t j (by omega)).trans (i5 f t j (by unfold TGo; omega)))))))) hru.2⟩) hVn (fun p nm => by rw [wVl_s mt_ss, mt_o (by decide) (fun _ => by decide)]; exact hV1 p nm)) ⟨by decide, by decide, by decide, by decide⟩ (Nat.le_of_ble_eq_true rfl) (ax_dec2 (i := .invokevirtual 84) (n := 3) ok_X2_goOn rfl) (fun r M' hq => ?_)
        obtain ⟨rfl, g7, rfl, kk7, dd7, s7⟩ := hq
        rw [zz6] at kk7
        rw [z2h, st1_sz] at s7
        have D7 : ∀ a, 0 ≤ a → a < h 50 0 2 → cD1 g7 (wStep h) a := fun a z1 z2 => dd7 a z1 (by rw [z2h, st1_sz]; exact z2)
        change ax_J _ _ _ _ _ _ _ _ _ 51 [some (.inr (.inr (some (2, 0)))), some (.inl u9), some (.inl b)] [] (P, g7, r0, n)
        have zz7 : g7 2 0 1 = g 2 0 1 := (kk7 2 0 1 (by unfold TEn; omega)).trans zz6
        have hp7 : ∀ a, g7 5 a 3 = g6 5 a 3 := fun a => kk7 5 a 3 (by unfold TEn; omega)
        have mm7 : cMk g7 (wSt1 h) (wSt1 h 50 0 2) := fun p z1 z2 => by rw [kk7 214 0 p (by unfold TEn; omega), kk7 215 0 p (by unfold TEn; omega)]; exact mm6 p z1 z2
        refine aj_run (C := True) (pc' := 52) (la' := [some (.inr (.inr (some (2, 0)))), some (.inl u9), some (.inl b)]) (st' := [.inr (.inr (some (2, 0)))]) (M' := (P, g7, r0, n)) ok_X2_goOn true 1 rfl trivial ?_
        refine aj_callV (av := []) (st := []) (f := 2) (o := 0) (ci := 2) cal_X2_unmark lk_2_87 ins_X2_unmark rfl sel_X2_unmark rfl (fun c9 h9 _ => by simpa [ax_ok] using h9) (cp_unmark _ _ _ _ (by rw [zz7]; exact hA) hn2 (fun a z1 z2 => by rw [hp7]; exact hp6b a z1 (by rw [st1_sz]; omega)) (cUn (h := wSt1 h) (by rw [st1_sz]; omega) (by rw [st1_sz]; omega) (by rw [st1_sz]; omega) mm7 (fun a z1 z2 z3 => by rw [hp7]; exact hp6 a z1 z2 z3))) ⟨by decide, by decide, by decide, by decide⟩ (Nat.le_of_ble_eq_true rfl) (ax_dec2 (i := .invokevirtual 87) (n := 3) ok_X2_goOn rfl) (fun r M' hq => ?_)
        obtain ⟨rfl, g8, rfl, kk8, z8⟩ := hq
        obtain ⟨S8, F8⟩ := cGo_one hh i1 (by omega) hoa i3 q2 q2b kk3 kk4 kk5 v5 kk6 v6 v7 kk7 D7 s7 kk8 z8
        change ax_J _ _ _ _ _ _ _ _ _ 55 [some (.inr (.inr (some (2, 0)))), some (.inl u9), some (.inl b)] [] (P, g8, r0, n)
        refine aj_run (C := (-2147483648 ≤ b + 1 ∧ b + 1 ≤ 2147483647) ∧ True) (pc' := 7) (la' := [some (.inr (.inr (some (2, 0)))), some (.inl u9), some (.inl (b + 1))]) (st' := []) (M' := (P, g8, r0, n)) ok_X2_goOn true 2 rfl (by refine ⟨?_, trivial⟩ <;> (omega)) ?_
        refine ih7 (b + 1, g8) ?_ ?_
        · (try dsimp only); exact ⟨b + 1, by omega, by omega, S8, fun _ => rfl, cFr_t F8 (by rw [hz1] at *; exact i5), by omega⟩
        · omega

