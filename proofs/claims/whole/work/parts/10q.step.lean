/-- what no walk of the reference changes: all that stands between calls, and all that isn't the reference's -/
def wKp (g' g : Nat → Int → Int → Int) : Prop := (∀ f, f ≠ 50 → (f < 127 ∨ (145 < f ∧ f ≠ 158)) → g' f = g f) ∧ ∀ o j, (j < 39 ∨ 42 < j) → g' 50 o j = g 50 o j
theorem wKp.rf {g : Nat → Int → Int → Int} : wKp g g := ⟨fun _ _ _ => rfl, fun _ _ _ => rfl⟩
theorem wKp.tr {a b c : Nat → Int → Int → Int} (h : wKp a b) (h' : wKp b c) : wKp a c := ⟨fun f x y => (h.1 f x y).trans (h'.1 f x y), fun o j x => (h.2 o j x).trans (h'.2 o j x)⟩
theorem wKp_s {a b : Nat → Int → Int → Int} (h : wSs a b) : wKp a b := ⟨fun f x y => h.1 f x (by omega), h.2⟩
theorem wKp_a {a b : Nat → Int → Int → Int} (h : wAgr a b) : wKp a b := ⟨fun f x y => funext fun o => funext fun j => h f o j (by omega) (by omega), fun o j _ => h 50 o j (by decide) (by decide)⟩
theorem wKp_u {g : Nat → Int → Int → Int} {j x : Int} (hj : 39 ≤ j ∧ j ≤ 42) : wKp (ax_u3 g 50 0 j x) g := ⟨fun f h1 h2 => funext fun o => funext fun k => ax_u3_f h1, fun o k h => ax_u3_n (by omega)⟩
theorem wOs_k {g g' : Nat → Int → Int → Int} (h : wKp g' g) (hs : wOs g) : wOs g' := by
  unfold wOs at *
  have h1 := fun f a b => h.1 f a b
  rw [h.2 0 0 (by omega), h.2 0 1 (by omega), h.2 0 2 (by omega), h.2 0 10 (by omega), h.2 0 11 (by omega)]
  simp only [h1 103 (by decide) (by omega), h1 104 (by decide) (by omega), h1 105 (by decide) (by omega), h1 106 (by decide) (by omega), h1 107 (by decide) (by omega)]
  exact ⟨hs.1, hs.2.1, hs.2.2.1, hs.2.2.2.1, hs.2.2.2.2.1, fun t p z1 z2 z3 z4 => wRow1_co ⟨fun o j => by rw [h1 112 (by decide) (by omega)], fun o j => by rw [h1 113 (by decide) (by omega)]⟩ (hs.2.2.2.2.2.1 t p z1 z2 z3 z4), hs.2.2.2.2.2.2⟩
theorem wOs_R {g : Nat → Int → Int → Int} (hs : wOs g) : ∀ p, 0 ≤ p → p ≤ 2 → wRow1 g (3 * g 50 0 11 + p) := fun p h1 h2 => hs.2.2.2.2.2.1 _ p hs.2.2.2.2.1.1 hs.2.2.2.2.1.2 h1 h2
theorem wOs_u {g : Nat → Int → Int → Int} {j x : Int} (hj : 39 ≤ j ∧ j ≤ 42) (hs : wOs g) : wOs (ax_u3 g 50 0 j x) := wOs_s ⟨fun f h1 h2 => funext fun o => funext fun k => ax_u3_f h1, fun o k h => ax_u3_n (by omega)⟩ hs
set_option maxRecDepth 100000 in
set_option maxHeartbeats 4000000 in
theorem sp_step (P : Nat → Int → Prop) (g : Nat → Int → Int → Int) (r0 : Nat → Int → Int → Option (Nat × Int)) (n : Nat → Int → Int) (hn : mLen n) (hs : wOs g) (hd : wOd g) (hb : g 50 0 39 ≤ 1000) : ax_S yX11_step cX11_step 2 (some FieldType.boolean) 5 0 0 [.inr (.inr (some (50, 0)))] (P, g, r0, n) (fun r M' => r = some (.inl (wAny (wSt1 g) (g 50 0 2))) ∧ ∃ g', M' = (P, g', r0, n) ∧ wEq g' (wStep g) ∧ wKp g' g) := by
  have hs0 : wOs (ax_u3 g 50 0 39 (g 50 0 39 + 1)) := wOs_u (by decide) hs
  have hs1 : wOs (wSt1 g) := wOs_s st1_ss hs
  have hb1 := hd.1
  refine ax_S_of (own := 11) (by decide) rfl (fun h => absurd h (by decide)) rfl (Nat.le_of_ble_eq_true rfl) ?_
  change ax_J _ _ _ _ _ _ _ _ _ _ [some (.inr (.inr (some (50, 0)))), none] _ _
  refine aj_run (C := (-2147483648 ≤ (g 50 0 39) + 1 ∧ (g 50 0 39) + 1 ≤ 2147483647) ∧ True) (pc' := 11) (la' := [some (.inr (.inr (some (50, 0)))), none]) (st' := [.inr (.inr (some (50, 0)))]) (M' := (P, ax_u3 g 50 0 39 ((g 50 0 39) + 1), r0, n)) ok_X11_step true 7 rfl (by refine ⟨?_, trivial⟩ <;> (omega)) ?_
  refine aj_callV (av := []) (st := []) (f := 50) (o := 0) (ci := 11) cal_X11_go lk_11_262 ins_X11_go rfl sel_X11_go rfl (fun c9 h9 _ => by simpa [ax_ok] using h9) (sp_go _ _ _ _ hn hs0.2.2.1 hs0.1 (fun a q1 q2 => by have z1 := (hd.2 a q1 q2).2.1; have z2 := hs.1; have z3 := hs.2.1; change -1 ≤ g 129 0 a ∧ g 129 0 a ≤ 80; omega) (fun a q1 q2 => by have z1 := hs.2.2.2.2.2.2 a q1 q2; have z2 := hs.1; change (0 ≤ g 106 0 a ∧ g 106 0 a ≤ 20) ∧ 1 ≤ g 104 0 a ∧ g 104 0 a ≤ 40; omega)) ⟨by decide, by decide, by decide, by decide⟩ (Nat.le_of_ble_eq_true rfl) (ax_dec2 (i := .invokevirtual 262) (n := 3) ok_X11_step rfl) (fun r M' hq => ?_)
  obtain ⟨rfl, rfl⟩ := hq
  change ax_J _ _ _ _ _ _ _ _ _ 14 [some (.inr (.inr (some (50, 0)))), none] [] (P, wSt1 g, r0, n)
  refine aj_run (C := True) (pc' := 15) (la' := [some (.inr (.inr (some (50, 0)))), none]) (st' := [.inr (.inr (some (50, 0)))]) (M' := (P, wSt1 g, r0, n)) ok_X11_step true 1 rfl trivial ?_
  refine aj_callV (av := []) (st := []) (f := 50) (o := 0) (ci := 11) cal_X11_meet lk_11_265 ins_X11_meet rfl sel_X11_meet rfl (fun c9 h9 _ => by simpa [ax_ok] using h9) (sp_meet _ _ _ _ hn hs1.2.2.1 (fun a q1 q2 => by rw [st1_130]; exact (hd.2 a q1 (by rw [st1_sz] at q2; exact q2)).1) ⟨hs1.2.2.2.2.1.1, by have z1 := hs1.2.2.2.2.1; have z2 := hs1.2.2.2.1; omega⟩ (wOs_R hs1)) ⟨by decide, by decide, by decide, by decide⟩ (Nat.le_of_ble_eq_true rfl) (ax_dec2 (i := .invokevirtual 265) (n := 3) ok_X11_step rfl) (fun r M' hq => ?_)
  obtain ⟨rfl, g7, rfl, hg7⟩ := hq
  have e7 := wEq_agr hg7
  have hs7 : wOs g7 := wOs_e e7 (wOs_s mt_ss hs1)
  have e72 : g7 50 0 2 = g 50 0 2 := by rw [e7 50 rfl, mt_sz, st1_sz]
  rw [st1_sz]
  change ax_J _ _ _ _ _ _ _ _ _ 18 [some (.inr (.inr (some (50, 0)))), none] [.inl (wAny (wSt1 g) (g 50 0 2))] (P, g7, r0, n)
  refine aj_run (C := True) (pc' := 20) (la' := [some (.inr (.inr (some (50, 0)))), some (.inl (wAny (wSt1 g) (g 50 0 2)))]) (st' := [.inr (.inr (some (50, 0)))]) (M' := (P, g7, r0, n)) ok_X11_step true 2 rfl trivial ?_
  refine aj_callV (av := []) (st := []) (f := 50) (o := 0) (ci := 11) cal_X11_ends lk_11_268 ins_X11_ends rfl sel_X11_ends rfl (fun c9 h9 _ => by simpa [ax_ok] using h9) (sp_ends _ _ _ _ hn hs7.2.2.1 hs7.1 (fun a q1 q2 => by rw [e72] at q2; rw [e7 130 rfl]; exact mt_130b q1 (by rw [st1_sz]; exact q2) (by rw [st1_130]; exact (hd.2 a q1 q2).1)) ⟨hs7.2.2.2.2.1.1, by have z1 := hs7.2.2.2.2.1; have z2 := hs7.2.2.2.1; omega⟩ (wOs_R hs7)) ⟨by decide, by decide, by decide, by decide⟩ (Nat.le_of_ble_eq_true rfl) (ax_dec2 (i := .invokevirtual 268) (n := 3) ok_X11_step rfl) (fun r M' hq => ?_)
  obtain ⟨rfl, g8, rfl, hg8⟩ := hq
  change ax_J _ _ _ _ _ _ _ _ _ 23 [some (.inr (.inr (some (50, 0)))), some (.inl (wAny (wSt1 g) (g 50 0 2)))] [] (P, g8, r0, n)
  refine aj_run (C := True) (pc' := 24) (la' := [some (.inr (.inr (some (50, 0)))), some (.inl (wAny (wSt1 g) (g 50 0 2)))]) (st' := [.inl (wAny (wSt1 g) (g 50 0 2))]) (M' := (P, g8, r0, n)) ok_X11_step true 1 rfl trivial ?_
  refine aj_ret (r := some (.inl (wAny (wSt1 g) (g 50 0 2)))) (ax_dec2 (i := .ireturn) (n := 1) ok_X11_step rfl) ⟨?_, ?_, by decide, by decide⟩ rfl
  · exact ⟨rfl, _, rfl, wEq.tr (wEq_agr hg8) (wEq_ends e7), (wKp_a hg8).tr ((wKp_s en_ss).tr ((wKp_a hg7).tr ((wKp_s mt_ss).tr (wKp_s st1_ss))))⟩
  · exact ax_ro_b wAny_01

set_option maxRecDepth 100000 in
set_option maxHeartbeats 4000000 in
theorem sp_goAll (ways : Int) (P : Nat → Int → Prop) (g : Nat → Int → Int → Int) (r0 : Nat → Int → Int → Option (Nat × Int)) (n : Nat → Int → Int) (hn : mLen n) (hs : wOs g) : ax_S yX11_goAll cX11_goAll 3 none 6 0 0 [.inr (.inr (some (50, 0))), .inl ways] (P, g, r0, n) (fun r M' => r = none ∧ ∃ g', M' = (P, g', r0, n) ∧ wEq g' (wIt (wBegin g ways) 201) ∧ wKp g' g) := by
  have hsB : wOs (wBegin g ways) := wOs_s beg_ss hs
  have hdB : wOd (wBegin g ways) := beg_od hs
  refine ax_S_of (own := 11) (by decide) rfl (fun h => absurd h (by decide)) rfl (Nat.le_of_ble_eq_true rfl) ?_
  change ax_J _ _ _ _ _ _ _ _ _ _ [some (.inr (.inr (some (50, 0)))), some (.inl ways), none] _ _
  refine aj_run (C := True) (pc' := 2) (la' := [some (.inr (.inr (some (50, 0)))), some (.inl ways), none]) (st' := [.inl ways, .inr (.inr (some (50, 0)))]) (M' := (P, g, r0, n)) ok_X11_goAll true 2 rfl trivial ?_
  refine aj_callV (av := [.inl ways]) (st := []) (f := 50) (o := 0) (ci := 11) cal_X11_begin lk_11_271 ins_X11_begin rfl sel_X11_begin rfl (fun c9 h9 _ => by simpa [ax_ok] using h9) (sp_begin ways _ _ _ _ hn hs.2.2.1) ⟨by decide, by decide, by decide, by decide⟩ (Nat.le_of_ble_eq_true rfl) (ax_dec2 (i := .invokevirtual 271) (n := 3) ok_X11_goAll rfl) (fun r M' hq => ?_)
  obtain ⟨rfl, rfl⟩ := hq
  change ax_J _ _ _ _ _ _ _ _ _ 5 [some (.inr (.inr (some (50, 0)))), some (.inl ways), none] [] (P, wBegin g ways, r0, n)
  refine aj_run (C := True) (pc' := 7) (la' := [some (.inr (.inr (some (50, 0)))), some (.inl ways), some (.inl 0)]) (st' := []) (M' := (P, wBegin g ways, r0, n)) ok_X11_goAll true 2 rfl trivial ?_
  refine aj_loop (σ := (Int) × (Nat → Int → Int → Int)) (fun x => 0 ≤ x.1 ∧ x.1 ≤ 201 ∧ wEq x.2 (wIt (wBegin g ways) x.1.toNat) ∧ wKp x.2 g) (fun x => (201 - x.1).toNat) (fun x => [some (.inr (.inr (some (50, 0)))), some (.inl ways), some (.inl x.1)]) (fun x => []) (fun x => (P, x.2, r0, n)) ?_ (0, wBegin g ways) ?_
  rotate_left
  · exact ⟨by omega, by omega, wEq.rf, wKp_s beg_ss⟩
  rintro ⟨k, g1⟩ hI ih7
  try dsimp only at hI ih7
  obtain ⟨i1, i2, i3, i4⟩ := hI
  change ax_J _ _ _ _ _ _ _ _ _ 7 [some (.inr (.inr (some (50, 0)))), some (.inl ways), some (.inl k)] [] (P, g1, r0, n)
  obtain ⟨hs1, hd1, hb1⟩ := it_ok (g := wBegin g ways) hsB hdB k.toNat
  replace hs1 := wOs_e i3 hs1
  replace hd1 := wOd_e i3 hd1
  rw [show wIt (wBegin g ways) k.toNat = wIt (wBegin g ways) k.toNat from rfl, ← i3 50 rfl] at hb1
  have hb0 : (wBegin g ways) 50 0 39 = -1 := beg_b
  refine aj_run (C := True) (pc' := 11) (la' := [some (.inr (.inr (some (50, 0)))), some (.inl ways), some (.inl k)]) (st' := [.inl 200, .inl k]) (M' := (P, g1, r0, n)) ok_X11_goAll true 2 rfl trivial ?_
  refine aj_icmp_gt (tgt := 25) (ax_dec2 (i := .if_icmp .gt 14) (n := 3) ok_X11_goAll rfl) (by decide) (fun c1 => ?_) (fun c1 => ?_)
  · refine aj_ret (r := none) (ax_dec2 (i := .return_) (n := 1) ok_X11_goAll rfl) ⟨?_, ?_, by decide, by decide⟩ rfl
    · exact ⟨rfl, _, rfl, by rw [show k.toNat = 201 by omega] at i3; exact i3, i4⟩
    · exact trivial
  · refine aj_run (C := True) (pc' := 15) (la' := [some (.inr (.inr (some (50, 0)))), some (.inl ways), some (.inl k)]) (st' := [.inr (.inr (some (50, 0)))]) (M' := (P, g1, r0, n)) ok_X11_goAll true 1 rfl trivial ?_
    refine aj_callV (av := []) (st := []) (f := 50) (o := 0) (ci := 11) cal_X11_step lk_11_274 ins_X11_step rfl sel_X11_step rfl (fun c9 h9 _ => by simpa [ax_ok] using h9) (sp_step _ _ _ _ hn hs1 hd1 (by omega)) ⟨by decide, by decide, by decide, by decide⟩ (Nat.le_of_ble_eq_true rfl) (ax_dec2 (i := .invokevirtual 274) (n := 3) ok_X11_goAll rfl) (fun r M' hq => ?_)
    obtain ⟨rfl, g2, rfl, hg2, kpg2⟩ := hq
    have e2 : wEq g2 (wIt (wBegin g ways) (k.toNat + 1)) := wEq.tr hg2 (wEq_step i3)
    rw [show k.toNat + 1 = (k + 1).toNat by omega] at e2
    have kpz2 := kpg2.tr i4
    change ax_J _ _ _ _ _ _ _ _ _ 18 [some (.inr (.inr (some (50, 0)))), some (.inl ways), some (.inl k)] [.inl (wAny (wSt1 g1) (g1 50 0 2))] (P, g2, r0, n)
    refine aj_run (C := (-2147483648 ≤ k + 1 ∧ k + 1 ≤ 2147483647) ∧ True) (pc' := 7) (la' := [some (.inr (.inr (some (50, 0)))), some (.inl ways), some (.inl (k + 1))]) (st' := []) (M' := (P, g2, r0, n)) ok_X11_goAll true 3 rfl (by refine ⟨?_, trivial⟩ <;> (omega)) ?_
    refine ih7 (k + 1, g2) ?_ ?_
    · exact ⟨by omega, by omega, e2, kpz2⟩
    · omega

set_option maxRecDepth 100000 in
set_option maxHeartbeats 4000000 in
theorem sp_goTo (t : Int) (P : Nat → Int → Prop) (g : Nat → Int → Int → Int) (r0 : Nat → Int → Int → Option (Nat × Int)) (n : Nat → Int → Int) (hn : mLen n) (hs : wOs g) (ht : 0 ≤ t ∧ t ≤ 200) : ax_S yX11_goTo cX11_goTo 3 none 6 0 0 [.inr (.inr (some (50, 0))), .inl t] (P, g, r0, n) (fun r M' => r = none ∧ ∃ g', M' = (P, g', r0, n) ∧ wEq g' (wIt (wBegin g (wSet (g 105 0) (g 50 0 2))) (t + 1).toNat) ∧ wKp g' g) := by
  have hsB : wOs (wBegin g (wSet (g 105 0) (g 50 0 2))) := wOs_s beg_ss hs
  have hdB : wOd (wBegin g (wSet (g 105 0) (g 50 0 2))) := beg_od hs
  refine ax_S_of (own := 11) (by decide) rfl (fun h => absurd h (by decide)) rfl (Nat.le_of_ble_eq_true rfl) ?_
  change ax_J _ _ _ _ _ _ _ _ _ _ [some (.inr (.inr (some (50, 0)))), some (.inl t), none] _ _
  refine aj_run (C := True) (pc' := 2) (la' := [some (.inr (.inr (some (50, 0)))), some (.inl t), none]) (st' := [.inr (.inr (some (50, 0))), .inr (.inr (some (50, 0)))]) (M' := (P, g, r0, n)) ok_X11_goTo true 2 rfl trivial ?_
  refine aj_callV (av := []) (st := [.inr (.inr (some (50, 0)))]) (f := 50) (o := 0) (ci := 11) cal_X11_asSet lk_11_277 ins_X11_asSet rfl sel_X11_asSet rfl (fun c9 h9 _ => by simpa [ax_ok] using h9) (sp_asSet _ _ _ _ hn hs.2.2.1) ⟨by decide, by decide, by decide, by decide⟩ (Nat.le_of_ble_eq_true rfl) (ax_dec2 (i := .invokevirtual 277) (n := 3) ok_X11_goTo rfl) (fun r M' hq => ?_)
  obtain ⟨rfl, rfl⟩ := hq
  change ax_J _ _ _ _ _ _ _ _ _ 5 [some (.inr (.inr (some (50, 0)))), some (.inl t), none] [.inl (wSet (g 105 0) (g 50 0 2)), .inr (.inr (some (50, 0)))] (P, g, r0, n)
  refine aj_callV (av := [.inl (wSet (g 105 0) (g 50 0 2))]) (st := []) (f := 50) (o := 0) (ci := 11) cal_X11_begin lk_11_271 ins_X11_begin rfl sel_X11_begin rfl (fun c9 h9 _ => by simpa [ax_ok] using h9) (sp_begin (wSet (g 105 0) (g 50 0 2)) _ _ _ _ hn hs.2.2.1) ⟨by decide, by decide, by decide, by decide⟩ (Nat.le_of_ble_eq_true rfl) (ax_dec2 (i := .invokevirtual 271) (n := 3) ok_X11_goTo rfl) (fun r M' hq => ?_)
  obtain ⟨rfl, rfl⟩ := hq
  change ax_J _ _ _ _ _ _ _ _ _ 8 [some (.inr (.inr (some (50, 0)))), some (.inl t), none] [] (P, wBegin g (wSet (g 105 0) (g 50 0 2)), r0, n)
  refine aj_run (C := True) (pc' := 10) (la' := [some (.inr (.inr (some (50, 0)))), some (.inl t), some (.inl 0)]) (st' := []) (M' := (P, wBegin g (wSet (g 105 0) (g 50 0 2)), r0, n)) ok_X11_goTo true 2 rfl trivial ?_
  refine aj_loop (σ := (Int) × (Nat → Int → Int → Int)) (fun x => 0 ≤ x.1 ∧ x.1 ≤ (t + 1) ∧ wEq x.2 (wIt (wBegin g (wSet (g 105 0) (g 50 0 2))) x.1.toNat) ∧ wKp x.2 g) (fun x => ((t + 1) - x.1).toNat) (fun x => [some (.inr (.inr (some (50, 0)))), some (.inl t), some (.inl x.1)]) (fun x => []) (fun x => (P, x.2, r0, n)) ?_ (0, wBegin g (wSet (g 105 0) (g 50 0 2))) ?_
  rotate_left
  · exact ⟨by omega, by omega, wEq.rf, wKp_s beg_ss⟩
  rintro ⟨k, g1⟩ hI ih10
  try dsimp only at hI ih10
  obtain ⟨i1, i2, i3, i4⟩ := hI
  change ax_J _ _ _ _ _ _ _ _ _ 10 [some (.inr (.inr (some (50, 0)))), some (.inl t), some (.inl k)] [] (P, g1, r0, n)
  obtain ⟨hs1, hd1, hb1⟩ := it_ok (g := wBegin g (wSet (g 105 0) (g 50 0 2))) hsB hdB k.toNat
  replace hs1 := wOs_e i3 hs1
  replace hd1 := wOd_e i3 hd1
  rw [show wIt (wBegin g (wSet (g 105 0) (g 50 0 2))) k.toNat = wIt (wBegin g (wSet (g 105 0) (g 50 0 2))) k.toNat from rfl, ← i3 50 rfl] at hb1
  have hb0 : (wBegin g (wSet (g 105 0) (g 50 0 2))) 50 0 39 = -1 := beg_b
  refine aj_run (C := True) (pc' := 12) (la' := [some (.inr (.inr (some (50, 0)))), some (.inl t), some (.inl k)]) (st' := [.inl t, .inl k]) (M' := (P, g1, r0, n)) ok_X11_goTo true 2 rfl trivial ?_
  refine aj_icmp_gt (tgt := 26) (ax_dec2 (i := .if_icmp .gt 14) (n := 3) ok_X11_goTo rfl) (by decide) (fun c1 => ?_) (fun c1 => ?_)
  · refine aj_ret (r := none) (ax_dec2 (i := .return_) (n := 1) ok_X11_goTo rfl) ⟨?_, ?_, by decide, by decide⟩ rfl
    · exact ⟨rfl, _, rfl, by rw [show (t + 1).toNat = k.toNat by omega]; exact i3, i4⟩
    · exact trivial
  · refine aj_run (C := True) (pc' := 16) (la' := [some (.inr (.inr (some (50, 0)))), some (.inl t), some (.inl k)]) (st' := [.inr (.inr (some (50, 0)))]) (M' := (P, g1, r0, n)) ok_X11_goTo true 1 rfl trivial ?_
    refine aj_callV (av := []) (st := []) (f := 50) (o := 0) (ci := 11) cal_X11_step lk_11_274 ins_X11_step rfl sel_X11_step rfl (fun c9 h9 _ => by simpa [ax_ok] using h9) (sp_step _ _ _ _ hn hs1 hd1 (by omega)) ⟨by decide, by decide, by decide, by decide⟩ (Nat.le_of_ble_eq_true rfl) (ax_dec2 (i := .invokevirtual 274) (n := 3) ok_X11_goTo rfl) (fun r M' hq => ?_)
    obtain ⟨rfl, g2, rfl, hg2, kpg2⟩ := hq
    have e2 : wEq g2 (wIt (wBegin g (wSet (g 105 0) (g 50 0 2))) (k.toNat + 1)) := wEq.tr hg2 (wEq_step i3)
    rw [show k.toNat + 1 = (k + 1).toNat by omega] at e2
    have kpz2 := kpg2.tr i4
    change ax_J _ _ _ _ _ _ _ _ _ 19 [some (.inr (.inr (some (50, 0)))), some (.inl t), some (.inl k)] [.inl (wAny (wSt1 g1) (g1 50 0 2))] (P, g2, r0, n)
    refine aj_run (C := (-2147483648 ≤ k + 1 ∧ k + 1 ≤ 2147483647) ∧ True) (pc' := 10) (la' := [some (.inr (.inr (some (50, 0)))), some (.inl t), some (.inl (k + 1))]) (st' := []) (M' := (P, g2, r0, n)) ok_X11_goTo true 3 rfl (by refine ⟨?_, trivial⟩ <;> (omega)) ?_
    refine ih10 (k + 1, g2) ?_ ?_
    · exact ⟨by omega, by omega, e2, kpz2⟩
    · omega

set_option maxRecDepth 100000 in
set_option maxHeartbeats 4000000 in
theorem sp_goThrough (P : Nat → Int → Prop) (g : Nat → Int → Int → Int) (r0 : Nat → Int → Int → Option (Nat × Int)) (n : Nat → Int → Int) (hn : mLen n) (hs : wOs g) : ax_S yX11_goThrough cX11_goThrough 2 none 6 0 0 [.inr (.inr (some (50, 0)))] (P, g, r0, n) (fun r M' => r = none ∧ ∃ g', M' = (P, g', r0, n) ∧ wEq g' (wIt (ax_u3 (wBegin g (wSet (g 105 0) (g 50 0 2))) 50 0 42 1) 201) ∧ wKp g' g) := by
  have hsB : wOs (ax_u3 (wBegin g (wSet (g 105 0) (g 50 0 2))) 50 0 42 1) := wOs_u (by decide) (wOs_s beg_ss hs)
  have hdB : wOd (ax_u3 (wBegin g (wSet (g 105 0) (g 50 0 2))) 50 0 42 1) := beg_od hs
  refine ax_S_of (own := 11) (by decide) rfl (fun h => absurd h (by decide)) rfl (Nat.le_of_ble_eq_true rfl) ?_
  change ax_J _ _ _ _ _ _ _ _ _ _ [some (.inr (.inr (some (50, 0)))), none] _ _
  refine aj_run (C := True) (pc' := 2) (la' := [some (.inr (.inr (some (50, 0)))), none]) (st' := [.inr (.inr (some (50, 0))), .inr (.inr (some (50, 0)))]) (M' := (P, g, r0, n)) ok_X11_goThrough true 2 rfl trivial ?_
  refine aj_callV (av := []) (st := [.inr (.inr (some (50, 0)))]) (f := 50) (o := 0) (ci := 11) cal_X11_asSet lk_11_277 ins_X11_asSet rfl sel_X11_asSet rfl (fun c9 h9 _ => by simpa [ax_ok] using h9) (sp_asSet _ _ _ _ hn hs.2.2.1) ⟨by decide, by decide, by decide, by decide⟩ (Nat.le_of_ble_eq_true rfl) (ax_dec2 (i := .invokevirtual 277) (n := 3) ok_X11_goThrough rfl) (fun r M' hq => ?_)
  obtain ⟨rfl, rfl⟩ := hq
  change ax_J _ _ _ _ _ _ _ _ _ 5 [some (.inr (.inr (some (50, 0)))), none] [.inl (wSet (g 105 0) (g 50 0 2)), .inr (.inr (some (50, 0)))] (P, g, r0, n)
  refine aj_callV (av := [.inl (wSet (g 105 0) (g 50 0 2))]) (st := []) (f := 50) (o := 0) (ci := 11) cal_X11_begin lk_11_271 ins_X11_begin rfl sel_X11_begin rfl (fun c9 h9 _ => by simpa [ax_ok] using h9) (sp_begin (wSet (g 105 0) (g 50 0 2)) _ _ _ _ hn hs.2.2.1) ⟨by decide, by decide, by decide, by decide⟩ (Nat.le_of_ble_eq_true rfl) (ax_dec2 (i := .invokevirtual 271) (n := 3) ok_X11_goThrough rfl) (fun r M' hq => ?_)
  obtain ⟨rfl, rfl⟩ := hq
  change ax_J _ _ _ _ _ _ _ _ _ 8 [some (.inr (.inr (some (50, 0)))), none] [] (P, wBegin g (wSet (g 105 0) (g 50 0 2)), r0, n)
  refine aj_run (C := (1 = 0 ∨ 1 = 1) ∧ True) (pc' := 15) (la' := [some (.inr (.inr (some (50, 0)))), some (.inl 0)]) (st' := []) (M' := (P, ax_u3 (wBegin g (wSet (g 105 0) (g 50 0 2))) 50 0 42 1, r0, n)) ok_X11_goThrough true 5 rfl (by refine ⟨?_, trivial⟩ <;> (omega)) ?_
  refine aj_loop (σ := (Int) × (Nat → Int → Int → Int)) (fun x => 0 ≤ x.1 ∧ x.1 ≤ 201 ∧ wEq x.2 (wIt (ax_u3 (wBegin g (wSet (g 105 0) (g 50 0 2))) 50 0 42 1) x.1.toNat) ∧ wKp x.2 g) (fun x => (201 - x.1).toNat) (fun x => [some (.inr (.inr (some (50, 0)))), some (.inl x.1)]) (fun x => []) (fun x => (P, x.2, r0, n)) ?_ (0, ax_u3 (wBegin g (wSet (g 105 0) (g 50 0 2))) 50 0 42 1) ?_
  rotate_left
  · exact ⟨by omega, by omega, wEq.rf, (wKp_u (by decide)).tr (wKp_s beg_ss)⟩
  rintro ⟨k, g1⟩ hI ih15
  try dsimp only at hI ih15
  obtain ⟨i1, i2, i3, i4⟩ := hI
  change ax_J _ _ _ _ _ _ _ _ _ 15 [some (.inr (.inr (some (50, 0)))), some (.inl k)] [] (P, g1, r0, n)
  obtain ⟨hs1, hd1, hb1⟩ := it_ok (g := ax_u3 (wBegin g (wSet (g 105 0) (g 50 0 2))) 50 0 42 1) hsB hdB k.toNat
  replace hs1 := wOs_e i3 hs1
  replace hd1 := wOd_e i3 hd1
  rw [show wIt (ax_u3 (wBegin g (wSet (g 105 0) (g 50 0 2))) 50 0 42 1) k.toNat = wIt (ax_u3 (wBegin g (wSet (g 105 0) (g 50 0 2))) 50 0 42 1) k.toNat from rfl, ← i3 50 rfl] at hb1
  have hb0 : (ax_u3 (wBegin g (wSet (g 105 0) (g 50 0 2))) 50 0 42 1) 50 0 39 = -1 := (by rw [ax_u3_n (by omega)]; exact beg_b)
  refine aj_run (C := True) (pc' := 19) (la' := [some (.inr (.inr (some (50, 0)))), some (.inl k)]) (st' := [.inl 200, .inl k]) (M' := (P, g1, r0, n)) ok_X11_goThrough true 2 rfl trivial ?_
  refine aj_icmp_gt (tgt := 33) (ax_dec2 (i := .if_icmp .gt 14) (n := 3) ok_X11_goThrough rfl) (by decide) (fun c1 => ?_) (fun c1 => ?_)
  · refine aj_ret (r := none) (ax_dec2 (i := .return_) (n := 1) ok_X11_goThrough rfl) ⟨?_, ?_, by decide, by decide⟩ rfl
    · exact ⟨rfl, _, rfl, by rw [show k.toNat = 201 by omega] at i3; exact i3, i4⟩
    · exact trivial
  · refine aj_run (C := True) (pc' := 23) (la' := [some (.inr (.inr (some (50, 0)))), some (.inl k)]) (st' := [.inr (.inr (some (50, 0)))]) (M' := (P, g1, r0, n)) ok_X11_goThrough true 1 rfl trivial ?_
    refine aj_callV (av := []) (st := []) (f := 50) (o := 0) (ci := 11) cal_X11_step lk_11_274 ins_X11_step rfl sel_X11_step rfl (fun c9 h9 _ => by simpa [ax_ok] using h9) (sp_step _ _ _ _ hn hs1 hd1 (by omega)) ⟨by decide, by decide, by decide, by decide⟩ (Nat.le_of_ble_eq_true rfl) (ax_dec2 (i := .invokevirtual 274) (n := 3) ok_X11_goThrough rfl) (fun r M' hq => ?_)
    obtain ⟨rfl, g2, rfl, hg2, kpg2⟩ := hq
    have e2 : wEq g2 (wIt (ax_u3 (wBegin g (wSet (g 105 0) (g 50 0 2))) 50 0 42 1) (k.toNat + 1)) := wEq.tr hg2 (wEq_step i3)
    rw [show k.toNat + 1 = (k + 1).toNat by omega] at e2
    have kpz2 := kpg2.tr i4
    change ax_J _ _ _ _ _ _ _ _ _ 26 [some (.inr (.inr (some (50, 0)))), some (.inl k)] [.inl (wAny (wSt1 g1) (g1 50 0 2))] (P, g2, r0, n)
    refine aj_run (C := (-2147483648 ≤ k + 1 ∧ k + 1 ≤ 2147483647) ∧ True) (pc' := 15) (la' := [some (.inr (.inr (some (50, 0)))), some (.inl (k + 1))]) (st' := []) (M' := (P, g2, r0, n)) ok_X11_goThrough true 3 rfl (by refine ⟨?_, trivial⟩ <;> (omega)) ?_
    refine ih15 (k + 1, g2) ?_ ?_
    · exact ⟨by omega, by omega, e2, kpz2⟩
    · omega

