def wRoC (f : Nat) : Bool := f == 144 || f == 145
def wRoV (G : Nat → Int → Int → Int) (f : Nat) (j : Int) : Int := if f = 144 then G 129 0 j else G 130 0 j
def wRo (G : Nat → Int → Int → Int) (m : Int) : Nat → Int → Int → Int := ptw wRoC (wRoV G) G m
theorem wRo_s {G : Nat → Int → Int → Int} {a x y : Int} (i1 : 0 ≤ a) (hx : x = G 129 0 a) (hy : y = G 130 0 a) : ax_u3 (ax_u3 (wRo G a) 144 0 a x) 145 0 a y = wRo G (a + 1) := by
  refine ptw_s i1 (fun f h => ?_) (fun f o j h => ?_)
  · have e : f = 144 ∨ f = 145 := by simpa [wRoC] using h
    rcases e with rfl | rfl <;> simp [ax_u3, wRoV, hx, hy]
  · have e : ∀ F, wRoC F = true → ¬ (f = F ∧ o = 0 ∧ j = a) := fun F hF z => h ⟨by rw [z.1]; exact hF, z.2⟩
    rw [ax_u3_n (e _ rfl), ax_u3_n (e _ rfl)]
    rfl
theorem wRo_o {G : Nat → Int → Int → Int} {m o j : Int} {f : Nat} (h : wRoC f = false) : wRo G m f o j = G f o j := ptw_o h
theorem wRo_kp {G : Nat → Int → Int → Int} {m : Int} : wKp (wRo G m) G := ⟨fun f h1 h2 => funext fun o => funext fun j => wRo_o (by simp [wRoC]; omega), fun o j _ => wRo_o rfl⟩
theorem wRo_ed {G : Nat → Int → Int → Int} {m : Int} : wEd (wRo G m) G := ⟨wKr_p wRo_kp, fun j _ _ => wRo_o rfl, fun f a h1 h2 _ _ => wRo_o (by simp [wRoC]; omega)⟩
theorem wOd_d {g' g : Nat → Int → Int → Int} (h : wEd g' g) (hd : wOd g) : wOd g' := by
  unfold wOd at *
  rw [h.v 39, h.v 2, h.v 0, h.v 1]
  exact ⟨hd.1, fun a h1 h2 => by rw [h.2.2 130 a (by omega) (by omega) h1 h2, h.2.2 129 a (by omega) (by omega) h1 h2]; exact hd.2 a h1 h2⟩
def mCpy (g : Nat → Int → Int → Int) (s i u j m : Int) : Int := if (0 ≤ s ∧ s ≤ 3) ∧ 0 ≤ u ∧ u ≤ 3 then (if g 155 0 s < 0 ∨ g 155 0 u < 0 then -11 else if g 155 0 s ≠ g 155 0 u then -13 else if m < 0 ∨ i < 0 ∨ j < 0 ∨ g 156 0 s - i < m ∨ g 156 0 u - j < m then -12 else m) else -2
/-- m numbers from place x on, at place y on -/
def wCp (g : Nat → Int → Int → Int) (x y m : Int) : Nat → Int → Int → Int := fun f o j => if f = 157 ∧ o = 0 ∧ y ≤ j ∧ j < y + m then g 157 0 (x + (j - y)) else g f o j
def mCpyM (g : Nat → Int → Int → Int) (s i u j m : Int) : Nat → Int → Int → Int := if 0 ≤ mCpy g s i u j m then wCp g (40 * s + i) (40 * u + j) m else g
def wC1 (g : Nat → Int → Int → Int) (x m : Int) : Nat → Int → Int → Int := ptw (fun f => f == 158) (fun _ k => g 157 0 (x + k)) g m
theorem wC1_s {g : Nat → Int → Int → Int} {x k v : Int} (h : 0 ≤ k) (hv : v = g 157 0 (x + k)) : ax_u3 (wC1 g x k) 158 0 k v = wC1 g x (k + 1) := by
  refine ptw_s h (fun f hf => ?_) (fun f o j hf => ?_)
  · have e : f = 158 := by simpa using hf
    subst e
    rw [ax_u3_s, hv]
  · rw [ax_u3_n (fun z => hf ⟨by rw [z.1]; rfl, z.2⟩)]
    rfl
theorem wC1_o {g : Nat → Int → Int → Int} {x m o j : Int} {f : Nat} (h : f ≠ 158) : wC1 g x m f o j = g f o j := ptw_o (by simpa using h)
theorem wC1_r {g : Nat → Int → Int → Int} {x m k : Int} (h1 : 0 ≤ k) (h2 : k < m) : wC1 g x m 158 0 k = g 157 0 (x + k) := ptw_r rfl h1 h2
def wC2 (g : Nat → Int → Int → Int) (x y m k : Int) : Nat → Int → Int → Int := fun f o j => if f = 157 ∧ o = 0 ∧ y ≤ j ∧ j < y + k then g 157 0 (x + (j - y)) else wC1 g x m f o j
theorem wC2_0 {g : Nat → Int → Int → Int} {x y m : Int} : wC1 g x m = wC2 g x y m 0 := by
  funext f o j
  unfold wC2
  rw [if_neg (by omega)]
theorem wC2_at {g : Nat → Int → Int → Int} {x y m k : Int} (h1 : 0 ≤ k) (h2 : k < m) : wC2 g x y m k 158 0 k = g 157 0 (x + k) := by
  unfold wC2
  rw [if_neg (by omega), wC1_r h1 h2]
theorem wC2_s {g : Nat → Int → Int → Int} {x y m k v z : Int} (h : 0 ≤ k) (hv : v = g 157 0 (x + k)) (hz : z = y + k) : ax_u3 (wC2 g x y m k) 157 0 z v = wC2 g x y m (k + 1) := by
  subst hz
  funext f o j
  by_cases q : f = 157 ∧ o = 0 ∧ j = y + k
  · obtain ⟨rfl, rfl, rfl⟩ := q
    rw [ax_u3_s, hv]
    unfold wC2
    rw [if_pos (by omega), show x + (y + k - y) = x + k by omega]
  · rw [ax_u3_n q]
    unfold wC2
    by_cases q2 : f = 157 ∧ o = 0 ∧ y ≤ j ∧ j < y + k
    · rw [if_pos q2, if_pos (by omega)]
    · rw [if_neg q2, if_neg (by omega)]
theorem wC2_e {g : Nat → Int → Int → Int} {x y m : Int} {f : Nat} (h : f ≠ 158) : wC2 g x y m m f = wCp g x y m f := by
  funext o j
  unfold wC2 wCp
  rw [wC1_o h]
/-- ants out of a sheet: stopped, how many came, the memory -/
def wAn (g : Nat → Int → Int → Int) (s x : Int) (k : Int) : Int × Int × (Nat → Int → Int → Int) := wFI (fun k t => if t.1 ≠ 0 then t else if 0 ≤ x + 3 * k ∧ x + 3 * k + 2 < g 156 0 s then (0, t.2.1 + bI (0 ≤ (mAnt t.2.2 (g 157 0 (40 * s + (x + 3 * k))) (g 157 0 (40 * s + (x + 3 * k) + 1)) (g 157 0 (40 * s + (x + 3 * k) + 2))).1), (mAnt t.2.2 (g 157 0 (40 * s + (x + 3 * k))) (g 157 0 (40 * s + (x + 3 * k) + 1)) (g 157 0 (40 * s + (x + 3 * k) + 2))).2) else (1, t.2)) (0, 0, g) k
theorem wAn_s {g : Nat → Int → Int → Int} {s x k : Int} (h : 0 ≤ k) : wAn g s x (k + 1) = if (wAn g s x k).1 ≠ 0 then wAn g s x k else if 0 ≤ x + 3 * k ∧ x + 3 * k + 2 < g 156 0 s then (0, (wAn g s x k).2.1 + bI (0 ≤ (mAnt (wAn g s x k).2.2 (g 157 0 (40 * s + (x + 3 * k))) (g 157 0 (40 * s + (x + 3 * k) + 1)) (g 157 0 (40 * s + (x + 3 * k) + 2))).1), (mAnt (wAn g s x k).2.2 (g 157 0 (40 * s + (x + 3 * k))) (g 157 0 (40 * s + (x + 3 * k) + 1)) (g 157 0 (40 * s + (x + 3 * k) + 2))).2) else (1, (wAn g s x k).2) := wFI_s h
theorem wAn_st {g : Nat → Int → Int → Int} {s x k : Int} (h0 : 0 ≤ k) (h : (wAn g s x k).1 ≠ 0) : ∀ m : Nat, wAn g s x (k + m) = wAn g s x k
  | 0 => by rw [show k + ((0 : Nat) : Int) = k by omega]
  | m + 1 => by
    rw [show k + ((m + 1 : Nat) : Int) = k + m + 1 by omega, wAn_s (by omega), wAn_st h0 h m, if_pos h]
def mAnts (g : Nat → Int → Int → Int) (s t x m : Int) : Int × (Nat → Int → Int → Int) := if (0 ≤ s ∧ s ≤ 3) ∧ (0 ≤ t ∧ t ≤ 2) ∧ 0 ≤ m ∧ m ≤ 7 then (if 0 ≤ g 155 0 s ∧ g 155 0 s ≠ t then (-13, g) else if g 155 0 s < 0 then (-11, g) else (if (wAn g s x m).1 ≠ 0 then -12 else (wAn g s x m).2.1, (wAn g s x m).2.2)) else (-2, g)
theorem mAnt_in {g : Nat → Int → Int → Int} {a b c : Int} (h : 0 ≤ g 50 0 2 ∧ g 50 0 2 ≤ 7) : (0 ≤ (mAnt g a b c).2 50 0 2 ∧ (mAnt g a b c).2 50 0 2 ≤ 7) ∧ (∀ j, j ≠ 2 → (mAnt g a b c).2 50 0 j = g 50 0 j) ∧ ∀ f, f ≠ 50 → (f < 103 ∨ 107 < f) → (mAnt g a b c).2 f = g f := by
  unfold mAnt
  split
  · split
    · exact ⟨h, fun _ _ => rfl, fun _ _ _ => rfl⟩
    · refine ⟨?_, fun j hj => ?_, fun f h1 h2 => ?_⟩
      · simp only [ax_u3_s]
        omega
      · dsimp only
        rw [ax_u3_n (by omega), ax_u3_f (by decide), ax_u3_f (by decide), ax_u3_f (by decide), ax_u3_f (by decide), ax_u3_f (by decide)]
      · funext o j
        dsimp only
        rw [ax_u3_f h1, ax_u3_f (by omega), ax_u3_f (by omega), ax_u3_f (by omega), ax_u3_f (by omega), ax_u3_f (by omega)]
  · exact ⟨h, fun _ _ => rfl, fun _ _ _ => rfl⟩
theorem wAn_in {g : Nat → Int → Int → Int} {s x : Int} (h : 0 ≤ g 50 0 2 ∧ g 50 0 2 ≤ 7) {k : Int} (hk : 0 ≤ k) : ((wAn g s x k).1 = 0 ∨ (wAn g s x k).1 = 1) ∧ (0 ≤ (wAn g s x k).2.1 ∧ (wAn g s x k).2.1 ≤ k) ∧ (0 ≤ (wAn g s x k).2.2 50 0 2 ∧ (wAn g s x k).2.2 50 0 2 ≤ 7) ∧ (∀ j, j ≠ 2 → (wAn g s x k).2.2 50 0 j = g 50 0 j) ∧ ∀ f, f ≠ 50 → (f < 103 ∨ 107 < f) → (wAn g s x k).2.2 f = g f := by
  suffices H : ∀ m : Nat, ((wAn g s x m).1 = 0 ∨ (wAn g s x m).1 = 1) ∧ (0 ≤ (wAn g s x m).2.1 ∧ (wAn g s x m).2.1 ≤ m) ∧ (0 ≤ (wAn g s x m).2.2 50 0 2 ∧ (wAn g s x m).2.2 50 0 2 ≤ 7) ∧ (∀ j, j ≠ 2 → (wAn g s x m).2.2 50 0 j = g 50 0 j) ∧ ∀ f, f ≠ 50 → (f < 103 ∨ 107 < f) → (wAn g s x m).2.2 f = g f by
    have := H k.toNat
    rw [show ((k.toNat : Nat) : Int) = k by omega] at this
    exact this
  intro m
  induction m with
  | zero => exact ⟨Or.inl rfl, ⟨Int.le_refl _, Int.le_refl _⟩, h, fun _ _ => rfl, fun _ _ _ => rfl⟩
  | succ m ih =>
    rw [show ((m + 1 : Nat) : Int) = (m : Int) + 1 by omega, wAn_s (by omega)]
    obtain ⟨a1, a2, a3, a4, a5⟩ := ih
    generalize wAn g s x m = T at *
    split
    · exact ⟨a1, by omega, a3, a4, a5⟩
    · split
      · have hm := mAnt_in (a := g 157 0 (40 * s + (x + 3 * m))) (b := g 157 0 (40 * s + (x + 3 * m) + 1)) (c := g 157 0 (40 * s + (x + 3 * m) + 2)) a3
        dsimp only
        refine ⟨Or.inl rfl, ?_, hm.1, fun j hj => (hm.2.1 j hj).trans (a4 j hj), fun f h1 h2 => (hm.2.2 f h1 h2).trans (a5 f h1 h2)⟩
        have hb := bI_01 (p := 0 ≤ (mAnt T.2.2 (g 157 0 (40 * s + (x + 3 * m))) (g 157 0 (40 * s + (x + 3 * m) + 1)) (g 157 0 (40 * s + (x + 3 * m) + 2))).1)
        omega
      · exact ⟨Or.inr rfl, by dsimp only; omega, a3, a4, a5⟩
set_option maxRecDepth 100000 in
set_option maxHeartbeats 4000000 in
theorem sp_round (P : Nat → Int → Prop) (g : Nat → Int → Int → Int) (r0 : Nat → Int → Int → Option (Nat × Int)) (n : Nat → Int → Int) (hn : mLen n) (hs : wOs g) : ax_S yX11_round cX11_round 4 (some FieldType.int) 7 0 0 [.inr (.inr (some (50, 0)))] (P, g, r0, n) (fun r M' => r = some (.inl (fRou g)) ∧ ∃ g', M' = (P, g', r0, n) ∧ wKp g' g) := by
  have n144 : n 144 0 = 7 := hn (144, 7) (by decide)
  have n129 : n 129 0 = 7 := hn (129, 7) (by decide)
  have n145 : n 145 0 = 7 := hn (145, 7) (by decide)
  have n130 : n 130 0 = 7 := hn (130, 7) (by decide)
  have h2 := hs.2.2.1
  refine ax_S_of (own := 11) (by decide) rfl (fun h => absurd h (by decide)) rfl (Nat.le_of_ble_eq_true rfl) ?_
  change ax_J _ _ _ _ _ _ _ _ _ _ [some (.inr (.inr (some (50, 0)))), none, none, none] _ _
  refine aj_run (C := True) (pc' := 4) (la' := [some (.inr (.inr (some (50, 0)))), none, none, none]) (st' := [.inl (g 50 0 1)]) (M' := (P, g, r0, n)) ok_X11_round true 2 rfl trivial ?_
  refine aj_if_ne (tgt := 10) (ax_dec2 (i := .ifCond .ne 6) (n := 3) ok_X11_round rfl) (by decide) (fun c1 => ?_) (fun c1 => ?_)
  · refine aj_run (C := True) (pc' := 13) (la' := [some (.inr (.inr (some (50, 0)))), none, none, none]) (st' := [.inl 40, .inr (.inr (some (50, 0)))]) (M' := (P, g, r0, n)) ok_X11_round true 2 rfl trivial ?_
    refine aj_callV (av := [.inl 40]) (st := []) (f := 50) (o := 0) (ci := 11) cal_X11_goTo lk_11_285 ins_X11_goTo rfl sel_X11_goTo rfl (fun c9 h9 _ => by simpa [ax_ok] using h9) (sp_goTo 40 _ _ _ _ hn hs (by omega)) ⟨by decide, by decide, by decide, by decide⟩ (Nat.le_of_ble_eq_true rfl) (ax_dec2 (i := .invokevirtual 285) (n := 3) ok_X11_round rfl) (fun r M' hq => ?_)
    obtain ⟨rfl, g2, rfl, hg2, kpg2⟩ := hq
    have hG2 : wEq g2 (gT g 40) := hg2
    have zs2 : g2 50 0 2 = g 50 0 2 := kpg2.2 0 2 (by omega)
    have hO2 : wOs g2 := wOs_k kpg2 hs
    have hk2 := it_ok (g := wBegin g (gAs g)) (wOs_s beg_ss hs) (beg_od hs) 41
    rw [beg_b] at hk2
    have hD2 : wOd g2 := wOd_e hG2 hk2.2.1
    have hB2 : g2 50 0 39 = 40 := by rw [hG2 50 rfl]; exact hk2.2.2
    change ax_J _ _ _ _ _ _ _ _ _ 16 [some (.inr (.inr (some (50, 0)))), none, none, none] [] (P, g2, r0, n)
    refine aj_run (C := True) (pc' := 18) (la' := [some (.inr (.inr (some (50, 0)))), some (.inl 0), none, none]) (st' := []) (M' := (P, g2, r0, n)) ok_X11_round true 2 rfl trivial ?_
    refine aj_cast rfl rfl (congrArg (fun z9 => ((P, z9, r0, n) : ax_Mm)) (show g2 = wRo g2 0 from by exact ptw_0)) ?_
    refine aj_loop (σ := (Int)) (fun xL => 0 ≤ xL ∧ xL ≤ g2 50 0 2) (fun xL => (g2 50 0 2 - xL).toNat) (fun xL => [some (.inr (.inr (some (50, 0)))), some (.inl xL), none, none]) (fun xL => []) (fun xL => (P, wRo g2 xL, r0, n)) ?_ (0) ?_
    rotate_left
    · omega
    rintro a hI ih18
    try dsimp only at hI ih18
    obtain ⟨i1, i2⟩ := hI
    change ax_J _ _ _ _ _ _ _ _ _ 18 [some (.inr (.inr (some (50, 0)))), some (.inl a), none, none] [] (P, wRo g2 a, r0, n)
    refine aj_run (C := True) (pc' := 23) (la' := [some (.inr (.inr (some (50, 0)))), some (.inl a), none, none]) (st' := [.inl (g2 50 0 2), .inl a]) (M' := (P, wRo g2 a, r0, n)) ok_X11_round true 3 rfl trivial ?_
    refine aj_icmp_ge (tgt := 56) (ax_dec2 (i := .if_icmp .ge 33) (n := 3) ok_X11_round rfl) (by decide) (fun c2 => ?_) (fun c2 => ?_)
    · refine aj_cast rfl rfl (congrArg (fun z9 => ((P, z9, r0, n) : ax_Mm)) (show wRo g2 a = wRo g2 (g2 50 0 2) from by rw [show g2 50 0 2 = a by omega])) ?_
      have hO3 : wOs (wRo g2 (g2 50 0 2)) := wOs_k wRo_kp hO2
      have hD3 : wOd (wRo g2 (g2 50 0 2)) := wOd_d wRo_ed hD2
      refine aj_forget (la' := [some (.inr (.inr (some (50, 0)))), none, none, none]) (by simp [ax_fg]) ?_
      refine aj_run (C := True) (pc' := 58) (la' := [some (.inr (.inr (some (50, 0)))), some (.inl 1), none, none]) (st' := []) (M' := (P, wRo g2 (g2 50 0 2), r0, n)) ok_X11_round true 2 rfl trivial ?_
      refine aj_forget (la' := [some (.inr (.inr (some (50, 0)))), some (.inl 1), none, none]) (by simp [ax_fg]) ?_
      refine aj_loop (σ := (Int) × (Nat → Int → Int → Int)) (fun xL => 1 ≤ xL.1 ∧ xL.1 ≤ 161 ∧ wEq xL.2 (wIt (wRo g2 (g2 50 0 2)) (xL.1 - 1).toNat) ∧ wKp xL.2 g ∧ wFs (gSm g) (xL.1 - 1) = -1) (fun xL => (161 - xL.1).toNat) (fun xL => [some (.inr (.inr (some (50, 0)))), some (.inl xL.1), none, none]) (fun xL => []) (fun xL => (P, xL.2, r0, n)) ?_ (1, wRo g2 (g2 50 0 2)) ?_
      rotate_left
      · exact ⟨by omega, by omega, wEq.rf, wRo_kp.tr kpg2, rfl⟩
      rintro ⟨t, g1⟩ hI ih58
      try dsimp only at hI ih58
      obtain ⟨i1, i2, i3, i4, i5⟩ := hI
      change ax_J _ _ _ _ _ _ _ _ _ 58 [some (.inr (.inr (some (50, 0)))), some (.inl t), none, none] [] (P, g1, r0, n)
      obtain ⟨hs1, hd1, hb1⟩ := it_ok hO3 hD3 (t - 1).toNat
      replace hs1 := wOs_e i3 hs1
      replace hd1 := wOd_e i3 hd1
      rw [← i3 50 rfl, show (wRo g2 (g2 50 0 2)) 50 0 39 = g2 50 0 39 from wRo_o rfl, hB2] at hb1
      refine aj_run (C := True) (pc' := 62) (la' := [some (.inr (.inr (some (50, 0)))), some (.inl t), none, none]) (st' := [.inl 160, .inl t]) (M' := (P, g1, r0, n)) ok_X11_round true 2 rfl trivial ?_
      refine aj_icmp_gt (tgt := 140) (ax_dec2 (i := .if_icmp .gt 78) (n := 3) ok_X11_round rfl) (by decide) (fun c3 => ?_) (fun c3 => ?_)
      · refine aj_run (C := True) (pc' := 141) (la' := [some (.inr (.inr (some (50, 0)))), some (.inl t), none, none]) (st' := [.inl (-1)]) (M' := (P, g1, r0, n)) ok_X11_round true 1 rfl trivial ?_
        refine aj_ret (r := some (.inl (-1))) (ax_dec2 (i := .ireturn) (n := 1) ok_X11_round rfl) ⟨?_, ?_, by decide, by decide⟩ rfl
        · exact ⟨ax_si (by unfold fRou; rw [if_neg (by omega), ← i5, show t - 1 = 160 by omega]), _, rfl, i4⟩
        · exact ax_ro_i
      · refine aj_run (C := True) (pc' := 66) (la' := [some (.inr (.inr (some (50, 0)))), some (.inl t), none, none]) (st' := [.inr (.inr (some (50, 0)))]) (M' := (P, g1, r0, n)) ok_X11_round true 1 rfl trivial ?_
        refine aj_callV (av := []) (st := []) (f := 50) (o := 0) (ci := 11) cal_X11_step lk_11_274 ins_X11_step rfl sel_X11_step rfl (fun c9 h9 _ => by simpa [ax_ok] using h9) (sp_step _ _ _ _ hn hs1 hd1 (by omega)) ⟨by decide, by decide, by decide, by decide⟩ (Nat.le_of_ble_eq_true rfl) (ax_dec2 (i := .invokevirtual 274) (n := 3) ok_X11_round rfl) (fun r M' hq => ?_)
        obtain ⟨rfl, g4, rfl, hg4, kpg4⟩ := hq
        have e4 : wEq g4 (wIt (wRo g2 (g2 50 0 2)) ((t - 1).toNat + 1)) := wEq.tr hg4 (wEq_step i3)
        rw [show (t - 1).toNat + 1 = t.toNat by omega] at e4
        have kz4 : wKp g4 g := kpg4.tr i4
        have zs4 : g4 50 0 2 = g 50 0 2 := kz4.2 0 2 (by omega)
        have eD : wEd g4 (wIt (gT g 40) t.toNat) := wEd.tr (wEd_e e4) (wEd_it (wEd.tr wRo_ed (wEd_e hG2)) _)
        have sz9 : wIt (gT g 40) t.toNat 50 0 2 = g 50 0 2 := eD.sz.symm.trans zs4
        have zSm : wSm (g4 129 0) (g4 130 0) (g4 144 0) (g4 145 0) (g 50 0 2) = gSm g t := by unfold gSm; exact wSm_c (fun q z1 z2 => eD.2.2 129 q (by decide) (by decide) z1 (by rw [sz9]; exact z2)) (fun q z1 z2 => eD.2.2 130 q (by decide) (by decide) z1 (by rw [sz9]; exact z2)) (fun q z1 z2 => by rw [e4 144 rfl, (it_ss _).1 144 (by decide) (by omega), ← hG2 129 rfl]; exact ptw_r rfl z1 (by omega)) (fun q z1 z2 => by rw [e4 145 rfl, (it_ss _).1 145 (by decide) (by omega), ← hG2 130 rfl]; exact ptw_r rfl z1 (by omega))
        change ax_J _ _ _ _ _ _ _ _ _ 69 [some (.inr (.inr (some (50, 0)))), some (.inl t), none, none] [.inl (wAny (wSt1 g1) (g1 50 0 2))] (P, g4, r0, n)
        refine aj_run (C := True) (pc' := 74) (la' := [some (.inr (.inr (some (50, 0)))), some (.inl t), some (.inl 1), some (.inl 0)]) (st' := []) (M' := (P, g4, r0, n)) ok_X11_round true 5 rfl trivial ?_
        refine aj_cast (congrArg (fun (z9 : Int) => ([some (.inr (.inr (some (50, 0)))), some (.inl t), some (.inl z9), some (.inl 0)] : List (Option ax_V))) (show 1 = wSm (g4 129 0) (g4 130 0) (g4 144 0) (g4 145 0) 0 from by rfl)) rfl rfl ?_
        refine aj_loop (σ := (Int)) (fun xL => 0 ≤ xL ∧ xL ≤ g4 50 0 2) (fun xL => (g4 50 0 2 - xL).toNat) (fun xL => [some (.inr (.inr (some (50, 0)))), some (.inl t), some (.inl (wSm (g4 129 0) (g4 130 0) (g4 144 0) (g4 145 0) xL)), some (.inl xL)]) (fun xL => []) (fun xL => (P, g4, r0, n)) ?_ (0) ?_
        rotate_left
        · omega
        rintro a hI ih74
        try dsimp only at hI ih74
        obtain ⟨j1, j2⟩ := hI
        change ax_J _ _ _ _ _ _ _ _ _ 74 [some (.inr (.inr (some (50, 0)))), some (.inl t), some (.inl (wSm (g4 129 0) (g4 130 0) (g4 144 0) (g4 145 0) a)), some (.inl a)] [] (P, g4, r0, n)
        refine aj_run (C := True) (pc' := 79) (la' := [some (.inr (.inr (some (50, 0)))), some (.inl t), some (.inl (wSm (g4 129 0) (g4 130 0) (g4 144 0) (g4 145 0) a)), some (.inl a)]) (st' := [.inl (g4 50 0 2), .inl a]) (M' := (P, g4, r0, n)) ok_X11_round true 3 rfl trivial ?_
        refine aj_icmp_ge (tgt := 128) (ax_dec2 (i := .if_icmp .ge 49) (n := 3) ok_X11_round rfl) (by decide) (fun c4 => ?_) (fun c4 => ?_)
        · refine aj_run (C := True) (pc' := 129) (la' := [some (.inr (.inr (some (50, 0)))), some (.inl t), some (.inl (wSm (g4 129 0) (g4 130 0) (g4 144 0) (g4 145 0) a)), some (.inl a)]) (st' := [.inl (wSm (g4 129 0) (g4 130 0) (g4 144 0) (g4 145 0) a)]) (M' := (P, g4, r0, n)) ok_X11_round true 1 rfl trivial ?_
          refine aj_if_eq (tgt := 134) (ax_dec2 (i := .ifCond .eq 5) (n := 3) ok_X11_round rfl) (by decide) (fun c5 => ?_) (fun c5 => ?_)
          · refine aj_run (C := (-2147483648 ≤ t + 1 ∧ t + 1 ≤ 2147483647) ∧ True) (pc' := 58) (la' := [some (.inr (.inr (some (50, 0)))), some (.inl (t + 1)), some (.inl (wSm (g4 129 0) (g4 130 0) (g4 144 0) (g4 145 0) a)), some (.inl a)]) (st' := []) (M' := (P, g4, r0, n)) ok_X11_round true 2 rfl (by refine ⟨?_, trivial⟩ <;> (omega)) ?_
            refine aj_forget (la' := [some (.inr (.inr (some (50, 0)))), some (.inl (t + 1)), none, none]) (by simp [ax_fg]) ?_
            refine ih58 (t + 1, g4) ?_ ?_
            · exact ⟨by omega, by omega, by rw [show t + 1 - 1 = t by omega]; exact e4, kz4, by rw [show t + 1 - 1 = t - 1 + 1 by omega, wFs_s (by omega), show t - 1 + 1 = t by omega, if_neg (by rw [← zSm, show g 50 0 2 = a by omega]; omega)]; exact i5⟩
            · omega
          · refine aj_run (C := True) (pc' := 133) (la' := [some (.inr (.inr (some (50, 0)))), some (.inl t), some (.inl (wSm (g4 129 0) (g4 130 0) (g4 144 0) (g4 145 0) a)), some (.inl a)]) (st' := [.inl t]) (M' := (P, g4, r0, n)) ok_X11_round true 1 rfl trivial ?_
            refine aj_ret (r := some (.inl t)) (ax_dec2 (i := .ireturn) (n := 1) ok_X11_round rfl) ⟨?_, ?_, by decide, by decide⟩ rfl
            · exact ⟨ax_si (by unfold fRou; rw [if_neg (by omega)]; have z8 : wFs (gSm g) t = t := (by rw [show t = t - 1 + 1 by omega, wFs_s (by omega), show t - 1 + 1 = t by omega, if_pos ⟨i5, by rw [← zSm, show g 50 0 2 = a by omega]; omega⟩]); have z7 := wFs_st (p := gSm g) (k := t) (by omega) (by omega) (160 - t).toNat; rw [show t + ((160 - t).toNat : Int) = 160 by omega, z8] at z7; exact z7.symm), _, rfl, kz4⟩
            · exact ax_ro_i
        · refine aj_run (C := True) (pc' := 83) (la' := [some (.inr (.inr (some (50, 0)))), some (.inl t), some (.inl (wSm (g4 129 0) (g4 130 0) (g4 144 0) (g4 145 0) a)), some (.inl a)]) (st' := [.inl (wSm (g4 129 0) (g4 130 0) (g4 144 0) (g4 145 0) a)]) (M' := (P, g4, r0, n)) ok_X11_round true 1 rfl trivial ?_
          refine aj_if_eq (tgt := 120) (ax_dec2 (i := .ifCond .eq 37) (n := 3) ok_X11_round rfl) (by decide) (fun c6 => ?_) (fun c6 => ?_)
          · refine aj_run (C := (-2147483648 ≤ a + 1 ∧ a + 1 ≤ 2147483647) ∧ True) (pc' := 74) (la' := [some (.inr (.inr (some (50, 0)))), some (.inl t), some (.inl 0), some (.inl (a + 1))]) (st' := []) (M' := (P, g4, r0, n)) ok_X11_round true 4 rfl (by refine ⟨?_, trivial⟩ <;> (omega)) ?_
            refine aj_cast (congrArg (fun (z9 : Int) => ([some (.inr (.inr (some (50, 0)))), some (.inl t), some (.inl z9), some (.inl (a + 1))] : List (Option ax_V))) (show 0 = wSm (g4 129 0) (g4 130 0) (g4 144 0) (g4 145 0) (a + 1) from by (rw [wSm_s j1]; first | rw [if_pos (by omega)] | rw [if_neg (by omega)]))) rfl rfl ?_
            refine ih74 (a + 1) ?_ ?_
            · omega
            · omega
          · refine aj_run (C := (0 ≤ a ∧ a < n 129 0) ∧ (0 ≤ a ∧ a < n 144 0) ∧ True) (pc' := 98) (la' := [some (.inr (.inr (some (50, 0)))), some (.inl t), some (.inl (wSm (g4 129 0) (g4 130 0) (g4 144 0) (g4 145 0) a)), some (.inl a)]) (st' := [.inl (g4 144 0 a), .inl (g4 129 0 a)]) (M' := (P, g4, r0, n)) ok_X11_round true 8 rfl (by refine ⟨?_, ?_, trivial⟩ <;> (omega)) ?_
            refine aj_icmp_ne (tgt := 120) (ax_dec2 (i := .if_icmp .ne 22) (n := 3) ok_X11_round rfl) (by decide) (fun c7 => ?_) (fun c7 => ?_)
            · refine aj_run (C := (-2147483648 ≤ a + 1 ∧ a + 1 ≤ 2147483647) ∧ True) (pc' := 74) (la' := [some (.inr (.inr (some (50, 0)))), some (.inl t), some (.inl 0), some (.inl (a + 1))]) (st' := []) (M' := (P, g4, r0, n)) ok_X11_round true 4 rfl (by refine ⟨?_, trivial⟩ <;> (omega)) ?_
              refine aj_cast (congrArg (fun (z9 : Int) => ([some (.inr (.inr (some (50, 0)))), some (.inl t), some (.inl z9), some (.inl (a + 1))] : List (Option ax_V))) (show 0 = wSm (g4 129 0) (g4 130 0) (g4 144 0) (g4 145 0) (a + 1) from by (rw [wSm_s j1]; first | rw [if_pos (by omega)] | rw [if_neg (by omega)]))) rfl rfl ?_
              refine ih74 (a + 1) ?_ ?_
              · omega
              · omega
            · refine aj_run (C := (0 ≤ a ∧ a < n 130 0) ∧ (0 ≤ a ∧ a < n 145 0) ∧ True) (pc' := 113) (la' := [some (.inr (.inr (some (50, 0)))), some (.inl t), some (.inl (wSm (g4 129 0) (g4 130 0) (g4 144 0) (g4 145 0) a)), some (.inl a)]) (st' := [.inl (g4 145 0 a), .inl (g4 130 0 a)]) (M' := (P, g4, r0, n)) ok_X11_round true 8 rfl (by refine ⟨?_, ?_, trivial⟩ <;> (omega)) ?_
              refine aj_icmp_ne (tgt := 120) (ax_dec2 (i := .if_icmp .ne 7) (n := 3) ok_X11_round rfl) (by decide) (fun c8 => ?_) (fun c8 => ?_)
              · refine aj_run (C := (-2147483648 ≤ a + 1 ∧ a + 1 ≤ 2147483647) ∧ True) (pc' := 74) (la' := [some (.inr (.inr (some (50, 0)))), some (.inl t), some (.inl 0), some (.inl (a + 1))]) (st' := []) (M' := (P, g4, r0, n)) ok_X11_round true 4 rfl (by refine ⟨?_, trivial⟩ <;> (omega)) ?_
                refine aj_cast (congrArg (fun (z9 : Int) => ([some (.inr (.inr (some (50, 0)))), some (.inl t), some (.inl z9), some (.inl (a + 1))] : List (Option ax_V))) (show 0 = wSm (g4 129 0) (g4 130 0) (g4 144 0) (g4 145 0) (a + 1) from by (rw [wSm_s j1]; first | rw [if_pos (by omega)] | rw [if_neg (by omega)]))) rfl rfl ?_
                refine ih74 (a + 1) ?_ ?_
                · omega
                · omega
              · refine aj_run (C := (-2147483648 ≤ a + 1 ∧ a + 1 ≤ 2147483647) ∧ True) (pc' := 74) (la' := [some (.inr (.inr (some (50, 0)))), some (.inl t), some (.inl 1), some (.inl (a + 1))]) (st' := []) (M' := (P, g4, r0, n)) ok_X11_round true 5 rfl (by refine ⟨?_, trivial⟩ <;> (omega)) ?_
                refine aj_cast (congrArg (fun (z9 : Int) => ([some (.inr (.inr (some (50, 0)))), some (.inl t), some (.inl z9), some (.inl (a + 1))] : List (Option ax_V))) (show 1 = wSm (g4 129 0) (g4 130 0) (g4 144 0) (g4 145 0) (a + 1) from by (rw [wSm_s j1]; first | rw [if_pos (by omega)] | rw [if_neg (by omega)]))) rfl rfl ?_
                refine ih74 (a + 1) ?_ ?_
                · omega
                · omega
    · refine aj_run (C := (0 ≤ a ∧ a < n 129 0) ∧ (0 ≤ a ∧ a < n 144 0) ∧ (0 ≤ a ∧ a < n 130 0) ∧ (0 ≤ a ∧ a < n 145 0) ∧ (-2147483648 ≤ a + 1 ∧ a + 1 ≤ 2147483647) ∧ True) (pc' := 18) (la' := [some (.inr (.inr (some (50, 0)))), some (.inl (a + 1)), none, none]) (st' := []) (M' := (P, ax_u3 (ax_u3 (wRo g2 a) 144 0 a (g2 129 0 a)) 145 0 a (g2 130 0 a), r0, n)) ok_X11_round true 18 rfl (by refine ⟨?_, ?_, ?_, ?_, ?_, trivial⟩ <;> (omega)) ?_
      refine aj_cast rfl rfl (congrArg (fun z9 => ((P, z9, r0, n) : ax_Mm)) (show ax_u3 (ax_u3 (wRo g2 a) 144 0 a (g2 129 0 a)) 145 0 a (g2 130 0 a) = wRo g2 (a + 1) from by exact wRo_s i1 rfl rfl)) ?_
      refine ih18 (a + 1) ?_ ?_
      · omega
      · omega
  · refine aj_run (C := True) (pc' := 9) (la' := [some (.inr (.inr (some (50, 0)))), none, none, none]) (st' := [.inl (-3)]) (M' := (P, g, r0, n)) ok_X11_round true 1 rfl trivial ?_
    refine aj_ret (r := some (.inl (-3))) (ax_dec2 (i := .ireturn) (n := 1) ok_X11_round rfl) ⟨?_, ?_, by decide, by decide⟩ rfl
    · exact ⟨ax_si (by unfold fRou; rw [if_pos (by omega)]), _, rfl, wKp.rf⟩
    · exact ax_ro_i

set_option maxRecDepth 100000 in
set_option maxHeartbeats 4000000 in
theorem sp_copy (s i u j m : Int) (P : Nat → Int → Prop) (g : Nat → Int → Int → Int) (r0 : Nat → Int → Int → Option (Nat × Int)) (n : Nat → Int → Int) (hn : mLen n) (hz : ∀ s, 0 ≤ s → s ≤ 3 → 0 ≤ g 156 0 s ∧ g 156 0 s ≤ 40) (hi : -2147483648 ≤ i ∧ i ≤ 2147483647) (hj : -2147483648 ≤ j ∧ j ≤ 2147483647) : ax_S yX11_copy cX11_copy 7 (some FieldType.int) 2 0 0 [.inr (.inr (some (50, 0))), .inl s, .inl i, .inl u, .inl j, .inl m] (P, g, r0, n) (fun r M' => r = some (.inl (mCpy g s i u j m)) ∧ ∃ g', M' = (P, g', r0, n) ∧ ∀ f, f ≠ 158 → g' f = (mCpyM g s i u j m) f) := by
  have n155 : n 155 0 = 4 := hn (155, 4) (by decide)
  have n156 : n 156 0 = 4 := hn (156, 4) (by decide)
  have n158 : n 158 0 = 40 := hn (158, 40) (by decide)
  have n157 : n 157 0 = 160 := hn (157, 160) (by decide)
  refine ax_S_of (own := 11) (by decide) rfl (fun h => absurd h (by decide)) rfl (Nat.le_of_ble_eq_true rfl) ?_
  change ax_J _ _ _ _ _ _ _ _ _ _ [some (.inr (.inr (some (50, 0)))), some (.inl s), some (.inl i), some (.inl u), some (.inl j), some (.inl m), none] _ _
  refine aj_run (C := True) (pc' := 1) (la' := [some (.inr (.inr (some (50, 0)))), some (.inl s), some (.inl i), some (.inl u), some (.inl j), some (.inl m), none]) (st' := [.inl s]) (M' := (P, g, r0, n)) ok_X11_copy true 1 rfl trivial ?_
  refine aj_callS (av := [.inl s]) (st := []) cal_X11_isSheet lk_11_298 stc_X11_isSheet (sp_isSheet s _ _ _ _) ⟨by decide, by decide, by decide, by decide⟩ (Nat.le_of_ble_eq_true rfl) (ax_dec2 (i := .invokestatic 298) (n := 3) ok_X11_copy rfl) (fun r M' hq => ?_)
  obtain ⟨rfl, rfl⟩ := hq
  change ax_J _ _ _ _ _ _ _ _ _ 4 [some (.inr (.inr (some (50, 0)))), some (.inl s), some (.inl i), some (.inl u), some (.inl j), some (.inl m), none] [.inl (bI (0 ≤ s ∧ s ≤ 3))] (P, g, r0, n)
  refine aj_if_eq (tgt := 14) (ax_dec2 (i := .ifCond .eq 10) (n := 3) ok_X11_copy rfl) (by decide) (fun c1 => ?_) (fun c1 => ?_)
  · replace c1 := bI_e0 c1
    refine aj_run (C := True) (pc' := 16) (la' := [some (.inr (.inr (some (50, 0)))), some (.inl s), some (.inl i), some (.inl u), some (.inl j), some (.inl m), none]) (st' := [.inl (-2)]) (M' := (P, g, r0, n)) ok_X11_copy true 1 rfl trivial ?_
    refine aj_ret (r := some (.inl (-2))) (ax_dec2 (i := .ireturn) (n := 1) ok_X11_copy rfl) ⟨?_, ?_, by decide, by decide⟩ rfl
    · (have hz1 := hz s; have hz2 := hz u; have e9 : mCpy g s i u j m < 0 := (by unfold mCpy; (repeat first | rw [if_pos (by omega)] | rw [if_neg (by omega)] | rw [bI_t (by omega)] | rw [bI_f (by omega)]); try omega)); exact ⟨ax_si (by unfold mCpy; (repeat first | rw [if_pos (by omega)] | rw [if_neg (by omega)] | rw [bI_t (by omega)] | rw [bI_f (by omega)])), _, rfl, fun f _ => by unfold mCpyM; rw [if_neg (by omega)]⟩
    · exact ax_ro_i
  · replace c1 := bI_n0 c1
    refine aj_run (C := True) (pc' := 8) (la' := [some (.inr (.inr (some (50, 0)))), some (.inl s), some (.inl i), some (.inl u), some (.inl j), some (.inl m), none]) (st' := [.inl u]) (M' := (P, g, r0, n)) ok_X11_copy true 1 rfl trivial ?_
    refine aj_callS (av := [.inl u]) (st := []) cal_X11_isSheet lk_11_298 stc_X11_isSheet (sp_isSheet u _ _ _ _) ⟨by decide, by decide, by decide, by decide⟩ (Nat.le_of_ble_eq_true rfl) (ax_dec2 (i := .invokestatic 298) (n := 3) ok_X11_copy rfl) (fun r M' hq => ?_)
    obtain ⟨rfl, rfl⟩ := hq
    change ax_J _ _ _ _ _ _ _ _ _ 11 [some (.inr (.inr (some (50, 0)))), some (.inl s), some (.inl i), some (.inl u), some (.inl j), some (.inl m), none] [.inl (bI (0 ≤ u ∧ u ≤ 3))] (P, g, r0, n)
    refine aj_if_ne (tgt := 17) (ax_dec2 (i := .ifCond .ne 6) (n := 3) ok_X11_copy rfl) (by decide) (fun c2 => ?_) (fun c2 => ?_)
    · replace c2 := bI_n0 c2
      refine aj_run (C := (0 ≤ s ∧ s < n 155 0) ∧ True) (pc' := 23) (la' := [some (.inr (.inr (some (50, 0)))), some (.inl s), some (.inl i), some (.inl u), some (.inl j), some (.inl m), none]) (st' := [.inl (g 155 0 s)]) (M' := (P, g, r0, n)) ok_X11_copy true 4 rfl (by refine ⟨?_, trivial⟩ <;> ((have hz1 := hz s; have hz2 := hz u; first | omega | (refine ⟨?_, ?_⟩ <;> omega)))) ?_
      refine aj_if_lt (tgt := 35) (ax_dec2 (i := .ifCond .lt 12) (n := 3) ok_X11_copy rfl) (by decide) (fun c3 => ?_) (fun c3 => ?_)
      · refine aj_run (C := True) (pc' := 37) (la' := [some (.inr (.inr (some (50, 0)))), some (.inl s), some (.inl i), some (.inl u), some (.inl j), some (.inl m), none]) (st' := [.inl (-11)]) (M' := (P, g, r0, n)) ok_X11_copy true 1 rfl trivial ?_
        refine aj_ret (r := some (.inl (-11))) (ax_dec2 (i := .ireturn) (n := 1) ok_X11_copy rfl) ⟨?_, ?_, by decide, by decide⟩ rfl
        · (have hz1 := hz s; have hz2 := hz u; have e9 : mCpy g s i u j m < 0 := (by unfold mCpy; (repeat first | rw [if_pos (by omega)] | rw [if_neg (by omega)] | rw [bI_t (by omega)] | rw [bI_f (by omega)]); try omega)); exact ⟨ax_si (by unfold mCpy; (repeat first | rw [if_pos (by omega)] | rw [if_neg (by omega)] | rw [bI_t (by omega)] | rw [bI_f (by omega)])), _, rfl, fun f _ => by unfold mCpyM; rw [if_neg (by omega)]⟩
        · exact ax_ro_i
      · refine aj_run (C := (0 ≤ u ∧ u < n 155 0) ∧ True) (pc' := 32) (la' := [some (.inr (.inr (some (50, 0)))), some (.inl s), some (.inl i), some (.inl u), some (.inl j), some (.inl m), none]) (st' := [.inl (g 155 0 u)]) (M' := (P, g, r0, n)) ok_X11_copy true 4 rfl (by refine ⟨?_, trivial⟩ <;> ((have hz1 := hz s; have hz2 := hz u; first | omega | (refine ⟨?_, ?_⟩ <;> omega)))) ?_
        refine aj_if_ge (tgt := 38) (ax_dec2 (i := .ifCond .ge 6) (n := 3) ok_X11_copy rfl) (by decide) (fun c4 => ?_) (fun c4 => ?_)
        · refine aj_run (C := (0 ≤ s ∧ s < n 155 0) ∧ (0 ≤ u ∧ u < n 155 0) ∧ True) (pc' := 50) (la' := [some (.inr (.inr (some (50, 0)))), some (.inl s), some (.inl i), some (.inl u), some (.inl j), some (.inl m), none]) (st' := [.inl (g 155 0 u), .inl (g 155 0 s)]) (M' := (P, g, r0, n)) ok_X11_copy true 8 rfl (by refine ⟨?_, ?_, trivial⟩ <;> ((have hz1 := hz s; have hz2 := hz u; first | omega | (refine ⟨?_, ?_⟩ <;> omega)))) ?_
          refine aj_icmp_eq (tgt := 56) (ax_dec2 (i := .if_icmp .eq 6) (n := 3) ok_X11_copy rfl) (by decide) (fun c5 => ?_) (fun c5 => ?_)
          · refine aj_run (C := True) (pc' := 58) (la' := [some (.inr (.inr (some (50, 0)))), some (.inl s), some (.inl i), some (.inl u), some (.inl j), some (.inl m), none]) (st' := [.inl m]) (M' := (P, g, r0, n)) ok_X11_copy true 1 rfl trivial ?_
            refine aj_if_lt (tgt := 97) (ax_dec2 (i := .ifCond .lt 39) (n := 3) ok_X11_copy rfl) (by decide) (fun c6 => ?_) (fun c6 => ?_)
            · refine aj_run (C := True) (pc' := 99) (la' := [some (.inr (.inr (some (50, 0)))), some (.inl s), some (.inl i), some (.inl u), some (.inl j), some (.inl m), none]) (st' := [.inl (-12)]) (M' := (P, g, r0, n)) ok_X11_copy true 1 rfl trivial ?_
              refine aj_ret (r := some (.inl (-12))) (ax_dec2 (i := .ireturn) (n := 1) ok_X11_copy rfl) ⟨?_, ?_, by decide, by decide⟩ rfl
              · (have hz1 := hz s; have hz2 := hz u; have e9 : mCpy g s i u j m < 0 := (by unfold mCpy; (repeat first | rw [if_pos (by omega)] | rw [if_neg (by omega)] | rw [bI_t (by omega)] | rw [bI_f (by omega)]); try omega)); exact ⟨ax_si (by unfold mCpy; (repeat first | rw [if_pos (by omega)] | rw [if_neg (by omega)] | rw [bI_t (by omega)] | rw [bI_f (by omega)])), _, rfl, fun f _ => by unfold mCpyM; rw [if_neg (by omega)]⟩
              · exact ax_ro_i
            · refine aj_run (C := True) (pc' := 62) (la' := [some (.inr (.inr (some (50, 0)))), some (.inl s), some (.inl i), some (.inl u), some (.inl j), some (.inl m), none]) (st' := [.inl i]) (M' := (P, g, r0, n)) ok_X11_copy true 1 rfl trivial ?_
              refine aj_if_lt (tgt := 97) (ax_dec2 (i := .ifCond .lt 35) (n := 3) ok_X11_copy rfl) (by decide) (fun c7 => ?_) (fun c7 => ?_)
              · refine aj_run (C := True) (pc' := 99) (la' := [some (.inr (.inr (some (50, 0)))), some (.inl s), some (.inl i), some (.inl u), some (.inl j), some (.inl m), none]) (st' := [.inl (-12)]) (M' := (P, g, r0, n)) ok_X11_copy true 1 rfl trivial ?_
                refine aj_ret (r := some (.inl (-12))) (ax_dec2 (i := .ireturn) (n := 1) ok_X11_copy rfl) ⟨?_, ?_, by decide, by decide⟩ rfl
                · (have hz1 := hz s; have hz2 := hz u; have e9 : mCpy g s i u j m < 0 := (by unfold mCpy; (repeat first | rw [if_pos (by omega)] | rw [if_neg (by omega)] | rw [bI_t (by omega)] | rw [bI_f (by omega)]); try omega)); exact ⟨ax_si (by unfold mCpy; (repeat first | rw [if_pos (by omega)] | rw [if_neg (by omega)] | rw [bI_t (by omega)] | rw [bI_f (by omega)])), _, rfl, fun f _ => by unfold mCpyM; rw [if_neg (by omega)]⟩
                · exact ax_ro_i
              · refine aj_run (C := True) (pc' := 67) (la' := [some (.inr (.inr (some (50, 0)))), some (.inl s), some (.inl i), some (.inl u), some (.inl j), some (.inl m), none]) (st' := [.inl j]) (M' := (P, g, r0, n)) ok_X11_copy true 1 rfl trivial ?_
                refine aj_if_lt (tgt := 97) (ax_dec2 (i := .ifCond .lt 30) (n := 3) ok_X11_copy rfl) (by decide) (fun c8 => ?_) (fun c8 => ?_)
                · refine aj_run (C := True) (pc' := 99) (la' := [some (.inr (.inr (some (50, 0)))), some (.inl s), some (.inl i), some (.inl u), some (.inl j), some (.inl m), none]) (st' := [.inl (-12)]) (M' := (P, g, r0, n)) ok_X11_copy true 1 rfl trivial ?_
                  refine aj_ret (r := some (.inl (-12))) (ax_dec2 (i := .ireturn) (n := 1) ok_X11_copy rfl) ⟨?_, ?_, by decide, by decide⟩ rfl
                  · (have hz1 := hz s; have hz2 := hz u; have e9 : mCpy g s i u j m < 0 := (by unfold mCpy; (repeat first | rw [if_pos (by omega)] | rw [if_neg (by omega)] | rw [bI_t (by omega)] | rw [bI_f (by omega)]); try omega)); exact ⟨ax_si (by unfold mCpy; (repeat first | rw [if_pos (by omega)] | rw [if_neg (by omega)] | rw [bI_t (by omega)] | rw [bI_f (by omega)])), _, rfl, fun f _ => by unfold mCpyM; rw [if_neg (by omega)]⟩
                  · exact ax_ro_i
                · refine aj_run (C := (0 ≤ s ∧ s < n 156 0) ∧ (-2147483648 ≤ (g 156 0 s) - i ∧ (g 156 0 s) - i ≤ 2147483647) ∧ True) (pc' := 80) (la' := [some (.inr (.inr (some (50, 0)))), some (.inl s), some (.inl i), some (.inl u), some (.inl j), some (.inl m), none]) (st' := [.inl ((g 156 0 s) - i), .inl m]) (M' := (P, g, r0, n)) ok_X11_copy true 7 rfl (by refine ⟨?_, ?_, trivial⟩ <;> ((have hz1 := hz s; have hz2 := hz u; first | omega | (refine ⟨?_, ?_⟩ <;> omega)))) ?_
                  refine aj_icmp_gt (tgt := 97) (ax_dec2 (i := .if_icmp .gt 17) (n := 3) ok_X11_copy rfl) (by decide) (fun c9 => ?_) (fun c9 => ?_)
                  · refine aj_run (C := True) (pc' := 99) (la' := [some (.inr (.inr (some (50, 0)))), some (.inl s), some (.inl i), some (.inl u), some (.inl j), some (.inl m), none]) (st' := [.inl (-12)]) (M' := (P, g, r0, n)) ok_X11_copy true 1 rfl trivial ?_
                    refine aj_ret (r := some (.inl (-12))) (ax_dec2 (i := .ireturn) (n := 1) ok_X11_copy rfl) ⟨?_, ?_, by decide, by decide⟩ rfl
                    · (have hz1 := hz s; have hz2 := hz u; have e9 : mCpy g s i u j m < 0 := (by unfold mCpy; (repeat first | rw [if_pos (by omega)] | rw [if_neg (by omega)] | rw [bI_t (by omega)] | rw [bI_f (by omega)]); try omega)); exact ⟨ax_si (by unfold mCpy; (repeat first | rw [if_pos (by omega)] | rw [if_neg (by omega)] | rw [bI_t (by omega)] | rw [bI_f (by omega)])), _, rfl, fun f _ => by unfold mCpyM; rw [if_neg (by omega)]⟩
                    · exact ax_ro_i
                  · refine aj_run (C := (0 ≤ u ∧ u < n 156 0) ∧ (-2147483648 ≤ (g 156 0 u) - j ∧ (g 156 0 u) - j ≤ 2147483647) ∧ True) (pc' := 94) (la' := [some (.inr (.inr (some (50, 0)))), some (.inl s), some (.inl i), some (.inl u), some (.inl j), some (.inl m), none]) (st' := [.inl ((g 156 0 u) - j), .inl m]) (M' := (P, g, r0, n)) ok_X11_copy true 7 rfl (by refine ⟨?_, ?_, trivial⟩ <;> ((have hz1 := hz s; have hz2 := hz u; first | omega | (refine ⟨?_, ?_⟩ <;> omega)))) ?_
                    refine aj_icmp_le (tgt := 100) (ax_dec2 (i := .if_icmp .le 6) (n := 3) ok_X11_copy rfl) (by decide) (fun c10 => ?_) (fun c10 => ?_)
                    · refine aj_run (C := True) (pc' := 103) (la' := [some (.inr (.inr (some (50, 0)))), some (.inl s), some (.inl i), some (.inl u), some (.inl j), some (.inl m), some (.inl 0)]) (st' := []) (M' := (P, g, r0, n)) ok_X11_copy true 2 rfl trivial ?_
                      refine aj_cast rfl rfl (congrArg (fun z9 => ((P, z9, r0, n) : ax_Mm)) (show g = wC1 g (40 * s + i) 0 from by exact ptw_0)) ?_
                      refine aj_loop (σ := (Int)) (fun xL => 0 ≤ xL ∧ xL ≤ m) (fun xL => (m - xL).toNat) (fun xL => [some (.inr (.inr (some (50, 0)))), some (.inl s), some (.inl i), some (.inl u), some (.inl j), some (.inl m), some (.inl xL)]) (fun xL => []) (fun xL => (P, wC1 g (40 * s + i) xL, r0, n)) ?_ (0) ?_
                      rotate_left
                      · omega
                      rintro k hI ih103
                      try dsimp only at hI ih103
                      obtain ⟨i1, i2⟩ := hI
                      change ax_J _ _ _ _ _ _ _ _ _ 103 [some (.inr (.inr (some (50, 0)))), some (.inl s), some (.inl i), some (.inl u), some (.inl j), some (.inl m), some (.inl k)] [] (P, wC1 g (40 * s + i) k, r0, n)
                      refine aj_run (C := True) (pc' := 107) (la' := [some (.inr (.inr (some (50, 0)))), some (.inl s), some (.inl i), some (.inl u), some (.inl j), some (.inl m), some (.inl k)]) (st' := [.inl m, .inl k]) (M' := (P, wC1 g (40 * s + i) k, r0, n)) ok_X11_copy true 2 rfl trivial ?_
                      refine aj_icmp_ge (tgt := 137) (ax_dec2 (i := .if_icmp .ge 30) (n := 3) ok_X11_copy rfl) (by decide) (fun c11 => ?_) (fun c11 => ?_)
                      · refine aj_run (C := True) (pc' := 140) (la' := [some (.inr (.inr (some (50, 0)))), some (.inl s), some (.inl i), some (.inl u), some (.inl j), some (.inl m), some (.inl 0)]) (st' := []) (M' := (P, wC1 g (40 * s + i) k, r0, n)) ok_X11_copy true 2 rfl trivial ?_
                        refine aj_cast rfl rfl (congrArg (fun z9 => ((P, z9, r0, n) : ax_Mm)) (show wC1 g (40 * s + i) k = wC2 g (40 * s + i) (40 * u + j) m 0 from by (rw [show k = m by omega]; exact wC2_0))) ?_
                        refine aj_loop (σ := (Int)) (fun xL => 0 ≤ xL ∧ xL ≤ m) (fun xL => (m - xL).toNat) (fun xL => [some (.inr (.inr (some (50, 0)))), some (.inl s), some (.inl i), some (.inl u), some (.inl j), some (.inl m), some (.inl xL)]) (fun xL => []) (fun xL => (P, wC2 g (40 * s + i) (40 * u + j) m xL, r0, n)) ?_ (0) ?_
                        rotate_left
                        · omega
                        rintro k hI ih140
                        try dsimp only at hI ih140
                        obtain ⟨j1, j2⟩ := hI
                        change ax_J _ _ _ _ _ _ _ _ _ 140 [some (.inr (.inr (some (50, 0)))), some (.inl s), some (.inl i), some (.inl u), some (.inl j), some (.inl m), some (.inl k)] [] (P, wC2 g (40 * s + i) (40 * u + j) m k, r0, n)
                        refine aj_run (C := True) (pc' := 144) (la' := [some (.inr (.inr (some (50, 0)))), some (.inl s), some (.inl i), some (.inl u), some (.inl j), some (.inl m), some (.inl k)]) (st' := [.inl m, .inl k]) (M' := (P, wC2 g (40 * s + i) (40 * u + j) m k, r0, n)) ok_X11_copy true 2 rfl trivial ?_
                        refine aj_icmp_ge (tgt := 175) (ax_dec2 (i := .if_icmp .ge 31) (n := 3) ok_X11_copy rfl) (by decide) (fun c12 => ?_) (fun c12 => ?_)
                        · refine aj_run (C := True) (pc' := 177) (la' := [some (.inr (.inr (some (50, 0)))), some (.inl s), some (.inl i), some (.inl u), some (.inl j), some (.inl m), some (.inl k)]) (st' := [.inl m]) (M' := (P, wC2 g (40 * s + i) (40 * u + j) m k, r0, n)) ok_X11_copy true 1 rfl trivial ?_
                          refine aj_ret (r := some (.inl m)) (ax_dec2 (i := .ireturn) (n := 1) ok_X11_copy rfl) ⟨?_, ?_, by decide, by decide⟩ rfl
                          · (have hz1 := hz s; have hz2 := hz u; have e9 : mCpy g s i u j m = m := (by unfold mCpy; (repeat first | rw [if_pos (by omega)] | rw [if_neg (by omega)] | rw [bI_t (by omega)] | rw [bI_f (by omega)]))); exact ⟨ax_si e9.symm, _, rfl, fun f hf => by unfold mCpyM; rw [if_pos (by omega), show k = m by omega]; exact wC2_e hf⟩
                          · exact ax_ro_i
                        · refine aj_run (C := (-2147483648 ≤ 40 * u ∧ 40 * u ≤ 2147483647) ∧ (-2147483648 ≤ (40 * u) + j ∧ (40 * u) + j ≤ 2147483647) ∧ (-2147483648 ≤ ((40 * u) + j) + k ∧ ((40 * u) + j) + k ≤ 2147483647) ∧ (0 ≤ k ∧ k < n 158 0) ∧ True) (pc' := 168) (la' := [some (.inr (.inr (some (50, 0)))), some (.inl s), some (.inl i), some (.inl u), some (.inl j), some (.inl m), some (.inl k)]) (st' := [.inl ((wC2 g (40 * s + i) (40 * u + j) m k) 158 0 k), .inl (((40 * u) + j) + k), .inr (.inr (some (157, 0)))]) (M' := (P, wC2 g (40 * s + i) (40 * u + j) m k, r0, n)) ok_X11_copy true 13 rfl (by refine ⟨?_, ?_, ?_, ?_, trivial⟩ <;> ((have hz1 := hz s; have hz2 := hz u; first | omega | (refine ⟨?_, ?_⟩ <;> omega)))) ?_
                          refine aj_cast rfl (congrArg (fun (z9 : Int) => ([.inl z9, .inl (((40 * u) + j) + k), .inr (.inr (some (157, 0)))] : List ax_V)) (show (wC2 g (40 * s + i) (40 * u + j) m k) 158 0 k = g 157 0 (40 * s + i + k) from (wC2_at (by omega) (by omega)))) rfl ?_
                          refine aj_run (C := (0 ≤ ((40 * u) + j) + k ∧ ((40 * u) + j) + k < n 157 0) ∧ (-2147483648 ≤ k + 1 ∧ k + 1 ≤ 2147483647) ∧ True) (pc' := 140) (la' := [some (.inr (.inr (some (50, 0)))), some (.inl s), some (.inl i), some (.inl u), some (.inl j), some (.inl m), some (.inl (k + 1))]) (st' := []) (M' := (P, ax_u3 (wC2 g (40 * s + i) (40 * u + j) m k) 157 0 (((40 * u) + j) + k) (g 157 0 (40 * s + i + k)), r0, n)) ok_X11_copy true 3 rfl (by refine ⟨?_, ?_, trivial⟩ <;> ((have hz1 := hz s; have hz2 := hz u; first | omega | (refine ⟨?_, ?_⟩ <;> omega)))) ?_
                          refine aj_cast rfl rfl (congrArg (fun z9 => ((P, z9, r0, n) : ax_Mm)) (show ax_u3 (wC2 g (40 * s + i) (40 * u + j) m k) 157 0 (((40 * u) + j) + k) (g 157 0 (40 * s + i + k)) = wC2 g (40 * s + i) (40 * u + j) m (k + 1) from by exact wC2_s j1 rfl (by omega))) ?_
                          refine ih140 (k + 1) ?_ ?_
                          · omega
                          · omega
                      · refine aj_run (C := (-2147483648 ≤ 40 * s ∧ 40 * s ≤ 2147483647) ∧ (-2147483648 ≤ (40 * s) + i ∧ (40 * s) + i ≤ 2147483647) ∧ (-2147483648 ≤ ((40 * s) + i) + k ∧ ((40 * s) + i) + k ≤ 2147483647) ∧ (0 ≤ ((40 * s) + i) + k ∧ ((40 * s) + i) + k < n 157 0) ∧ (0 ≤ k ∧ k < n 158 0) ∧ (-2147483648 ≤ k + 1 ∧ k + 1 ≤ 2147483647) ∧ True) (pc' := 103) (la' := [some (.inr (.inr (some (50, 0)))), some (.inl s), some (.inl i), some (.inl u), some (.inl j), some (.inl m), some (.inl (k + 1))]) (st' := []) (M' := (P, ax_u3 (wC1 g (40 * s + i) k) 158 0 k (g 157 0 (((40 * s) + i) + k)), r0, n)) ok_X11_copy true 16 rfl (by refine ⟨?_, ?_, ?_, ?_, ?_, ?_, trivial⟩ <;> ((have hz1 := hz s; have hz2 := hz u; first | omega | (refine ⟨?_, ?_⟩ <;> omega)))) ?_
                        refine aj_cast rfl rfl (congrArg (fun z9 => ((P, z9, r0, n) : ax_Mm)) (show ax_u3 (wC1 g (40 * s + i) k) 158 0 k (g 157 0 (((40 * s) + i) + k)) = wC1 g (40 * s + i) (k + 1) from by exact wC1_s i1 rfl)) ?_
                        refine ih103 (k + 1) ?_ ?_
                        · omega
                        · omega
                    · refine aj_run (C := True) (pc' := 99) (la' := [some (.inr (.inr (some (50, 0)))), some (.inl s), some (.inl i), some (.inl u), some (.inl j), some (.inl m), none]) (st' := [.inl (-12)]) (M' := (P, g, r0, n)) ok_X11_copy true 1 rfl trivial ?_
                      refine aj_ret (r := some (.inl (-12))) (ax_dec2 (i := .ireturn) (n := 1) ok_X11_copy rfl) ⟨?_, ?_, by decide, by decide⟩ rfl
                      · (have hz1 := hz s; have hz2 := hz u; have e9 : mCpy g s i u j m < 0 := (by unfold mCpy; (repeat first | rw [if_pos (by omega)] | rw [if_neg (by omega)] | rw [bI_t (by omega)] | rw [bI_f (by omega)]); try omega)); exact ⟨ax_si (by unfold mCpy; (repeat first | rw [if_pos (by omega)] | rw [if_neg (by omega)] | rw [bI_t (by omega)] | rw [bI_f (by omega)])), _, rfl, fun f _ => by unfold mCpyM; rw [if_neg (by omega)]⟩
                      · exact ax_ro_i
          · refine aj_run (C := True) (pc' := 55) (la' := [some (.inr (.inr (some (50, 0)))), some (.inl s), some (.inl i), some (.inl u), some (.inl j), some (.inl m), none]) (st' := [.inl (-13)]) (M' := (P, g, r0, n)) ok_X11_copy true 1 rfl trivial ?_
            refine aj_ret (r := some (.inl (-13))) (ax_dec2 (i := .ireturn) (n := 1) ok_X11_copy rfl) ⟨?_, ?_, by decide, by decide⟩ rfl
            · (have hz1 := hz s; have hz2 := hz u; have e9 : mCpy g s i u j m < 0 := (by unfold mCpy; (repeat first | rw [if_pos (by omega)] | rw [if_neg (by omega)] | rw [bI_t (by omega)] | rw [bI_f (by omega)]); try omega)); exact ⟨ax_si (by unfold mCpy; (repeat first | rw [if_pos (by omega)] | rw [if_neg (by omega)] | rw [bI_t (by omega)] | rw [bI_f (by omega)])), _, rfl, fun f _ => by unfold mCpyM; rw [if_neg (by omega)]⟩
            · exact ax_ro_i
        · refine aj_run (C := True) (pc' := 37) (la' := [some (.inr (.inr (some (50, 0)))), some (.inl s), some (.inl i), some (.inl u), some (.inl j), some (.inl m), none]) (st' := [.inl (-11)]) (M' := (P, g, r0, n)) ok_X11_copy true 1 rfl trivial ?_
          refine aj_ret (r := some (.inl (-11))) (ax_dec2 (i := .ireturn) (n := 1) ok_X11_copy rfl) ⟨?_, ?_, by decide, by decide⟩ rfl
          · (have hz1 := hz s; have hz2 := hz u; have e9 : mCpy g s i u j m < 0 := (by unfold mCpy; (repeat first | rw [if_pos (by omega)] | rw [if_neg (by omega)] | rw [bI_t (by omega)] | rw [bI_f (by omega)]); try omega)); exact ⟨ax_si (by unfold mCpy; (repeat first | rw [if_pos (by omega)] | rw [if_neg (by omega)] | rw [bI_t (by omega)] | rw [bI_f (by omega)])), _, rfl, fun f _ => by unfold mCpyM; rw [if_neg (by omega)]⟩
          · exact ax_ro_i
    · replace c2 := bI_e0 c2
      refine aj_run (C := True) (pc' := 16) (la' := [some (.inr (.inr (some (50, 0)))), some (.inl s), some (.inl i), some (.inl u), some (.inl j), some (.inl m), none]) (st' := [.inl (-2)]) (M' := (P, g, r0, n)) ok_X11_copy true 1 rfl trivial ?_
      refine aj_ret (r := some (.inl (-2))) (ax_dec2 (i := .ireturn) (n := 1) ok_X11_copy rfl) ⟨?_, ?_, by decide, by decide⟩ rfl
      · (have hz1 := hz s; have hz2 := hz u; have e9 : mCpy g s i u j m < 0 := (by unfold mCpy; (repeat first | rw [if_pos (by omega)] | rw [if_neg (by omega)] | rw [bI_t (by omega)] | rw [bI_f (by omega)]); try omega)); exact ⟨ax_si (by unfold mCpy; (repeat first | rw [if_pos (by omega)] | rw [if_neg (by omega)] | rw [bI_t (by omega)] | rw [bI_f (by omega)])), _, rfl, fun f _ => by unfold mCpyM; rw [if_neg (by omega)]⟩
      · exact ax_ro_i

theorem bm64 {x : Int} (h : -9223372036854775808 ≤ x ∧ x ≤ 9223372036854775807) : Int.bmod x 18446744073709551616 = x := by
  rw [Int.bmod_def]; omega
theorem cmp_lt {x y : Int} : ax_cmp x y < 0 ↔ x < y := by
  unfold ax_cmp
  split
  · constructor <;> intro h <;> omega
  · split
    · constructor <;> intro h <;> omega
    · constructor <;> intro h <;> omega
set_option maxRecDepth 100000 in
set_option maxHeartbeats 4000000 in
theorem sp_ants (s t x m : Int) (P : Nat → Int → Prop) (g : Nat → Int → Int → Int) (r0 : Nat → Int → Int → Option (Nat × Int)) (n : Nat → Int → Int) (hn : mLen n) (h2 : 0 ≤ g 50 0 2 ∧ g 50 0 2 ≤ 7) (hk : 2 ≤ g 50 0 0 ∧ g 50 0 0 ≤ 40) (hz : ∀ s, 0 ≤ s → s ≤ 3 → 0 ≤ g 156 0 s ∧ g 156 0 s ≤ 40) (hx : -2147483648 ≤ x ∧ x ≤ 2147483647) : ax_S yX11_ants cX11_ants 10 (some FieldType.int) 2 0 0 [.inr (.inr (some (50, 0))), .inl s, .inl t, .inl x, .inl m] (P, g, r0, n) (fun r M' => r = some (.inl (mAnts g s t x m).1) ∧ M' = (P, (mAnts g s t x m).2, r0, n)) := by
  have n155 : n 155 0 = 4 := hn (155, 4) (by decide)
  have n156 : n 156 0 = 4 := hn (156, 4) (by decide)
  have n157 : n 157 0 = 160 := hn (157, 160) (by decide)
  refine ax_S_of (own := 11) (by decide) rfl (fun h => absurd h (by decide)) rfl (Nat.le_of_ble_eq_true rfl) ?_
  change ax_J _ _ _ _ _ _ _ _ _ _ [some (.inr (.inr (some (50, 0)))), some (.inl s), some (.inl t), some (.inl x), some (.inl m), none, none, none, none, none] _ _
  refine aj_run (C := True) (pc' := 1) (la' := [some (.inr (.inr (some (50, 0)))), some (.inl s), some (.inl t), some (.inl x), some (.inl m), none, none, none, none, none]) (st' := [.inl s]) (M' := (P, g, r0, n)) ok_X11_ants true 1 rfl trivial ?_
  refine aj_callS (av := [.inl s]) (st := []) cal_X11_isSheet lk_11_298 stc_X11_isSheet (sp_isSheet s _ _ _ _) ⟨by decide, by decide, by decide, by decide⟩ (Nat.le_of_ble_eq_true rfl) (ax_dec2 (i := .invokestatic 298) (n := 3) ok_X11_ants rfl) (fun r M' hq => ?_)
  obtain ⟨rfl, rfl⟩ := hq
  change ax_J _ _ _ _ _ _ _ _ _ 4 [some (.inr (.inr (some (50, 0)))), some (.inl s), some (.inl t), some (.inl x), some (.inl m), none, none, none, none, none] [.inl (bI (0 ≤ s ∧ s ≤ 3))] (P, g, r0, n)
  refine aj_if_eq (tgt := 27) (ax_dec2 (i := .ifCond .eq 23) (n := 3) ok_X11_ants rfl) (by decide) (fun c1 => ?_) (fun c1 => ?_)
  · replace c1 := bI_e0 c1
    refine aj_run (C := True) (pc' := 29) (la' := [some (.inr (.inr (some (50, 0)))), some (.inl s), some (.inl t), some (.inl x), some (.inl m), none, none, none, none, none]) (st' := [.inl (-2)]) (M' := (P, g, r0, n)) ok_X11_ants true 1 rfl trivial ?_
    refine aj_ret (r := some (.inl (-2))) (ax_dec2 (i := .ireturn) (n := 1) ok_X11_ants rfl) ⟨?_, ?_, by decide, by decide⟩ rfl
    · first | (exfalso; omega) | exact ⟨ax_si (by unfold mAnts; (repeat first | rw [if_pos (by omega)] | rw [if_neg (by omega)] | rw [bI_t (by omega)] | rw [bI_f (by omega)])), by unfold mAnts; (repeat first | rw [if_pos (by omega)] | rw [if_neg (by omega)] | rw [bI_t (by omega)] | rw [bI_f (by omega)])⟩
    · exact ax_ro_i
  · replace c1 := bI_n0 c1
    refine aj_run (C := True) (pc' := 10) (la' := [some (.inr (.inr (some (50, 0)))), some (.inl s), some (.inl t), some (.inl x), some (.inl m), none, none, none, none, none]) (st' := [.inl 2, .inl 0, .inl t]) (M' := (P, g, r0, n)) ok_X11_ants true 3 rfl trivial ?_
    refine aj_callS (av := [.inl t, .inl 0, .inl 2]) (st := []) cal_X11_isIn lk_11_7 stc_X11_isIn (sp_isIn t 0 2 _ _ _ _) ⟨by decide, by decide, by decide, by decide⟩ (Nat.le_of_ble_eq_true rfl) (ax_dec2 (i := .invokestatic 7) (n := 3) ok_X11_ants rfl) (fun r M' hq => ?_)
    obtain ⟨rfl, rfl⟩ := hq
    change ax_J _ _ _ _ _ _ _ _ _ 13 [some (.inr (.inr (some (50, 0)))), some (.inl s), some (.inl t), some (.inl x), some (.inl m), none, none, none, none, none] [.inl (bI (0 ≤ t ∧ t ≤ 2))] (P, g, r0, n)
    refine aj_if_eq (tgt := 27) (ax_dec2 (i := .ifCond .eq 14) (n := 3) ok_X11_ants rfl) (by decide) (fun c2 => ?_) (fun c2 => ?_)
    · replace c2 := bI_e0 c2
      refine aj_run (C := True) (pc' := 29) (la' := [some (.inr (.inr (some (50, 0)))), some (.inl s), some (.inl t), some (.inl x), some (.inl m), none, none, none, none, none]) (st' := [.inl (-2)]) (M' := (P, g, r0, n)) ok_X11_ants true 1 rfl trivial ?_
      refine aj_ret (r := some (.inl (-2))) (ax_dec2 (i := .ireturn) (n := 1) ok_X11_ants rfl) ⟨?_, ?_, by decide, by decide⟩ rfl
      · first | (exfalso; omega) | exact ⟨ax_si (by unfold mAnts; (repeat first | rw [if_pos (by omega)] | rw [if_neg (by omega)] | rw [bI_t (by omega)] | rw [bI_f (by omega)])), by unfold mAnts; (repeat first | rw [if_pos (by omega)] | rw [if_neg (by omega)] | rw [bI_t (by omega)] | rw [bI_f (by omega)])⟩
      · exact ax_ro_i
    · replace c2 := bI_n0 c2
      refine aj_run (C := True) (pc' := 21) (la' := [some (.inr (.inr (some (50, 0)))), some (.inl s), some (.inl t), some (.inl x), some (.inl m), none, none, none, none, none]) (st' := [.inl 7, .inl 0, .inl m]) (M' := (P, g, r0, n)) ok_X11_ants true 3 rfl trivial ?_
      refine aj_callS (av := [.inl m, .inl 0, .inl 7]) (st := []) cal_X11_isIn lk_11_7 stc_X11_isIn (sp_isIn m 0 7 _ _ _ _) ⟨by decide, by decide, by decide, by decide⟩ (Nat.le_of_ble_eq_true rfl) (ax_dec2 (i := .invokestatic 7) (n := 3) ok_X11_ants rfl) (fun r M' hq => ?_)
      obtain ⟨rfl, rfl⟩ := hq
      change ax_J _ _ _ _ _ _ _ _ _ 24 [some (.inr (.inr (some (50, 0)))), some (.inl s), some (.inl t), some (.inl x), some (.inl m), none, none, none, none, none] [.inl (bI (0 ≤ m ∧ m ≤ 7))] (P, g, r0, n)
      refine aj_if_ne (tgt := 30) (ax_dec2 (i := .ifCond .ne 6) (n := 3) ok_X11_ants rfl) (by decide) (fun c3 => ?_) (fun c3 => ?_)
      · replace c3 := bI_n0 c3
        refine aj_run (C := (0 ≤ s ∧ s < n 155 0) ∧ True) (pc' := 36) (la' := [some (.inr (.inr (some (50, 0)))), some (.inl s), some (.inl t), some (.inl x), some (.inl m), none, none, none, none, none]) (st' := [.inl (g 155 0 s)]) (M' := (P, g, r0, n)) ok_X11_ants true 4 rfl (by refine ⟨?_, trivial⟩ <;> ((have hz1 := hz s; first | omega | (refine ⟨?_, ?_⟩ <;> omega)))) ?_
        refine aj_if_lt (tgt := 52) (ax_dec2 (i := .ifCond .lt 16) (n := 3) ok_X11_ants rfl) (by decide) (fun c4 => ?_) (fun c4 => ?_)
        · refine aj_run (C := (0 ≤ s ∧ s < n 155 0) ∧ True) (pc' := 58) (la' := [some (.inr (.inr (some (50, 0)))), some (.inl s), some (.inl t), some (.inl x), some (.inl m), none, none, none, none, none]) (st' := [.inl (g 155 0 s)]) (M' := (P, g, r0, n)) ok_X11_ants true 4 rfl (by refine ⟨?_, trivial⟩ <;> ((have hz1 := hz s; first | omega | (refine ⟨?_, ?_⟩ <;> omega)))) ?_
          refine aj_if_ge (tgt := 64) (ax_dec2 (i := .ifCond .ge 6) (n := 3) ok_X11_ants rfl) (by decide) (fun c5 => ?_) (fun c5 => ?_)
          · exact absurd c5 (by omega)
          · refine aj_run (C := True) (pc' := 63) (la' := [some (.inr (.inr (some (50, 0)))), some (.inl s), some (.inl t), some (.inl x), some (.inl m), none, none, none, none, none]) (st' := [.inl (-11)]) (M' := (P, g, r0, n)) ok_X11_ants true 1 rfl trivial ?_
            refine aj_ret (r := some (.inl (-11))) (ax_dec2 (i := .ireturn) (n := 1) ok_X11_ants rfl) ⟨?_, ?_, by decide, by decide⟩ rfl
            · first | (exfalso; omega) | exact ⟨ax_si (by unfold mAnts; (repeat first | rw [if_pos (by omega)] | rw [if_neg (by omega)] | rw [bI_t (by omega)] | rw [bI_f (by omega)])), by unfold mAnts; (repeat first | rw [if_pos (by omega)] | rw [if_neg (by omega)] | rw [bI_t (by omega)] | rw [bI_f (by omega)])⟩
            · exact ax_ro_i
        · refine aj_run (C := (0 ≤ s ∧ s < n 155 0) ∧ True) (pc' := 46) (la' := [some (.inr (.inr (some (50, 0)))), some (.inl s), some (.inl t), some (.inl x), some (.inl m), none, none, none, none, none]) (st' := [.inl t, .inl (g 155 0 s)]) (M' := (P, g, r0, n)) ok_X11_ants true 5 rfl (by refine ⟨?_, trivial⟩ <;> ((have hz1 := hz s; first | omega | (refine ⟨?_, ?_⟩ <;> omega)))) ?_
          refine aj_icmp_eq (tgt := 52) (ax_dec2 (i := .if_icmp .eq 6) (n := 3) ok_X11_ants rfl) (by decide) (fun c6 => ?_) (fun c6 => ?_)
          · refine aj_run (C := (0 ≤ s ∧ s < n 155 0) ∧ True) (pc' := 58) (la' := [some (.inr (.inr (some (50, 0)))), some (.inl s), some (.inl t), some (.inl x), some (.inl m), none, none, none, none, none]) (st' := [.inl (g 155 0 s)]) (M' := (P, g, r0, n)) ok_X11_ants true 4 rfl (by refine ⟨?_, trivial⟩ <;> ((have hz1 := hz s; first | omega | (refine ⟨?_, ?_⟩ <;> omega)))) ?_
            refine aj_if_ge (tgt := 64) (ax_dec2 (i := .ifCond .ge 6) (n := 3) ok_X11_ants rfl) (by decide) (fun c7 => ?_) (fun c7 => ?_)
            · refine aj_run (C := True) (pc' := 70) (la' := [some (.inr (.inr (some (50, 0)))), some (.inl s), some (.inl t), some (.inl x), some (.inl m), some (.inl 0), some (.inl 0), none, none, none]) (st' := []) (M' := (P, g, r0, n)) ok_X11_ants true 4 rfl trivial ?_
              refine aj_cast (congrArg (fun (z9 : Int) => ([some (.inr (.inr (some (50, 0)))), some (.inl s), some (.inl t), some (.inl x), some (.inl m), some (.inl z9), some (.inl 0), none, none, none] : List (Option ax_V))) (show 0 = (wAn g s x 0).2.1 from by rfl)) rfl rfl ?_
              refine aj_forget (la' := [some (.inr (.inr (some (50, 0)))), some (.inl s), some (.inl t), some (.inl x), some (.inl m), some (.inl ((wAn g s x 0).2.1)), some (.inl 0), none, none, none]) (by simp [ax_fg]) ?_
              refine aj_loop (σ := (Int) × (Nat → Int → Int → Int)) (fun xL => 0 ≤ xL.1 ∧ xL.1 ≤ m ∧ (wAn g s x xL.1).1 = 0 ∧ xL.2 = (wAn g s x xL.1).2.2) (fun xL => (m - xL.1).toNat) (fun xL => [some (.inr (.inr (some (50, 0)))), some (.inl s), some (.inl t), some (.inl x), some (.inl m), some (.inl ((wAn g s x xL.1).2.1)), some (.inl xL.1), none, none, none]) (fun xL => []) (fun xL => (P, xL.2, r0, n)) ?_ (0, g) ?_
              rotate_left
              · exact ⟨by omega, by omega, rfl, rfl⟩
              rintro ⟨k, g1⟩ hI ih70
              try dsimp only at hI ih70
              obtain ⟨i1, i2, i3, i4⟩ := hI
              change ax_J _ _ _ _ _ _ _ _ _ 70 [some (.inr (.inr (some (50, 0)))), some (.inl s), some (.inl t), some (.inl x), some (.inl m), some (.inl ((wAn g s x k).2.1)), some (.inl k), none, none, none] [] (P, g1, r0, n)
              have hin := wAn_in (g := g) (s := s) (x := x) h2 i1
              rw [← i4] at hin
              have k0 : g1 50 0 0 = g 50 0 0 := hin.2.2.2.1 0 (by decide)
              have e157 : g1 157 = g 157 := hin.2.2.2.2 157 (by decide) (by omega)
              have e156 : g1 156 0 s = g 156 0 s := by rw [hin.2.2.2.2 156 (by decide) (by omega)]
              have hz1 := hz s
              refine aj_run (C := True) (pc' := 74) (la' := [some (.inr (.inr (some (50, 0)))), some (.inl s), some (.inl t), some (.inl x), some (.inl m), some (.inl ((wAn g s x k).2.1)), some (.inl k), none, none, none]) (st' := [.inl m, .inl k]) (M' := (P, g1, r0, n)) ok_X11_ants true 2 rfl trivial ?_
              refine aj_icmp_ge (tgt := 174) (ax_dec2 (i := .if_icmp .ge 100) (n := 3) ok_X11_ants rfl) (by decide) (fun c8 => ?_) (fun c8 => ?_)
              · refine aj_run (C := True) (pc' := 176) (la' := [some (.inr (.inr (some (50, 0)))), some (.inl s), some (.inl t), some (.inl x), some (.inl m), some (.inl ((wAn g s x k).2.1)), some (.inl k), none, none, none]) (st' := [.inl ((wAn g s x k).2.1)]) (M' := (P, g1, r0, n)) ok_X11_ants true 1 rfl trivial ?_
                refine aj_ret (r := some (.inl ((wAn g s x k).2.1))) (ax_dec2 (i := .ireturn) (n := 1) ok_X11_ants rfl) ⟨?_, ?_, by decide, by decide⟩ rfl
                · have ek : k = m := (by omega); subst ek; exact ⟨ax_si (by unfold mAnts; (repeat first | rw [if_pos (by omega)] | rw [if_neg (by omega)] | rw [bI_t (by omega)] | rw [bI_f (by omega)])), by unfold mAnts; (repeat first | rw [if_pos (by omega)] | rw [if_neg (by omega)] | rw [bI_t (by omega)] | rw [bI_f (by omega)]); rw [i4]⟩
                · exact ax_ro_i
              · refine aj_run (C := True) (pc' := 89) (la' := [some (.inr (.inr (some (50, 0)))), some (.inl s), some (.inl t), some (.inl x), some (.inl m), some (.inl ((wAn g s x k).2.1)), some (.inl k), some (.inr (.inl (Int.bmod (x + (Int.bmod (3 * k) 18446744073709551616)) 18446744073709551616))), none, none]) (st' := []) (M' := (P, g1, r0, n)) ok_X11_ants true 8 rfl trivial ?_
                have hb0 : Int.bmod (x + (Int.bmod (3 * k) 18446744073709551616)) 18446744073709551616 = x + 3 * k := by rw [bm64 (x := 3 * k) (by omega), bm64 (by omega)]
                refine aj_cast (congrArg (fun (z9 : Int) => ([some (.inr (.inr (some (50, 0)))), some (.inl s), some (.inl t), some (.inl x), some (.inl m), some (.inl ((wAn g s x k).2.1)), some (.inl k), some (.inr (.inl z9)), none, none] : List (Option ax_V))) hb0) rfl rfl ?_
                have hb2 : Int.bmod ((x + 3 * k) + 2) 18446744073709551616 = x + 3 * k + 2 := bm64 (by omega)
                have hc1 := cmp_lt (x := x + 3 * k) (y := 0)
                have hc2 : ax_cmp (Int.bmod ((x + 3 * k) + 2) 18446744073709551616) (g1 156 0 s) < 0 ↔ x + 3 * k + 2 < g1 156 0 s := by rw [cmp_lt, hb2]
                refine aj_run (C := True) (pc' := 93) (la' := [some (.inr (.inr (some (50, 0)))), some (.inl s), some (.inl t), some (.inl x), some (.inl m), some (.inl ((wAn g s x k).2.1)), some (.inl k), some (.inr (.inl (x + 3 * k))), none, none]) (st' := [.inl (ax_cmp (x + 3 * k) 0)]) (M' := (P, g1, r0, n)) ok_X11_ants true 3 rfl trivial ?_
                refine aj_if_lt (tgt := 113) (ax_dec2 (i := .ifCond .lt 20) (n := 3) ok_X11_ants rfl) (by decide) (fun c9 => ?_) (fun c9 => ?_)
                · refine aj_run (C := True) (pc' := 115) (la' := [some (.inr (.inr (some (50, 0)))), some (.inl s), some (.inl t), some (.inl x), some (.inl m), some (.inl ((wAn g s x k).2.1)), some (.inl k), some (.inr (.inl (x + 3 * k))), none, none]) (st' := [.inl (-12)]) (M' := (P, g1, r0, n)) ok_X11_ants true 1 rfl trivial ?_
                  refine aj_ret (r := some (.inl (-12))) (ax_dec2 (i := .ireturn) (n := 1) ok_X11_ants rfl) ⟨?_, ?_, by decide, by decide⟩ rfl
                  · (have z8 : wAn g s x (k + 1) = (1, (wAn g s x k).2) := (by rw [wAn_s i1, if_neg (by omega), if_neg (by omega)])); (have z7 := wAn_st (g := g) (s := s) (x := x) (k := k + 1) (by omega) (by rw [z8]; exact (by decide : (1 : Int) ≠ 0)) (m - (k + 1)).toNat); rw [show k + 1 + ((m - (k + 1)).toNat : Int) = m by omega, z8] at z7; (have z6 : (wAn g s x m).1 = 1 := (by rw [z7])); exact ⟨ax_si (by unfold mAnts; (repeat first | rw [if_pos (by omega)] | rw [if_neg (by omega)] | rw [bI_t (by omega)] | rw [bI_f (by omega)])), by unfold mAnts; (repeat first | rw [if_pos (by omega)] | rw [if_neg (by omega)] | rw [bI_t (by omega)] | rw [bI_f (by omega)]); rw [z7, i4]⟩
                  · exact ax_ro_i
                · refine aj_run (C := (0 ≤ s ∧ s < n 156 0) ∧ True) (pc' := 110) (la' := [some (.inr (.inr (some (50, 0)))), some (.inl s), some (.inl t), some (.inl x), some (.inl m), some (.inl ((wAn g s x k).2.1)), some (.inl k), some (.inr (.inl (x + 3 * k))), none, none]) (st' := [.inl (ax_cmp (Int.bmod ((x + 3 * k) + 2) 18446744073709551616) (g1 156 0 s))]) (M' := (P, g1, r0, n)) ok_X11_ants true 9 rfl (by refine ⟨?_, trivial⟩ <;> ((have hz1 := hz s; first | omega | (refine ⟨?_, ?_⟩ <;> omega)))) ?_
                  refine aj_if_lt (tgt := 116) (ax_dec2 (i := .ifCond .lt 6) (n := 3) ok_X11_ants rfl) (by decide) (fun c10 => ?_) (fun c10 => ?_)
                  · refine aj_run (C := (-2147483648 ≤ 40 * s ∧ 40 * s ≤ 2147483647) ∧ (-2147483648 ≤ x + 3 * k ∧ x + 3 * k ≤ 2147483647) ∧ (-2147483648 ≤ (40 * s) + (x + 3 * k) ∧ (40 * s) + (x + 3 * k) ≤ 2147483647) ∧ (0 ≤ (40 * s) + (x + 3 * k) ∧ (40 * s) + (x + 3 * k) < n 157 0) ∧ (-2147483648 ≤ ((40 * s) + (x + 3 * k)) + 1 ∧ ((40 * s) + (x + 3 * k)) + 1 ≤ 2147483647) ∧ (0 ≤ ((40 * s) + (x + 3 * k)) + 1 ∧ ((40 * s) + (x + 3 * k)) + 1 < n 157 0) ∧ (-2147483648 ≤ ((40 * s) + (x + 3 * k)) + 2 ∧ ((40 * s) + (x + 3 * k)) + 2 ≤ 2147483647) ∧ (0 ≤ ((40 * s) + (x + 3 * k)) + 2 ∧ ((40 * s) + (x + 3 * k)) + 2 < n 157 0) ∧ True) (pc' := 154) (la' := [some (.inr (.inr (some (50, 0)))), some (.inl s), some (.inl t), some (.inl x), some (.inl m), some (.inl ((wAn g s x k).2.1)), some (.inl k), some (.inr (.inl (x + 3 * k))), none, some (.inl ((40 * s) + (x + 3 * k)))]) (st' := [.inl (g1 157 0 (((40 * s) + (x + 3 * k)) + 2)), .inl (g1 157 0 (((40 * s) + (x + 3 * k)) + 1)), .inl (g1 157 0 ((40 * s) + (x + 3 * k))), .inr (.inr (some (50, 0))), .inl ((wAn g s x k).2.1)]) (M' := (P, g1, r0, n)) ok_X11_ants true 25 rfl (by refine ⟨?_, ?_, ?_, ?_, ?_, ?_, ?_, ?_, trivial⟩ <;> ((have hz1 := hz s; first | omega | (refine ⟨?_, ?_⟩ <;> omega)))) ?_
                    refine aj_callV (av := [.inl (g1 157 0 ((40 * s) + (x + 3 * k))), .inl (g1 157 0 (((40 * s) + (x + 3 * k)) + 1)), .inl (g1 157 0 (((40 * s) + (x + 3 * k)) + 2))]) (st := [.inl ((wAn g s x k).2.1)]) (f := 50) (o := 0) (ci := 11) cal_X11_ant lk_11_334 ins_X11_ant rfl sel_X11_ant rfl (fun c9 h9 _ => by simpa [ax_ok] using h9) (sp_ant (g1 157 0 ((40 * s) + (x + 3 * k))) (g1 157 0 (((40 * s) + (x + 3 * k)) + 1)) (g1 157 0 (((40 * s) + (x + 3 * k)) + 2)) _ _ _ _ hn hin.2.2.1 (by rw [k0]; exact hk)) ⟨by decide, by decide, by decide, by decide⟩ (Nat.le_of_ble_eq_true rfl) (ax_dec2 (i := .invokevirtual 334) (n := 3) ok_X11_ants rfl) (fun r M' hq => ?_)
                    obtain ⟨rfl, rfl⟩ := hq
                    change ax_J _ _ _ _ _ _ _ _ _ 157 [some (.inr (.inr (some (50, 0)))), some (.inl s), some (.inl t), some (.inl x), some (.inl m), some (.inl ((wAn g s x k).2.1)), some (.inl k), some (.inr (.inl (x + 3 * k))), none, some (.inl ((40 * s) + (x + 3 * k)))] [.inl ((mAnt g1 (g1 157 0 ((40 * s) + (x + 3 * k))) (g1 157 0 (((40 * s) + (x + 3 * k)) + 1)) (g1 157 0 (((40 * s) + (x + 3 * k)) + 2))).1), .inl ((wAn g s x k).2.1)] (P, (mAnt g1 (g1 157 0 ((40 * s) + (x + 3 * k))) (g1 157 0 (((40 * s) + (x + 3 * k)) + 1)) (g1 157 0 (((40 * s) + (x + 3 * k)) + 2))).2, r0, n)
                    refine aj_if_lt (tgt := 164) (ax_dec2 (i := .ifCond .lt 7) (n := 3) ok_X11_ants rfl) (by decide) (fun c11 => ?_) (fun c11 => ?_)
                    · refine aj_run (C := (-2147483648 ≤ ((wAn g s x k).2.1) + 0 ∧ ((wAn g s x k).2.1) + 0 ≤ 2147483647) ∧ (-2147483648 ≤ k + 1 ∧ k + 1 ≤ 2147483647) ∧ True) (pc' := 70) (la' := [some (.inr (.inr (some (50, 0)))), some (.inl s), some (.inl t), some (.inl x), some (.inl m), some (.inl (((wAn g s x k).2.1) + 0)), some (.inl (k + 1)), some (.inr (.inl (x + 3 * k))), none, some (.inl ((40 * s) + (x + 3 * k)))]) (st' := []) (M' := (P, (mAnt g1 (g1 157 0 ((40 * s) + (x + 3 * k))) (g1 157 0 (((40 * s) + (x + 3 * k)) + 1)) (g1 157 0 (((40 * s) + (x + 3 * k)) + 2))).2, r0, n)) ok_X11_ants true 5 rfl (by refine ⟨?_, ?_, trivial⟩ <;> ((have hz1 := hz s; first | omega | (refine ⟨?_, ?_⟩ <;> omega)))) ?_
                      refine aj_cast (congrArg (fun (z9 : Int) => ([some (.inr (.inr (some (50, 0)))), some (.inl s), some (.inl t), some (.inl x), some (.inl m), some (.inl z9), some (.inl (k + 1)), some (.inr (.inl (x + 3 * k))), none, some (.inl ((40 * s) + (x + 3 * k)))] : List (Option ax_V))) (show ((wAn g s x k).2.1) + 0 = (wAn g s x (k + 1)).2.1 from by (rw [wAn_s i1, if_neg (by omega), if_pos (by omega), ← i4, ← e157]; (first | rw [bI_t (by omega)] | rw [bI_f (by omega)]); try exact Int.add_zero _))) rfl rfl ?_
                      refine aj_forget (la' := [some (.inr (.inr (some (50, 0)))), some (.inl s), some (.inl t), some (.inl x), some (.inl m), some (.inl ((wAn g s x (k + 1)).2.1)), some (.inl (k + 1)), none, none, none]) (by simp [ax_fg]) ?_
                      refine ih70 (k + 1, (mAnt g1 (g1 157 0 ((40 * s) + (x + 3 * k))) (g1 157 0 (((40 * s) + (x + 3 * k)) + 1)) (g1 157 0 (((40 * s) + (x + 3 * k)) + 2))).2) ?_ ?_
                      · exact ⟨by omega, by omega, by rw [wAn_s i1, if_neg (by omega), if_pos (by omega)], by rw [wAn_s i1, if_neg (by omega), if_pos (by omega), ← i4, ← e157]⟩
                      · omega
                    · refine aj_run (C := (-2147483648 ≤ ((wAn g s x k).2.1) + 1 ∧ ((wAn g s x k).2.1) + 1 ≤ 2147483647) ∧ (-2147483648 ≤ k + 1 ∧ k + 1 ≤ 2147483647) ∧ True) (pc' := 70) (la' := [some (.inr (.inr (some (50, 0)))), some (.inl s), some (.inl t), some (.inl x), some (.inl m), some (.inl (((wAn g s x k).2.1) + 1)), some (.inl (k + 1)), some (.inr (.inl (x + 3 * k))), none, some (.inl ((40 * s) + (x + 3 * k)))]) (st' := []) (M' := (P, (mAnt g1 (g1 157 0 ((40 * s) + (x + 3 * k))) (g1 157 0 (((40 * s) + (x + 3 * k)) + 1)) (g1 157 0 (((40 * s) + (x + 3 * k)) + 2))).2, r0, n)) ok_X11_ants true 6 rfl (by refine ⟨?_, ?_, trivial⟩ <;> ((have hz1 := hz s; first | omega | (refine ⟨?_, ?_⟩ <;> omega)))) ?_
                      refine aj_cast (congrArg (fun (z9 : Int) => ([some (.inr (.inr (some (50, 0)))), some (.inl s), some (.inl t), some (.inl x), some (.inl m), some (.inl z9), some (.inl (k + 1)), some (.inr (.inl (x + 3 * k))), none, some (.inl ((40 * s) + (x + 3 * k)))] : List (Option ax_V))) (show ((wAn g s x k).2.1) + 1 = (wAn g s x (k + 1)).2.1 from by (rw [wAn_s i1, if_neg (by omega), if_pos (by omega), ← i4, ← e157]; (first | rw [bI_t (by omega)] | rw [bI_f (by omega)]); try exact Int.add_zero _))) rfl rfl ?_
                      refine aj_forget (la' := [some (.inr (.inr (some (50, 0)))), some (.inl s), some (.inl t), some (.inl x), some (.inl m), some (.inl ((wAn g s x (k + 1)).2.1)), some (.inl (k + 1)), none, none, none]) (by simp [ax_fg]) ?_
                      refine ih70 (k + 1, (mAnt g1 (g1 157 0 ((40 * s) + (x + 3 * k))) (g1 157 0 (((40 * s) + (x + 3 * k)) + 1)) (g1 157 0 (((40 * s) + (x + 3 * k)) + 2))).2) ?_ ?_
                      · exact ⟨by omega, by omega, by rw [wAn_s i1, if_neg (by omega), if_pos (by omega)], by rw [wAn_s i1, if_neg (by omega), if_pos (by omega), ← i4, ← e157]⟩
                      · omega
                  · refine aj_run (C := True) (pc' := 115) (la' := [some (.inr (.inr (some (50, 0)))), some (.inl s), some (.inl t), some (.inl x), some (.inl m), some (.inl ((wAn g s x k).2.1)), some (.inl k), some (.inr (.inl (x + 3 * k))), none, none]) (st' := [.inl (-12)]) (M' := (P, g1, r0, n)) ok_X11_ants true 1 rfl trivial ?_
                    refine aj_ret (r := some (.inl (-12))) (ax_dec2 (i := .ireturn) (n := 1) ok_X11_ants rfl) ⟨?_, ?_, by decide, by decide⟩ rfl
                    · (have z8 : wAn g s x (k + 1) = (1, (wAn g s x k).2) := (by rw [wAn_s i1, if_neg (by omega), if_neg (by omega)])); (have z7 := wAn_st (g := g) (s := s) (x := x) (k := k + 1) (by omega) (by rw [z8]; exact (by decide : (1 : Int) ≠ 0)) (m - (k + 1)).toNat); rw [show k + 1 + ((m - (k + 1)).toNat : Int) = m by omega, z8] at z7; (have z6 : (wAn g s x m).1 = 1 := (by rw [z7])); exact ⟨ax_si (by unfold mAnts; (repeat first | rw [if_pos (by omega)] | rw [if_neg (by omega)] | rw [bI_t (by omega)] | rw [bI_f (by omega)])), by unfold mAnts; (repeat first | rw [if_pos (by omega)] | rw [if_neg (by omega)] | rw [bI_t (by omega)] | rw [bI_f (by omega)]); rw [z7, i4]⟩
                    · exact ax_ro_i
            · exact absurd c7 (by omega)
          · refine aj_run (C := True) (pc' := 51) (la' := [some (.inr (.inr (some (50, 0)))), some (.inl s), some (.inl t), some (.inl x), some (.inl m), none, none, none, none, none]) (st' := [.inl (-13)]) (M' := (P, g, r0, n)) ok_X11_ants true 1 rfl trivial ?_
            refine aj_ret (r := some (.inl (-13))) (ax_dec2 (i := .ireturn) (n := 1) ok_X11_ants rfl) ⟨?_, ?_, by decide, by decide⟩ rfl
            · first | (exfalso; omega) | exact ⟨ax_si (by unfold mAnts; (repeat first | rw [if_pos (by omega)] | rw [if_neg (by omega)] | rw [bI_t (by omega)] | rw [bI_f (by omega)])), by unfold mAnts; (repeat first | rw [if_pos (by omega)] | rw [if_neg (by omega)] | rw [bI_t (by omega)] | rw [bI_f (by omega)])⟩
            · exact ax_ro_i
      · replace c3 := bI_e0 c3
        refine aj_run (C := True) (pc' := 29) (la' := [some (.inr (.inr (some (50, 0)))), some (.inl s), some (.inl t), some (.inl x), some (.inl m), none, none, none, none, none]) (st' := [.inl (-2)]) (M' := (P, g, r0, n)) ok_X11_ants true 1 rfl trivial ?_
        refine aj_ret (r := some (.inl (-2))) (ax_dec2 (i := .ireturn) (n := 1) ok_X11_ants rfl) ⟨?_, ?_, by decide, by decide⟩ rfl
        · first | (exfalso; omega) | exact ⟨ax_si (by unfold mAnts; (repeat first | rw [if_pos (by omega)] | rw [if_neg (by omega)] | rw [bI_t (by omega)] | rw [bI_f (by omega)])), by unfold mAnts; (repeat first | rw [if_pos (by omega)] | rw [if_neg (by omega)] | rw [bI_t (by omega)] | rw [bI_f (by omega)])⟩
        · exact ax_ro_i

