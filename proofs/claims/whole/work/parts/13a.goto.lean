/-! ===== the class between calls: what stands; a way begun ===== -/
theorem wVl_nm {h : Nat → Int → Int → Int} {row : Int} {nm nm' : Int → Int} (e : ∀ i, 0 ≤ i → i < 6 → nm i = nm' i) : wVl h row nm = wVl h row nm' := by
  have : wEvS (wCd h row) nm (fun _ => 0) (h 113 0 row) = wEvS (wCd h row) nm' (fun _ => 0) (h 113 0 row) := by
    unfold wEvS
    refine wFI_c fun k s _ _ => ?_
    unfold wEv1
    by_cases c1 : wCd h row k < 0
    · rw [if_pos c1, if_pos c1]
    · rw [if_neg c1, if_neg c1]
      by_cases c2 : wCd h row k < 6
      · rw [if_pos c2, if_pos c2, e _ (by omega) c2]
      · rw [if_neg c2, if_neg c2]
  unfold wVl
  rw [this]
def cV (h : Nat → Int → Int → Int) : Int → (Int → Int) → Int := fun p nm => wVl h (3 * h 50 0 11 + p) nm
theorem cV_n {h : Nat → Int → Int → Int} : cVn (cV h) := fun _ _ _ e => wVl_nm e
def cSta (P : Nat → Int → Prop) (r0 : Nat → Int → Int → Option (Nat × Int)) (n : Nat → Int → Int) (g h : Nat → Int → Int → Int) : Prop := (cAn P r0 n (g 2 0 1) ∧ cPl g h n ∧ wOs h) ∧ (n 214 0 = 81 ∧ n 215 0 = 81 ∧ n 216 0 = 6 ∧ n 209 0 = 896 ∧ n 210 0 = 128) ∧ ((r0 2 0 4 = some (6, h 50 0 11) ∧ P 6 (h 50 0 11)) ∧ cRu g n (h 50 0 11) (cV h)) ∧ (r0 1 0 0 = some (2, 0) ∧ P 2 0)
/-- what walks of the class change -/
def TG : Nat → Int → Int → Prop := fun f o j => f = 214 ∨ f = 215 ∨ f = 216 ∨ f = 604 ∨ (f = 2 ∧ o = 0 ∧ ((5 ≤ j ∧ j ≤ 8) ∨ j = 12 ∨ j = 13)) ∨ (f = 5 ∧ 2 ≤ j)
def TW : Nat → Int → Int → Prop := fun f o j => f = 209 ∨ f = 210 ∨ TG f o j
theorem TG_TW {f : Nat} {o j : Int} (h : ¬ TW f o j) : ¬ TG f o j := fun z => h (Or.inr (Or.inr z))
theorem TGo_TG {z : Int} {f : Nat} {o j : Int} (h : ¬ TG f o j) : ¬ TGo z f o j := fun w => h (by unfold TG; unfold TGo at w; omega)
theorem cFr_TG {g' g : Nat → Int → Int → Int} (h : cFr TG g' g) : cFr TW g' g := fun f o j w => h f o j (TG_TW w)
theorem cSta_w {P : Nat → Int → Prop} {r0 : Nat → Int → Int → Option (Nat × Int)} {n : Nat → Int → Int} {g g' h : Nat → Int → Int → Int} (hf : cFr TW g' g) (hs : cSta P r0 n g h) : cSta P r0 n g' h := by
  obtain ⟨⟨s1, s2, s3⟩, s4, ⟨s5, s6⟩, s7⟩ := hs
  have e1 : g' 2 0 1 = g 2 0 1 := hf 2 0 1 (by unfold TW TG; omega)
  refine ⟨⟨by rw [e1]; exact s1, cPl_g (fun j z1 z2 => hf 2 0 j (by unfold TW TG; omega)) (fun a j => hf 500 a j (by unfold TW TG; omega)) s2, s3⟩, s4, ⟨s5, cRu_c (fun f j z1 z2 => hf f _ j (by unfold TW TG; omega)) s6⟩, s7⟩
def cMz (g : Nat → Int → Int → Int) : Prop := ∀ p, 0 ≤ p → p ≤ 80 → g 214 0 p = 0 ∧ g 215 0 p = 0
def cCa (g h : Nat → Int → Int → Int) : Prop := 1 ≤ g 2 0 11 ∧ ∀ w, 0 ≤ w → w < 128 → g 210 0 w ≤ g 2 0 11 ∧ (g 210 0 w = g 2 0 11 → ∀ a, 0 ≤ a → a < h 50 0 2 → g 209 0 (w * 7 + a) = gA h w 135 0 a)
def cDy (g h : Nat → Int → Int → Int) : Prop := cMz g ∧ cCa g h
theorem cCa_g {g g' h : Nat → Int → Int → Int} (hf : cFr TG g' g) (hc : cCa g h) : cCa g' h := by
  unfold cCa at *
  have e1 : g' 2 0 11 = g 2 0 11 := hf 2 0 11 (by unfold TG; omega)
  have e2 : ∀ w, g' 210 0 w = g 210 0 w := fun w => hf 210 0 w (by unfold TG; omega)
  have e3 : ∀ w, g' 209 0 w = g 209 0 w := fun w => hf 209 0 w (by unfold TG; omega)
  simp only [e1, e2, e3]
  exact hc
theorem cSm_mz {g hB : Nat → Int → Int → Int} {k : Int} (hs : cSm g hB k) : cMz g := hs.1.2.2
theorem cBg_fr {g : Nat → Int → Int → Int} {way th : Int} : cFr TG (cBegin g way th) g := fun f o j w => by
  unfold TG at w
  unfold cBegin
  rw [ax_u3_n (by omega), ax_u3_n (by omega), ax_u3_n (by omega), ax_u3_n (by omega), ax_u3_n (by omega), ax_u3_n (by omega)]
  unfold cBg
  rw [if_neg (by omega)]
theorem cSum_one : ∀ m : Nat, cSum (fun _ => (1 : Int)) m = m
  | 0 => rfl
  | m + 1 => by rw [show ((m + 1 : Nat) : Int) = (m : Int) + 1 by omega, cSum_s (by omega), cSum_one m]
theorem beg_42 {h : Nat → Int → Int → Int} {way : Int} : ax_u3 (wBegin h way) 50 0 42 0 = wBegin h way := by
  funext f o j
  by_cases q : f = 50 ∧ o = 0 ∧ j = 42
  · obtain ⟨rfl, rfl, rfl⟩ := q
    rw [ax_u3_s, beg_v.2.2.2]
  · exact ax_u3_n q
theorem cBg_r {g : Nat → Int → Int → Int} {way th a j : Int} (h1 : 0 ≤ a) (h2 : a < g 2 0 1) (h3 : 2 ≤ j ∧ j ≤ 10) : cBegin g way th 5 a j = cBgV way a j := by
  unfold cBegin
  rw [ax_u3_f (by decide), ax_u3_f (by decide), ax_u3_f (by decide), ax_u3_f (by decide), ax_u3_f (by decide), ax_u3_f (by decide)]
  unfold cBg
  rw [if_pos ⟨rfl, ⟨h1, h2⟩, h3⟩]
/-- what a way begun gives -/
theorem beg_all {P : Nat → Int → Prop} {r0 : Nat → Int → Int → Option (Nat × Int)} {n : Nat → Int → Int} {g h : Nat → Int → Int → Int} (hs : cSta P r0 n g h) (hm : cMz g) (way th : Int) : cAn P r0 n (cBegin g way th 2 0 1) ∧ cPl (cBegin g way th) (ax_u3 (wBegin h way) 50 0 42 th) n ∧ wOa (ax_u3 (wBegin h way) 50 0 42 th) ∧ (ax_u3 (wBegin h way) 50 0 42 th) 50 0 39 = -1 ∧ cSm (cBegin g way th) (ax_u3 (wBegin h way) 50 0 42 th) 0 ∧ cRu (cBegin g way th) n (h 50 0 11) (cV h) ∧ ∀ p nm, cV h p nm = wVl (ax_u3 (wBegin h way) 50 0 42 th) (3 * (ax_u3 (wBegin h way) 50 0 42 th) 50 0 11 + p) nm := by
  obtain ⟨⟨s1, s2, s3⟩, s4, ⟨s5, s6⟩, s7⟩ := hs
  have hf := cBg_fr (g := g) (way := way) (th := th)
  have e1 : cBegin g way th 2 0 1 = g 2 0 1 := hf 2 0 1 (by unfold TG; omega)
  have ss : wSs (ax_u3 (wBegin h way) 50 0 42 th) h := by
    refine wSs.tr ⟨fun f z1 z2 => funext fun o => funext fun k => ax_u3_f z1, fun o k z => ax_u3_n (by omega)⟩ beg_ss
  have v := beg_v (g := h) (ways := way)
  have ez : ax_u3 (wBegin h way) 50 0 42 th 50 0 2 = h 50 0 2 := ss.2 0 2 (by omega)
  have h2 := s3.2.2.1
  have er : ∀ f a, 129 ≤ f → f ≤ 136 → 0 ≤ a → a < h 50 0 2 → ax_u3 (wBegin h way) 50 0 42 th f 0 a = wBegA way f a := fun f a z1 z2 z3 z4 => by rw [ax_u3_f (by omega), beg_r ⟨z1, z2⟩ z3 z4]
  refine ⟨by rw [e1]; exact s1, cPl_s ss (cPl_g (fun j z1 z2 => hf 2 0 j (by unfold TG; omega)) (fun a j => hf 500 a j (by unfold TG; omega)) s2), oa_u42 (beg_oa s3), by rw [ax_u3_n (by omega)]; exact v.1, ⟨⟨fun a z1 z2 => ?_, ⟨?_, ?_, ?_, ?_⟩, fun p z1 z2 => ?_⟩, ?_, fun _ => ?_, ?_⟩, cRu_c (fun f j z1 z2 => hf f _ j (by unfold TG; omega)) s6, fun p nm => by rw [wVl_s ss, ss.2 0 11 (by omega)]; rfl⟩
  · show cD1 _ (ax_u3 (wBegin h way) 50 0 42 th) a
    replace z2 : a < h 50 0 2 := by rw [← ez]; exact z2
    have z3 : a < g 2 0 1 := by rw [s2.1.1]; exact z2
    unfold cD1
    rw [er 129 a (by decide) (by decide) z1 z2, er 130 a (by decide) (by decide) z1 z2, er 131 a (by decide) (by decide) z1 z2, er 132 a (by decide) (by decide) z1 z2, er 133 a (by decide) (by decide) z1 z2, er 134 a (by decide) (by decide) z1 z2, er 135 a (by decide) (by decide) z1 z2, er 136 a (by decide) (by decide) z1 z2, cBg_r z1 z3 (by decide), cBg_r z1 z3 (by decide), cBg_r z1 z3 (by decide), cBg_r z1 z3 (by decide), cBg_r z1 z3 (by decide), cBg_r z1 z3 (by decide), cBg_r z1 z3 (by decide), cBg_r z1 z3 (by decide), cBg_r z1 z3 (by decide)]
    unfold cBgV wBegA
    simp [bI_f]
  · show _ = ax_u3 (wBegin h way) 50 0 42 th 50 0 41
    rw [ax_u3_n (by omega), v.2.2.1]
    rfl
  · show _ = ax_u3 (wBegin h way) 50 0 42 th 50 0 40
    rw [ax_u3_n (by omega), v.2.1]
    rfl
  · show _ = cSt (ax_u3 (wBegin h way) 50 0 42 th)
    unfold cSt
    rw [ez, cSum_c (f' := fun _ => 1) (fun a z1 z2 => by rw [er 135 a (by decide) (by decide) z1 z2]; exact bI_t (by unfold wBegA; rw [if_pos (by decide)]; decide))]
    have := cSum_one (h 50 0 2).toNat
    rw [show (((h 50 0 2).toNat : Nat) : Int) = h 50 0 2 by omega] at this
    rw [this, ← s2.1.1]
    rfl
  · show _ = ax_u3 (wBegin h way) 50 0 42 th 50 0 42
    rw [ax_u3_s]
    rfl
  · exact hm p z1 z2
  · rfl
  · rfl
  · rw [show cBegin g way th 2 0 12 = -1 from rfl]
    decide
theorem gAs_c {g h : Nat → Int → Int → Int} {n : Nat → Int → Int} (hp : cPl g h n) : wSet (fun q => g 500 q 1) (g 2 0 1) = gAs h := by
  unfold gAs wSet
  rw [hp.1.1]
  exact wFI_c fun a t z1 z2 => by rw [← (hp.2 a z1 z2).2.1]
set_option maxRecDepth 100000 in
set_option maxHeartbeats 4000000 in
theorem cp_goTo (b : Int) (P : Nat → Int → Prop) (g : Nat → Int → Int → Int) (r0 : Nat → Int → Int → Option (Nat × Int)) (n : Nat → Int → Int) (h : Nat → Int → Int → Int) (hs : cSta P r0 n g h) (hm : cMz g) (hb : 0 ≤ b ∧ b ≤ 1000) : ax_S yX10_goTo cX10_goTo 2 none 12 0 0 [.inr (.inr (some (1, 0))), .inl b] (P, g, r0, n) (fun r M' => r = none ∧ ∃ g', M' = (P, g', r0, n) ∧ cSm g' (wBegin h (gAs h)) (b + 1) ∧ cFr TG g' g) := by
  have hAs := hs.1.1
  have hPs := hs.1.2.1
  have hOs := hs.1.2.2
  have hP1 := hPs.1
  have hA1 := hAs.1
  have hsz := hOs.2.2.1
  refine ax_S_of (own := 10) (by decide) rfl (fun h => absurd h (by decide)) rfl (Nat.le_of_ble_eq_true rfl) ?_
  change ax_J _ _ _ _ _ _ _ _ _ _ [some (.inr (.inr (some (1, 0)))), some (.inl b)] _ _
  refine aj_run (C := True) (pc' := 1) (la' := [some (.inr (.inr (some (1, 0)))), some (.inl b)]) (st' := [.inr (.inr (some (1, 0)))]) (M' := (P, g, r0, n)) ok_X10_goTo true 1 rfl trivial ?_
  refine aj_getR (f := 1) (k := 0) (g := 2) (o := 0) (u := 0) (ax_lk_ok (q := (1, 0)) rfl) rfl rfl hs.2.2.2.1 hs.2.2.2.2 (ax_dec2 (i := .getfield 10) (n := 3) ok_X10_goTo rfl) ?_
  refine aj_run (C := True) (pc' := 5) (la' := [some (.inr (.inr (some (1, 0)))), some (.inl b)]) (st' := [.inr (.inr (some (1, 0))), .inr (.inr (some (2, 0)))]) (M' := (P, g, r0, n)) ok_X10_goTo true 1 rfl trivial ?_
  refine aj_getR (f := 1) (k := 0) (g := 2) (o := 0) (u := 0) (ax_lk_ok (q := (1, 0)) rfl) rfl rfl hs.2.2.2.1 hs.2.2.2.2 (ax_dec2 (i := .getfield 10) (n := 3) ok_X10_goTo rfl) ?_
  refine aj_callV (av := []) (st := [.inr (.inr (some (2, 0)))]) (f := 2) (o := 0) (ci := 2) cal_X2_wayAsTold lk_10_176 ins_X2_wayAsTold rfl sel_X2_wayAsTold rfl (fun c9 h9 _ => by simpa [ax_ok] using h9) (cp_wayAsTold _ _ _ _ hAs) ⟨by decide, by decide, by decide, by decide⟩ (Nat.le_of_ble_eq_true rfl) (ax_dec2 (i := .invokevirtual 176) (n := 3) ok_X10_goTo rfl) (fun r M' hq => ?_)
  obtain ⟨rfl, rfl⟩ := hq
  change ax_J _ _ _ _ _ _ _ _ _ 11 [some (.inr (.inr (some (1, 0)))), some (.inl b)] [.inl (wSet (fun q => g 500 q 1) (g 2 0 1)), .inr (.inr (some (2, 0)))] (P, g, r0, n)
  refine aj_run (C := True) (pc' := 12) (la' := [some (.inr (.inr (some (1, 0)))), some (.inl b)]) (st' := [.inl 0, .inl (wSet (fun q => g 500 q 1) (g 2 0 1)), .inr (.inr (some (2, 0)))]) (M' := (P, g, r0, n)) ok_X10_goTo true 1 rfl trivial ?_
  refine aj_callV (av := [.inl (wSet (fun q => g 500 q 1) (g 2 0 1)), .inl 0]) (st := []) (f := 2) (o := 0) (ci := 2) cal_X2_begin lk_10_197 ins_X2_begin rfl sel_X2_begin rfl (fun c9 h9 _ => by simpa [ax_ok] using h9) (cp_begin (wSet (fun q => g 500 q 1) (g 2 0 1)) 0 _ _ _ _ hAs (by decide)) ⟨by decide, by decide, by decide, by decide⟩ (Nat.le_of_ble_eq_true rfl) (ax_dec2 (i := .invokevirtual 197) (n := 3) ok_X10_goTo rfl) (fun r M' hq => ?_)
  obtain ⟨rfl, rfl⟩ := hq
  change ax_J _ _ _ _ _ _ _ _ _ 15 [some (.inr (.inr (some (1, 0)))), some (.inl b)] [] (P, cBegin g (wSet (fun q => g 500 q 1) (g 2 0 1)) 0, r0, n)
  obtain ⟨hb1, hb2, hb3, hb4, hb5, hb6, hb7⟩ := beg_all hs hm (wSet (fun q => g 500 q 1) (g 2 0 1)) 0
  refine aj_run (C := True) (pc' := 16) (la' := [some (.inr (.inr (some (1, 0)))), some (.inl b)]) (st' := [.inr (.inr (some (1, 0)))]) (M' := (P, cBegin g (wSet (fun q => g 500 q 1) (g 2 0 1)) 0, r0, n)) ok_X10_goTo true 1 rfl trivial ?_
  refine aj_getR (f := 1) (k := 0) (g := 2) (o := 0) (u := 0) (ax_lk_ok (q := (1, 0)) rfl) rfl rfl hs.2.2.2.1 hs.2.2.2.2 (ax_dec2 (i := .getfield 10) (n := 3) ok_X10_goTo rfl) ?_
  refine aj_run (C := True) (pc' := 20) (la' := [some (.inr (.inr (some (1, 0)))), some (.inl b)]) (st' := [.inl b, .inr (.inr (some (2, 0)))]) (M' := (P, cBegin g (wSet (fun q => g 500 q 1) (g 2 0 1)) 0, r0, n)) ok_X10_goTo true 1 rfl trivial ?_
  refine aj_callV (av := [.inl b]) (st := []) (f := 2) (o := 0) (ci := 2) cal_X2_goOn lk_10_201 ins_X2_goOn rfl sel_X2_goOn rfl (fun c9 h9 _ => by simpa [ax_ok] using h9) (cp_goOn b 0 _ _ _ _ hb1 ⟨hs.2.1.1, hs.2.1.2.1⟩ hs.2.1.2.2.1 _ hb2 hb3 hb4 (by omega) (by omega) (by omega) hb5 _ _ ⟨hs.2.2.1.1, hb6⟩ cV_n hb7) ⟨by decide, by decide, by decide, by decide⟩ (Nat.le_of_ble_eq_true rfl) (ax_dec2 (i := .invokevirtual 201) (n := 3) ok_X10_goTo rfl) (fun r M' hq => ?_)
  obtain ⟨rfl, g3, rfl, sm3, fr3⟩ := hq
  rw [gAs_c hPs, beg_42] at sm3
  change ax_J _ _ _ _ _ _ _ _ _ 23 [some (.inr (.inr (some (1, 0)))), some (.inl b)] [] (P, g3, r0, n)
  refine aj_ret (r := none) (ax_dec2 (i := .return_) (n := 1) ok_X10_goTo rfl) ⟨?_, ?_, by decide, by decide⟩ rfl
  · exact ⟨rfl, g3, rfl, sm3, fun f o j w => (fr3 f o j (TGo_TG w)).trans (cBg_fr f o j w)⟩
  · exact trivial

