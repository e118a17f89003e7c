/-! ===== force, image, back of the class ===== -/
section CF
variable {P : Nat → Int → Prop} {r0 : Nat → Int → Int → Option (Nat × Int)} {n : Nat → Int → Int} {g g' h h' : Nat → Int → Int → Int}
/-- another text, another plank: what was found out of ways is forgotten -/
theorem cWd_ru {t : Int} (hw : cWd P r0 n g h) (e : ∀ f o j, ¬ (f = 500 ∨ (f = 1 ∧ o = 0 ∧ j = 5) ∨ (f = 2 ∧ o = 0 ∧ (j = 1 ∨ j = 2 ∨ j = 3 ∨ j = 11))) → g' f o j = g f o j) (e11 : g' 2 0 11 = g 2 0 11 + 1) (e5 : g' 1 0 5 = t)
    (k : ∀ f o j, ¬ ((f = 50 ∧ o = 0 ∧ ((0 ≤ j ∧ j ≤ 2) ∨ j = 11)) ∨ (103 < f ∧ f < 108)) → h' f o j = h f o j) (k11 : h' 50 0 11 = t) (ht : 0 ≤ t ∧ t < h 50 0 10) (k47 : h 50 0 46 = 1 → h 50 0 47 ≤ h' 50 0 2)
    (hA : cAn P r0 n (g' 2 0 1)) (hP : cPl g' h' n) (hO : wOs h') : cWd P (ax_u3 r0 2 0 4 (some (6, t))) n g' h' := by
  obtain ⟨⟨w1a, w1b, w1c⟩, w2, w3, ⟨w4a, w4b⟩, w5, w6, w7⟩ := hw
  have kv : ∀ row nm, wVl h' row nm = wVl h row nm := fun row nm => wVl_co ⟨fun o j => k 112 o j (by omega), fun o j => k 113 o j (by omega)⟩
  have er : ∀ f o j, ¬ (f = 2 ∧ o = 0 ∧ j = 4) → ax_u3 r0 2 0 4 (some (6, t)) f o j = r0 f o j := fun f o j z => ax_u3_n z
  refine ⟨⟨⟨hA.1, fun a z1 z2 => ?_⟩, hP, hO⟩, w2, ?_, ⟨cMz_c (fun q => e 214 0 q (by omega)) (fun q => e 215 0 q (by omega)) w4a, cCa_f (fun q => e 210 0 q (by omega)) e11 w4b⟩, ?_, ?_, cTap_c (e 3 0 0 (by omega)) (fun i => e 302 0 i (by omega)) (k 50 0 9 (by omega)) (fun i => k 108 0 i (by omega)) w7⟩
  · rw [er 200 0 a (by omega)]
    exact hA.2 a z1 z2
  · obtain ⟨⟨t1, t2, t3⟩, ⟨t4, t5, t6⟩, t7⟩ := w3
    refine ⟨⟨by rw [er 1 0 0 (by omega)]; exact t1, by rw [er 1 0 1 (by omega)]; exact t2, t3⟩, ⟨by rw [e 1 0 4 (by omega), k 50 0 10 (by omega)]; exact t4, by rw [e5, k11], by rw [ax_u3_s, k11]⟩, fun q z1 z2 => ?_⟩
    rw [k 50 0 10 (by omega)] at z2
    obtain ⟨y1, y2⟩ := t7 q z1 z2
    refine ⟨by rw [er 702 0 q (by omega)]; exact y1, ?_⟩
    simp only [kv]
    exact cRu_c (fun f j x1 x2 => e f q j (by omega)) y2
  · obtain ⟨s0, s1⟩ := w5
    refine ⟨s0, fun s z1 z2 => ?_⟩
    obtain ⟨q1, q2, q3, q4, q5⟩ := s1 s z1 z2
    rw [er 703 0 s (by omega), e 4 s 0 (by omega), e 4 s 1 (by omega), k 155 0 s (by omega), k 156 0 s (by omega)]
    exact ⟨q1, q2, q3, q4, fun i y1 y2 => by rw [e 402 s i (by omega), k 157 0 _ (by omega)]; exact q5 i y1 y2⟩
  · unfold cIma at *
    rw [e 1 0 6 (by omega), e 1 0 7 (by omega), e 1 0 8 (by omega), e 1 0 9 (by omega), k 50 0 46 (by omega), k 50 0 47 (by omega), k 50 0 48 (by omega), k 50 0 49 (by omega), k 50 0 50 (by omega), k 50 0 10 (by omega)]
    rcases w6 with s | ⟨s1, s2, s3, s4⟩
    · exact Or.inl s
    · have := k47 s1
      refine Or.inr ⟨s1, s2, by omega, fun a z1 z2 => ?_⟩
      rw [e 501 a 0 (by omega), e 501 a 1 (by omega), e 501 a 2 (by omega), e 501 a 3 (by omega), k 151 0 a (by omega), k 152 0 a (by omega), k 153 0 a (by omega), k 154 0 a (by omega)]
      exact s4 a z1 z2
theorem cWd_force {t : Int} (hw : cWd P r0 n g h) (ht : 0 ≤ t ∧ t < h 50 0 10) : cWd P (ax_u3 r0 2 0 4 (some (6, t))) n (ax_u3 (ax_u3 g 1 0 5 t) 2 0 11 (g 2 0 11 + 1)) (ax_u3 h 50 0 11 t) := by
  obtain ⟨w1, w2, w3⟩ := hw.1
  refine cWd_ru hw (fun f o j z => by rw [ax_u3_n (by omega), ax_u3_n (by omega)]) ax_u3_s (by rw [ax_u3_n (by omega), ax_u3_s]) (fun f o j z => ax_u3_n (by omega)) ax_u3_s ht (fun z => ?_) w1 w2 ?_
  · rw [ax_u3_n (by omega)]
    rcases hw.2.2.2.2.2.1 with s | ⟨s1, s2, s3, s4⟩
    · omega
    · omega
  · exact wOs_mk w3 ⟨fun _ _ => rfl, fun _ _ => rfl⟩ rfl (by rw [ax_u3_s]; exact ht) w3.1 w3.2.1 w3.2.2.1 w3.2.2.2.2.2.2
theorem mIm_f {a : Int} (h1 : 0 ≤ a) (h2 : a < 7) : mImage h 151 0 a = h 104 0 a ∧ mImage h 152 0 a = h 105 0 a ∧ mImage h 153 0 a = h 106 0 a ∧ mImage h 154 0 a = h 107 0 a := by
  unfold mImage wMv
  refine ⟨?_, ?_, ?_, ?_⟩ <;> simp [ax_u3] <;> omega
theorem mIm_50 : mImage h 50 0 46 = 1 ∧ mImage h 50 0 47 = h 50 0 2 ∧ mImage h 50 0 48 = h 50 0 0 ∧ mImage h 50 0 49 = h 50 0 1 ∧ mImage h 50 0 50 = h 50 0 11 := by
  unfold mImage wMv
  refine ⟨?_, ?_, ?_, ?_, ?_⟩ <;> simp [ax_u3]
theorem mIm_o {f : Nat} {o j : Int} (hf : ¬ ((150 < f ∧ f < 155) ∨ (f = 50 ∧ 46 ≤ j ∧ j ≤ 50))) : mImage h f o j = h f o j := by
  unfold mImage wMv
  rw [if_neg (by omega), if_neg (by omega), if_neg (by omega), if_neg (by omega), ax_u3_n (by omega), ax_u3_n (by omega), ax_u3_n (by omega), ax_u3_n (by omega), ax_u3_n (by omega)]
theorem cWd_im (hw : cWd P r0 n g h) (e : ∀ f o j, ¬ (f = 501 ∨ (f = 1 ∧ o = 0 ∧ 6 ≤ j ∧ j ≤ 9)) → g' f o j = g f o j) (hI : cIma g' (mImage h)) : cWd P r0 n g' (mImage h) := by
  obtain ⟨⟨w1a, w1b, w1c⟩, w2, w3, ⟨w4a, w4b⟩, w5, w6, w7⟩ := hw
  have k := fun (f : Nat) (o j : Int) (z : ¬ ((150 < f ∧ f < 155) ∨ (f = 50 ∧ 46 ≤ j ∧ j ≤ 50))) => mIm_o (h := h) z (o := o)
  have kf : ∀ f, f ≠ 50 → ¬ (150 < f ∧ f < 155) → mImage h f = h f := fun f y z => funext fun o => funext fun j => k f o j (by omega)
  have kv : ∀ row nm, wVl (mImage h) row nm = wVl h row nm := fun row nm => wVl_co ⟨fun o j => k 112 o j (by omega), fun o j => k 113 o j (by omega)⟩
  refine ⟨⟨by rw [e 2 0 1 (by omega)]; exact w1a, ?_, ?_⟩, w2, cTop_c (e 1 0 4 (by omega)) (e 1 0 5 (by omega)) (fun f t j z1 z2 => e f t j (by omega)) (k 50 0 10 (by omega)) (k 50 0 11 (by omega)) kv w3, ⟨cMz_c (fun q => e 214 0 q (by omega)) (fun q => e 215 0 q (by omega)) w4a, cCa_k (fun q => e 209 0 q (by omega)) (fun q => e 210 0 q (by omega)) (e 2 0 11 (by omega)) ⟨⟨fun f z1 z2 => kf f (by omega) (by omega), fun j z1 z2 => k 50 0 j (by omega)⟩, fun q nm z1 z2 => by rw [k 50 0 11 (by omega)]; exact kv _ _⟩ w4b⟩, ?_, hI, cTap_c (e 3 0 0 (by omega)) (fun i => e 302 0 i (by omega)) (k 50 0 9 (by omega)) (fun i => k 108 0 i (by omega)) w7⟩
  · unfold cPl
    rw [e 2 0 1 (by omega), e 2 0 2 (by omega), e 2 0 3 (by omega), k 50 0 0 (by omega), k 50 0 1 (by omega), k 50 0 2 (by omega), kf 103 (by decide) (by decide), kf 104 (by decide) (by decide), kf 105 (by decide) (by decide), kf 106 (by decide) (by decide), kf 107 (by decide) (by decide)]
    exact ⟨w1b.1, fun a z1 z2 => by rw [e 500 a 0 (by omega), e 500 a 1 (by omega), e 500 a 2 (by omega), e 500 a 3 (by omega)]; exact w1b.2 a z1 z2⟩
  · exact wOs_mk w1c ⟨fun o j => k 112 o j (by omega), fun o j => k 113 o j (by omega)⟩ (k 50 0 10 (by omega)) (by rw [k 50 0 11 (by omega)]; exact w1c.2.2.2.2.1) (by rw [k 50 0 0 (by omega)]; exact w1c.1) (by rw [k 50 0 1 (by omega)]; exact w1c.2.1) (by rw [k 50 0 2 (by omega)]; exact w1c.2.2.1) (by rw [k 50 0 0 (by omega), k 50 0 2 (by omega), kf 103 (by decide) (by decide), kf 104 (by decide) (by decide), kf 105 (by decide) (by decide), kf 106 (by decide) (by decide), kf 107 (by decide) (by decide)]; exact w1c.2.2.2.2.2.2)
  · exact cShe_c (fun s j => e 4 s j (by omega)) (fun s j => e 402 s j (by omega)) (fun s => k 155 0 s (by omega)) (fun s => k 156 0 s (by omega)) (fun s => k 157 0 s (by omega)) w5
theorem cIma_im (hw : cWd P r0 n g h) (e6 : g' 1 0 6 = g 2 0 1) (e7 : g' 1 0 7 = g 2 0 2) (e8 : g' 1 0 8 = g 2 0 3) (e9 : g' 1 0 9 = g 1 0 5) (e5 : ∀ a, 0 ≤ a → a < g 2 0 1 → ∀ j, 0 ≤ j → j < 4 → g' 501 a j = g 500 a j) : cIma g' (mImage h) := by
  obtain ⟨⟨w1a, ⟨⟨p1, p2, p3⟩, p4⟩, w1c⟩, w2, ⟨-, ⟨-, t5, -⟩, -⟩, -⟩ := hw
  obtain ⟨m46, m47, m48, m49, m50⟩ := mIm_50 (h := h)
  refine Or.inr ⟨m46, ?_, ?_, fun a z1 z2 => ?_⟩
  · rw [m47, m48, m49, m50, e6, e7, e8, e9]
    exact ⟨p1, p2, p3, t5⟩
  · rw [m47, m48, m49, m50, mIm_o (by omega), mIm_o (by omega)]
    exact ⟨⟨w1c.2.2.1.1, Int.le_refl _⟩, w1c.1, w1c.2.1, w1c.2.2.2.2.1.1, w1c.2.2.2.2.1.2⟩
  · rw [m47] at z2
    have h7 := w1c.2.2.1
    obtain ⟨q1, q2, q3, q4⟩ := mIm_f (h := h) z1 (by omega)
    obtain ⟨x0, x1, x2, x3, x4⟩ := p4 a z1 z2
    have ho := w1c.2.2.2.2.2.2 a z1 z2
    rw [m48, q1, q2, q3, q4, e5 a z1 (by omega) 0 (by decide) (by decide), e5 a z1 (by omega) 1 (by decide) (by decide), e5 a z1 (by omega) 2 (by decide) (by decide), e5 a z1 (by omega) 3 (by decide) (by decide)]
    exact ⟨⟨x0, x1, x2, x3⟩, ho.2⟩
theorem mBk_f {a : Int} (h1 : 0 ≤ a) (h2 : a < 7) : mBackM h 104 0 a = h 151 0 a ∧ mBackM h 105 0 a = h 152 0 a ∧ mBackM h 106 0 a = h 153 0 a ∧ mBackM h 107 0 a = h 154 0 a := by
  unfold mBackM wMv
  refine ⟨?_, ?_, ?_, ?_⟩ <;> simp [ax_u3] <;> omega
theorem mBk_50 : mBackM h 50 0 2 = h 50 0 47 ∧ mBackM h 50 0 0 = h 50 0 48 ∧ mBackM h 50 0 1 = h 50 0 49 ∧ mBackM h 50 0 11 = h 50 0 50 := by
  unfold mBackM wMv
  refine ⟨?_, ?_, ?_, ?_⟩ <;> simp [ax_u3]
theorem mBk_o {f : Nat} {o j : Int} (hf : ¬ ((103 < f ∧ f < 108) ∨ (f = 50 ∧ o = 0 ∧ ((0 ≤ j ∧ j ≤ 2) ∨ j = 11)))) : mBackM h f o j = h f o j := by
  unfold mBackM wMv
  rw [if_neg (by omega), if_neg (by omega), if_neg (by omega), if_neg (by omega), ax_u3_n (by omega), ax_u3_n (by omega), ax_u3_n (by omega), ax_u3_n (by omega)]
theorem cWd_back {t : Int} (hw : cWd P r0 n g h) (h46 : h 50 0 46 = 1) (ht : t = g 1 0 9) (e : ∀ f o j, ¬ (f = 500 ∨ (f = 1 ∧ o = 0 ∧ j = 5) ∨ (f = 2 ∧ o = 0 ∧ (j = 1 ∨ j = 2 ∨ j = 3 ∨ j = 11))) → g' f o j = g f o j) (e11 : g' 2 0 11 = g 2 0 11 + 1) (e5 : g' 1 0 5 = t) (e1 : g' 2 0 1 = g 1 0 6) (e2 : g' 2 0 2 = g 1 0 7) (e3 : g' 2 0 3 = g 1 0 8) (ek : ∀ a, 0 ≤ a → a < g 1 0 6 → ∀ j, 0 ≤ j → j < 4 → g' 500 a j = g 501 a j) : cWd P (ax_u3 r0 2 0 4 (some (6, t))) n g' (mBackM h) := by
  obtain ⟨w1, w2, w3⟩ := hw.1
  obtain ⟨m2, m0, m1, m11⟩ := mBk_50 (h := h)
  rcases hw.2.2.2.2.2.1 with s | ⟨s1, ⟨s2, s3, s4, s5⟩, ⟨s6, s7, s8, s9, s10⟩, s11⟩
  · exact absurd (s.1.symm.trans h46) (by decide)
  have hk : ∀ (f : Nat) (o j : Int), ¬ ((f = 50 ∧ o = 0 ∧ ((0 ≤ j ∧ j ≤ 2) ∨ j = 11)) ∨ (103 < f ∧ f < 108)) → mBackM h f o j = h f o j := fun f o j z => mBk_o (by omega)
  refine cWd_ru hw e e11 e5 hk (by rw [m11, ht, s5]) (by omega) (fun _ => by rw [m2]; exact Int.le_refl _) ?_ ?_ ?_
  · refine ⟨⟨w1.1.1, by rw [e1]; have := w1.1.2; have := w2.1.1; omega⟩, fun a z1 z2 => w1.2 a z1 ?_⟩
    rw [e1] at z2
    have := w2.1.1
    omega
  · refine ⟨⟨by rw [e1, m2, s2], by rw [e2, m0, s3], by rw [e3, m1, s4]⟩, fun a z1 z2 => ?_⟩
    rw [m2] at z2
    have h7 := w3.2.2.1
    obtain ⟨q1, q2, q3, q4⟩ := mBk_f (h := h) z1 (by omega)
    obtain ⟨y1, y2⟩ := s11 a z1 z2
    rw [q1, q2, q3, q4, ek a z1 (by omega) 0 (by decide) (by decide), ek a z1 (by omega) 1 (by decide) (by decide), ek a z1 (by omega) 2 (by decide) (by decide), ek a z1 (by omega) 3 (by decide) (by decide), hk 103 0 a (by omega)]
    exact ⟨y1.1, y1.2.1, y1.2.2.1, y1.2.2.2, (w2.2 a z1 (by omega)).2.2.2.2⟩
  · refine wOs_mk w3 ⟨fun o j => hk 112 o j (by omega), fun o j => hk 113 o j (by omega)⟩ (hk 50 0 10 (by omega)) (by rw [m11]; omega) (by rw [m0]; exact s7) (by rw [m1]; exact s8) (by rw [m2]; have := w3.2.2.1; omega) (fun a z1 z2 => ?_)
    rw [m2] at z2
    have h7 := w3.2.2.1
    obtain ⟨q1, q2, q3, q4⟩ := mBk_f (h := h) z1 (by omega)
    rw [q1, q2, q3, q4, m0, hk 103 0 a (by omega)]
    exact ⟨(w3.2.2.2.2.2.2 a z1 (by omega)).1, (s11 a z1 z2).2⟩
end CF
theorem ax_nf_2_4 : ∀ (ci : Nat) (C : String) (T : u_T) (N : Nat), ax_ok 2 ci = true → vwCl[ci]? = some (C, T, N) → (T 4).2.2.2 = false := by
  intro ci C T N h1 h2
  have z : ci = 2 := by simpa [ax_ok] using h1
  subst z
  cases h2
  rfl
set_option maxRecDepth 100000 in
set_option maxHeartbeats 4000000 in
theorem cp_obey (t : Int) (P : Nat → Int → Prop) (g : Nat → Int → Int → Int) (r0 : Nat → Int → Int → Option (Nat × Int)) (n : Nat → Int → Int) (hb : r0 1 0 0 = some (2, 0) ∧ P 2 0) (hn7 : n 702 0 = 6) (ht : 0 ≤ t ∧ t < 6) (hr7 : r0 702 0 t = some (6, t) ∧ P 6 t) (hst2 : 0 ≤ g 2 0 11 ∧ g 2 0 11 ≤ 1000000) : ax_S yX10_obey cX10_obey 2 none 1 0 0 [.inr (.inr (some (1, 0))), .inl t] (P, g, r0, n) (fun r M' => r = none ∧ M' = (P, ax_u3 (ax_u3 g 1 0 5 t) 2 0 11 (g 2 0 11 + 1), ax_u3 r0 2 0 4 (some (6, t)), n)) := by
  refine ax_S_of (own := 10) (by decide) rfl (fun h => absurd h (by decide)) rfl (Nat.le_of_ble_eq_true rfl) ?_
  change ax_J _ _ _ _ _ _ _ _ _ _ [some (.inr (.inr (some (1, 0)))), some (.inl t)] _ _
  refine aj_run (C := True) (pc' := 6) (la' := [some (.inr (.inr (some (1, 0)))), some (.inl t)]) (st' := [.inr (.inr (some (1, 0)))]) (M' := (P, ax_u3 g 1 0 5 t, r0, n)) ok_X10_obey true 4 rfl trivial ?_
  refine aj_getR (f := 1) (k := 0) (g := 2) (o := 0) (u := 0) (ax_lk_ok (q := (1, 0)) rfl) rfl rfl hb.1 hb.2 (ax_dec2 (i := .getfield 10) (n := 3) ok_X10_obey rfl) ?_
  refine aj_run (C := True) (pc' := 14) (la' := [some (.inr (.inr (some (1, 0)))), some (.inl t)]) (st' := [.inl t, .inr (.inr (some (702, 0))), .inr (.inr (some (2, 0)))]) (M' := (P, ax_u3 g 1 0 5 t, r0, n)) ok_X10_obey true 3 rfl trivial ?_
  refine aj_aald (f := 702) (g := 6) (o := 0) (i := t) (u := t) (E := "AntsTurn$Rule") rfl rfl rfl ⟨by omega, by show t < n 702 0; omega⟩ hr7.1 hr7.2 (ax_dec2 (i := .aaload) (n := 1) ok_X10_obey rfl) ?_
  refine aj_putR (f := 2) (k := 4) (g := 6) (o := 0) (u := t) (st := []) (ax_lk_ok (q := (2, 4)) rfl) rfl rfl (Or.inl ax_nf_2_4) (fun z9 => by revert z9; decide) (ax_dec2 (i := .putfield 60) (n := 3) ok_X10_obey rfl) ?_
  change ax_J _ _ _ _ _ _ _ _ _ 18 [some (.inr (.inr (some (1, 0)))), some (.inl t)] [] (P, ax_u3 g 1 0 5 t, ax_u3 r0 2 0 4 (some (6, t)), n)
  refine aj_run (C := True) (pc' := 19) (la' := [some (.inr (.inr (some (1, 0)))), some (.inl t)]) (st' := [.inr (.inr (some (1, 0)))]) (M' := (P, ax_u3 g 1 0 5 t, ax_u3 r0 2 0 4 (some (6, t)), n)) ok_X10_obey true 1 rfl trivial ?_
  refine aj_getR (f := 1) (k := 0) (g := 2) (o := 0) (u := 0) (ax_lk_ok (q := (1, 0)) rfl) rfl rfl hb.1 hb.2 (ax_dec2 (i := .getfield 10) (n := 3) ok_X10_obey rfl) ?_
  refine aj_callV (av := []) (st := []) (f := 2) (o := 0) (ci := 2) cal_X2_forget lk_10_77 ins_X2_forget rfl sel_X2_forget rfl (fun c9 h9 _ => by simpa [ax_ok] using h9) (cp_forget _ _ _ _ (by exact hst2)) ⟨by decide, by decide, by decide, by decide⟩ (Nat.le_of_ble_eq_true rfl) (ax_dec2 (i := .invokevirtual 77) (n := 3) ok_X10_obey rfl) (fun r M' hq => ?_)
  obtain ⟨rfl, rfl⟩ := hq
  change ax_J _ _ _ _ _ _ _ _ _ 25 [some (.inr (.inr (some (1, 0)))), some (.inl t)] [] (P, ax_u3 (ax_u3 g 1 0 5 t) 2 0 11 (g 2 0 11 + 1), ax_u3 r0 2 0 4 (some (6, t)), n)
  refine aj_ret (r := none) (ax_dec2 (i := .return_) (n := 1) ok_X10_obey rfl) ⟨?_, ?_, by decide, by decide⟩ rfl
  · exact ⟨rfl, rfl⟩
  · exact trivial

set_option maxRecDepth 100000 in
set_option maxHeartbeats 4000000 in
theorem cp_force (x : Int) (P : Nat → Int → Prop) (g : Nat → Int → Int → Int) (r0 : Nat → Int → Int → Option (Nat × Int)) (n : Nat → Int → Int) (h : Nat → Int → Int → Int) (hw : cWd P r0 n g h) (hst : 0 ≤ g 2 0 11 ∧ g 2 0 11 ≤ 100000) : ax_S yX10_force cX10_force 3 (some FieldType.int) 2 0 0 [.inr (.inr (some (1, 0))), .inl x] (P, g, r0, n) (fun r M' => r = some (.inl (mForce h x).1) ∧ ∃ g' r', M' = (P, g', r', n) ∧ cWd P r' n g' (mForce h x).2 ∧ cFr TCl g' g ∧ g' 2 0 11 ≤ g 2 0 11 + 1 ∧ (ax_nd (P, g, r0, n) → ax_nd (P, g', r', n))) := by
  have hs := cWd_sta hw
  have hT := hw.2.2.1
  have hTp := hw.2.2.2.2.2.2
  have hT2 := hT.2.1
  have hTp2 := hTp.2.1
  have hAs := hs.1.1
  have hPs := hs.1.2.1
  have hOs := hs.1.2.2
  have hP1 := hPs.1
  have hA1 := hAs.1
  have hsz := hOs.2.2.1
  have hxz := hPs.1.1
  have hkk : 2 ≤ g 2 0 2 ∧ g 2 0 2 ≤ 40 := by rw [hP1.2.1]; exact hOs.1
  have hst2 : 0 ≤ g 2 0 11 ∧ g 2 0 11 ≤ 1000000 := by omega
  have hc6 := hOs.2.2.2.1
  refine ax_S_of (own := 10) (by decide) rfl (fun h => absurd h (by decide)) rfl (Nat.le_of_ble_eq_true rfl) ?_
  change ax_J _ _ _ _ _ _ _ _ _ _ [some (.inr (.inr (some (1, 0)))), some (.inl x), none] _ _
  refine aj_run (C := True) (pc' := 1) (la' := [some (.inr (.inr (some (1, 0)))), some (.inl x), none]) (st' := [.inl x]) (M' := (P, g, r0, n)) ok_X10_force true 1 rfl trivial ?_
  refine aj_if_lt (tgt := 12) (ax_dec2 (i := .ifCond .lt 11) (n := 3) ok_X10_force rfl) (by decide) (fun c1 => ?_) (fun c1 => ?_)
  · refine aj_run (C := True) (pc' := 14) (la' := [some (.inr (.inr (some (1, 0)))), some (.inl x), none]) (st' := [.inl (-2)]) (M' := (P, g, r0, n)) ok_X10_force true 1 rfl trivial ?_
    refine aj_ret (r := some (.inl (-2))) (ax_dec2 (i := .ireturn) (n := 1) ok_X10_force rfl) ⟨?_, ?_, by decide, by decide⟩ rfl
    · first | (exfalso; omega) | exact ⟨ax_si (by unfold mForce; (repeat first | rw [if_pos (by omega)] | rw [if_neg (by omega)] | rw [bI_t (by omega)] | rw [bI_f (by omega)]); try rfl), g, r0, rfl, by unfold mForce; (repeat first | rw [if_pos (by omega)] | rw [if_neg (by omega)] | rw [bI_t (by omega)] | rw [bI_f (by omega)]); exact hw, fun _ _ _ _ => rfl, by omega, fun z => z⟩
    · exact ax_ro_i
  · refine aj_run (C := True) (pc' := 9) (la' := [some (.inr (.inr (some (1, 0)))), some (.inl x), none]) (st' := [.inl (g 1 0 4), .inl x]) (M' := (P, g, r0, n)) ok_X10_force true 3 rfl trivial ?_
    refine aj_icmp_lt (tgt := 15) (ax_dec2 (i := .if_icmp .lt 6) (n := 3) ok_X10_force rfl) (by decide) (fun c2 => ?_) (fun c2 => ?_)
    · refine aj_run (C := True) (pc' := 22) (la' := [some (.inr (.inr (some (1, 0)))), some (.inl x), some (.inl (g 1 0 5))]) (st' := [.inl x, .inr (.inr (some (1, 0)))]) (M' := (P, g, r0, n)) ok_X10_force true 5 rfl trivial ?_
      refine aj_callV (av := [.inl x]) (st := []) (f := 1) (o := 0) (ci := 10) cal_X10_obey lk_10_137 ins_X10_obey rfl sel_X10_obey rfl (fun c9 h9 _ => by simpa [ax_ok] using h9) (cp_obey x _ _ _ _ hs.2.2.2 hT.1.2.2 (by omega) (hT.2.2 x (by omega) (by omega)).1 (by exact hst2)) ⟨by decide, by decide, by decide, by decide⟩ (Nat.le_of_ble_eq_true rfl) (ax_dec2 (i := .invokevirtual 137) (n := 3) ok_X10_force rfl) (fun r M' hq => ?_)
      obtain ⟨rfl, rfl⟩ := hq
      change ax_J _ _ _ _ _ _ _ _ _ 25 [some (.inr (.inr (some (1, 0)))), some (.inl x), some (.inl (g 1 0 5))] [] (P, ax_u3 (ax_u3 g 1 0 5 x) 2 0 11 (g 2 0 11 + 1), ax_u3 r0 2 0 4 (some (6, x)), n)
      refine aj_run (C := True) (pc' := 26) (la' := [some (.inr (.inr (some (1, 0)))), some (.inl x), some (.inl (g 1 0 5))]) (st' := [.inl (g 1 0 5)]) (M' := (P, ax_u3 (ax_u3 g 1 0 5 x) 2 0 11 (g 2 0 11 + 1), ax_u3 r0 2 0 4 (some (6, x)), n)) ok_X10_force true 1 rfl trivial ?_
      refine aj_ret (r := some (.inl (g 1 0 5))) (ax_dec2 (i := .ireturn) (n := 1) ok_X10_force rfl) ⟨?_, ?_, by decide, by decide⟩ rfl
      · first | (exfalso; omega) | exact ⟨ax_si (by unfold mForce; rw [if_pos (by omega)]; omega), ax_u3 (ax_u3 g 1 0 5 x) 2 0 11 (g 2 0 11 + 1), ax_u3 r0 2 0 4 (some (6, x)), rfl, by unfold mForce; rw [if_pos (by omega)]; exact cWd_force hw (by omega), fun f o j z => by (repeat rw [ax_u3_n (by unfold TCl at z; omega)]), Int.le_of_eq ax_u3_s, fun z => ax_nd_uR (M := (P, g, r0, n)) (q := (6, x)) z (hT.2.2 x (by omega) (by omega)).1.2⟩
      · exact ax_ro_i
    · refine aj_run (C := True) (pc' := 14) (la' := [some (.inr (.inr (some (1, 0)))), some (.inl x), none]) (st' := [.inl (-2)]) (M' := (P, g, r0, n)) ok_X10_force true 1 rfl trivial ?_
      refine aj_ret (r := some (.inl (-2))) (ax_dec2 (i := .ireturn) (n := 1) ok_X10_force rfl) ⟨?_, ?_, by decide, by decide⟩ rfl
      · first | (exfalso; omega) | exact ⟨ax_si (by unfold mForce; (repeat first | rw [if_pos (by omega)] | rw [if_neg (by omega)] | rw [bI_t (by omega)] | rw [bI_f (by omega)]); try rfl), g, r0, rfl, by unfold mForce; (repeat first | rw [if_pos (by omega)] | rw [if_neg (by omega)] | rw [bI_t (by omega)] | rw [bI_f (by omega)]); exact hw, fun _ _ _ _ => rfl, by omega, fun z => z⟩
      · exact ax_ro_i

set_option maxRecDepth 100000 in
set_option maxHeartbeats 4000000 in
theorem cp_image (P : Nat → Int → Prop) (g : Nat → Int → Int → Int) (r0 : Nat → Int → Int → Option (Nat × Int)) (n : Nat → Int → Int) (h : Nat → Int → Int → Int) (hw : cWd P r0 n g h) (hst : 0 ≤ g 2 0 11 ∧ g 2 0 11 ≤ 100000) : ax_S yX10_image cX10_image 2 (some FieldType.int) 9 0 0 [.inr (.inr (some (1, 0)))] (P, g, r0, n) (fun r M' => r = some (.inl (h 50 0 2, mImage h).1) ∧ ∃ g', M' = (P, g', r0, n) ∧ cWd P r0 n g' (h 50 0 2, mImage h).2 ∧ cFr TCl g' g ∧ g' 2 0 11 ≤ g 2 0 11 + 1) := by
  have hs := cWd_sta hw
  have hT := hw.2.2.1
  have hTp := hw.2.2.2.2.2.2
  have hT2 := hT.2.1
  have hTp2 := hTp.2.1
  have hAs := hs.1.1
  have hPs := hs.1.2.1
  have hOs := hs.1.2.2
  have hP1 := hPs.1
  have hA1 := hAs.1
  have hsz := hOs.2.2.1
  have hxz := hPs.1.1
  have hkk : 2 ≤ g 2 0 2 ∧ g 2 0 2 ≤ 40 := by rw [hP1.2.1]; exact hOs.1
  have hst2 : 0 ≤ g 2 0 11 ∧ g 2 0 11 ≤ 1000000 := by omega
  refine ax_S_of (own := 10) (by decide) rfl (fun h => absurd h (by decide)) rfl (Nat.le_of_ble_eq_true rfl) ?_
  change ax_J _ _ _ _ _ _ _ _ _ _ [some (.inr (.inr (some (1, 0)))), none] _ _
  refine aj_run (C := True) (pc' := 2) (la' := [some (.inr (.inr (some (1, 0)))), none]) (st' := [.inr (.inr (some (1, 0))), .inr (.inr (some (1, 0)))]) (M' := (P, g, r0, n)) ok_X10_image true 2 rfl trivial ?_
  refine aj_getR (f := 1) (k := 0) (g := 2) (o := 0) (u := 0) (ax_lk_ok (q := (1, 0)) rfl) rfl rfl hs.2.2.2.1 hs.2.2.2.2 (ax_dec2 (i := .getfield 10) (n := 3) ok_X10_image rfl) ?_
  refine aj_run (C := True) (pc' := 13) (la' := [some (.inr (.inr (some (1, 0)))), none]) (st' := [.inr (.inr (some (1, 0))), .inr (.inr (some (1, 0)))]) (M' := (P, ax_u3 g 1 0 6 (g 2 0 1), r0, n)) ok_X10_image true 4 rfl trivial ?_
  refine aj_getR (f := 1) (k := 0) (g := 2) (o := 0) (u := 0) (ax_lk_ok (q := (1, 0)) rfl) rfl rfl hs.2.2.2.1 hs.2.2.2.2 (ax_dec2 (i := .getfield 10) (n := 3) ok_X10_image rfl) ?_
  refine aj_run (C := True) (pc' := 24) (la' := [some (.inr (.inr (some (1, 0)))), none]) (st' := [.inr (.inr (some (1, 0))), .inr (.inr (some (1, 0)))]) (M' := (P, ax_u3 (ax_u3 g 1 0 6 (g 2 0 1)) 1 0 7 (g 2 0 2), r0, n)) ok_X10_image true 4 rfl trivial ?_
  refine aj_getR (f := 1) (k := 0) (g := 2) (o := 0) (u := 0) (ax_lk_ok (q := (1, 0)) rfl) rfl rfl hs.2.2.2.1 hs.2.2.2.2 (ax_dec2 (i := .getfield 10) (n := 3) ok_X10_image rfl) ?_
  refine aj_run (C := True) (pc' := 43) (la' := [some (.inr (.inr (some (1, 0)))), some (.inl 0)]) (st' := []) (M' := (P, ax_u3 (ax_u3 (ax_u3 (ax_u3 g 1 0 6 (g 2 0 1)) 1 0 7 (g 2 0 2)) 1 0 8 (g 2 0 3)) 1 0 9 (g 1 0 5), r0, n)) ok_X10_image true 8 rfl trivial ?_
  refine aj_loop (σ := (Int) × (Nat → Int → Int → Int)) (fun xL => 0 ≤ xL.1 ∧ xL.1 ≤ g 2 0 1 ∧ (∀ f o j, ¬ (f = 501 ∧ 0 ≤ o ∧ o < xL.1) → xL.2 f o j = (ax_u3 (ax_u3 (ax_u3 (ax_u3 g 1 0 6 (g 2 0 1)) 1 0 7 (g 2 0 2)) 1 0 8 (g 2 0 3)) 1 0 9 (g 1 0 5)) f o j) ∧ ∀ a, 0 ≤ a → a < xL.1 → ∀ j, 0 ≤ j → j < 4 → xL.2 501 a j = g 500 a j) (fun xL => (g 2 0 1 - xL.1).toNat) (fun xL => [some (.inr (.inr (some (1, 0)))), some (.inl xL.1)]) (fun xL => []) (fun xL => (P, xL.2, r0, n)) ?_ (0, ax_u3 (ax_u3 (ax_u3 (ax_u3 g 1 0 6 (g 2 0 1)) 1 0 7 (g 2 0 2)) 1 0 8 (g 2 0 3)) 1 0 9 (g 1 0 5)) ?_
  rotate_left
  · (try dsimp only); exact ⟨by omega, by omega, fun _ _ _ _ => rfl, fun a z1 z2 => by omega⟩
  rintro ⟨i, g1⟩ hI ih43
  try dsimp only at hI ih43
  obtain ⟨i1, i2, i3, i4⟩ := hI
  change ax_J _ _ _ _ _ _ _ _ _ 43 [some (.inr (.inr (some (1, 0)))), some (.inl i)] [] (P, g1, r0, n)
  have hs1 : g1 2 0 1 = g 2 0 1 := (i3 2 0 1 (by omega)).trans (by rw [ax_u3_n (by omega), ax_u3_n (by omega), ax_u3_n (by omega), ax_u3_n (by omega)])
  have hs6 : g1 1 0 6 = g 2 0 1 := (i3 1 0 6 (by omega)).trans (by rw [ax_u3_n (by omega), ax_u3_n (by omega), ax_u3_n (by omega), ax_u3_s])
  refine aj_run (C := True) (pc' := 45) (la' := [some (.inr (.inr (some (1, 0)))), some (.inl i)]) (st' := [.inr (.inr (some (1, 0))), .inl i]) (M' := (P, g1, r0, n)) ok_X10_image true 2 rfl trivial ?_
  refine aj_getR (f := 1) (k := 0) (g := 2) (o := 0) (u := 0) (ax_lk_ok (q := (1, 0)) rfl) rfl rfl hs.2.2.2.1 hs.2.2.2.2 (ax_dec2 (i := .getfield 10) (n := 3) ok_X10_image rfl) ?_
  refine aj_run (C := True) (pc' := 51) (la' := [some (.inr (.inr (some (1, 0)))), some (.inl i)]) (st' := [.inl (g1 2 0 1), .inl i]) (M' := (P, g1, r0, n)) ok_X10_image true 1 rfl trivial ?_
  refine aj_icmp_ge (tgt := 72) (ax_dec2 (i := .if_icmp .ge 21) (n := 3) ok_X10_image rfl) (by decide) (fun c1 => ?_) (fun c1 => ?_)
  · refine aj_run (C := True) (pc' := 76) (la' := [some (.inr (.inr (some (1, 0)))), some (.inl i)]) (st' := [.inl (g1 1 0 6)]) (M' := (P, g1, r0, n)) ok_X10_image true 2 rfl trivial ?_
    refine aj_ret (r := some (.inl (g1 1 0 6))) (ax_dec2 (i := .ireturn) (n := 1) ok_X10_image rfl) ⟨?_, ?_, by decide, by decide⟩ rfl
    · exact ⟨ax_si (by rw [hs6]; exact hxz), g1, rfl, cWd_im hw (fun f o j z => by rw [i3 f o j (by omega), ax_u3_n (by omega), ax_u3_n (by omega), ax_u3_n (by omega), ax_u3_n (by omega)]) (cIma_im hw hs6 (by rw [i3 1 0 7 (by omega), ax_u3_n (by omega), ax_u3_n (by omega), ax_u3_s]) (by rw [i3 1 0 8 (by omega), ax_u3_n (by omega), ax_u3_s]) (by rw [i3 1 0 9 (by omega), ax_u3_s]) (fun a z1 z2 => i4 a z1 (by omega))), fun f o j z => by rw [i3 f o j (by unfold TCl at z; omega), ax_u3_n (by unfold TCl at z; omega), ax_u3_n (by unfold TCl at z; omega), ax_u3_n (by unfold TCl at z; omega), ax_u3_n (by unfold TCl at z; omega)], by rw [i3 2 0 11 (by omega), ax_u3_n (by omega), ax_u3_n (by omega), ax_u3_n (by omega), ax_u3_n (by omega)]; omega⟩
    · exact ax_ro_i
  · refine aj_run (C := True) (pc' := 55) (la' := [some (.inr (.inr (some (1, 0)))), some (.inl i)]) (st' := [.inr (.inr (some (1, 0)))]) (M' := (P, g1, r0, n)) ok_X10_image true 1 rfl trivial ?_
    refine aj_getR (f := 1) (k := 0) (g := 2) (o := 0) (u := 0) (ax_lk_ok (q := (1, 0)) rfl) rfl rfl hs.2.2.2.1 hs.2.2.2.2 (ax_dec2 (i := .getfield 10) (n := 3) ok_X10_image rfl) ?_
    refine aj_run (C := True) (pc' := 62) (la' := [some (.inr (.inr (some (1, 0)))), some (.inl i)]) (st' := [.inl i, .inr (.inr (some (200, 0)))]) (M' := (P, g1, r0, n)) ok_X10_image true 2 rfl trivial ?_
    refine aj_aald (f := 200) (g := 5) (o := 0) (i := i) (u := i) (E := "AntsTurn$Ant") rfl rfl rfl ⟨by omega, by have z9 := hAs.1.1; show i < n 200 0; omega⟩ (hAs.2 i (by omega) (by omega)).1.1 (hAs.2 i (by omega) (by omega)).1.2 (ax_dec2 (i := .aaload) (n := 1) ok_X10_image rfl) ?_
    refine aj_d_keepTraits lk_10_261 (hAs.2 i (by omega) (by omega)).2.2 (hAs.2 i (by omega) (by omega)).2.1 ⟨by decide, by decide, by decide, by decide⟩ (Nat.le_of_ble_eq_true rfl) (ax_dec2 (i := .invokevirtual 261) (n := 3) ok_X10_image rfl) ?_
    change ax_J _ _ _ _ _ _ _ _ _ 66 [some (.inr (.inr (some (1, 0)))), some (.inl i)] [] (P, cpG g1 500 i 501 i 0 0 4, r0, n)
    refine aj_run (C := (-2147483648 ≤ i + 1 ∧ i + 1 ≤ 2147483647) ∧ True) (pc' := 43) (la' := [some (.inr (.inr (some (1, 0)))), some (.inl (i + 1))]) (st' := []) (M' := (P, cpG g1 500 i 501 i 0 0 4, r0, n)) ok_X10_image true 2 rfl (by refine ⟨?_, trivial⟩ <;> (omega)) ?_
    refine ih43 (i + 1, cpG g1 500 i 501 i 0 0 4) ?_ ?_
    · (try dsimp only); exact ⟨by omega, by omega, fun f o j q => by rw [cpG_o (by omega)]; exact i3 f o j (by omega), fun a z1 z2 j y1 y2 => (by
        by_cases c : a = i
        · rw [c, cpG_r (by omega) (by omega), i3 500 i _ (by omega), ax_u3_n (by omega), ax_u3_n (by omega), ax_u3_n (by omega), ax_u3_n (by omega), show 0 + (j - 0) = j by omega]
        · rw [cpG_o (by omega)]; exact i4 a z1 (by omega) j y1 y2)⟩
    · omega

set_option maxRecDepth 100000 in
set_option maxHeartbeats 4000000 in
theorem cp_back (P : Nat → Int → Prop) (g : Nat → Int → Int → Int) (r0 : Nat → Int → Int → Option (Nat × Int)) (n : Nat → Int → Int) (h : Nat → Int → Int → Int) (hw : cWd P r0 n g h) (hst : 0 ≤ g 2 0 11 ∧ g 2 0 11 ≤ 100000) : ax_S yX10_back cX10_back 2 (some FieldType.int) 9 0 0 [.inr (.inr (some (1, 0)))] (P, g, r0, n) (fun r M' => r = some (.inl (mBack h).1) ∧ ∃ g' r', M' = (P, g', r', n) ∧ cWd P r' n g' (mBack h).2 ∧ cFr TCl g' g ∧ g' 2 0 11 ≤ g 2 0 11 + 1 ∧ (ax_nd (P, g, r0, n) → ax_nd (P, g', r', n))) := by
  have hs := cWd_sta hw
  have hT := hw.2.2.1
  have hTp := hw.2.2.2.2.2.2
  have hT2 := hT.2.1
  have hTp2 := hTp.2.1
  have hAs := hs.1.1
  have hPs := hs.1.2.1
  have hOs := hs.1.2.2
  have hP1 := hPs.1
  have hA1 := hAs.1
  have hsz := hOs.2.2.1
  have hxz := hPs.1.1
  have hkk : 2 ≤ g 2 0 2 ∧ g 2 0 2 ≤ 40 := by rw [hP1.2.1]; exact hOs.1
  have hst2 : 0 ≤ g 2 0 11 ∧ g 2 0 11 ≤ 1000000 := by omega
  have hc6 := hOs.2.2.2.1
  refine ax_S_of (own := 10) (by decide) rfl (fun h => absurd h (by decide)) rfl (Nat.le_of_ble_eq_true rfl) ?_
  change ax_J _ _ _ _ _ _ _ _ _ _ [some (.inr (.inr (some (1, 0)))), none] _ _
  refine aj_run (C := True) (pc' := 5) (la' := [some (.inr (.inr (some (1, 0)))), none]) (st' := [.inl (-1), .inl (g 1 0 6)]) (M' := (P, g, r0, n)) ok_X10_back true 3 rfl trivial ?_
  refine aj_icmp_ne (tgt := 11) (ax_dec2 (i := .if_icmp .ne 6) (n := 3) ok_X10_back rfl) (by decide) (fun c1 => ?_) (fun c1 => ?_)
  · have hIm := hw.2.2.2.2.2.1
    have h46 : h 50 0 46 = 1 ∧ (g 1 0 6 = h 50 0 47 ∧ 0 ≤ h 50 0 47 ∧ h 50 0 47 ≤ h 50 0 2) ∧ g 1 0 9 = h 50 0 50 ∧ 0 ≤ h 50 0 50 ∧ h 50 0 50 < h 50 0 10 := by
      rcases hIm with q | ⟨q1, ⟨q2, q3, q4, q5⟩, ⟨q6, q7, q8, q9⟩, q10⟩
      · exact absurd q.2 (by omega)
      · exact ⟨q1, ⟨q2, q6⟩, q5, q9⟩
    refine aj_run (C := True) (pc' := 12) (la' := [some (.inr (.inr (some (1, 0)))), none]) (st' := [.inr (.inr (some (1, 0)))]) (M' := (P, g, r0, n)) ok_X10_back true 1 rfl trivial ?_
    refine aj_getR (f := 1) (k := 0) (g := 2) (o := 0) (u := 0) (ax_lk_ok (q := (1, 0)) rfl) rfl rfl hs.2.2.2.1 hs.2.2.2.2 (ax_dec2 (i := .getfield 10) (n := 3) ok_X10_back rfl) ?_
    refine aj_run (C := True) (pc' := 23) (la' := [some (.inr (.inr (some (1, 0)))), none]) (st' := [.inr (.inr (some (1, 0)))]) (M' := (P, ax_u3 g 2 0 1 (g 1 0 6), r0, n)) ok_X10_back true 4 rfl trivial ?_
    refine aj_getR (f := 1) (k := 0) (g := 2) (o := 0) (u := 0) (ax_lk_ok (q := (1, 0)) rfl) rfl rfl hs.2.2.2.1 hs.2.2.2.2 (ax_dec2 (i := .getfield 10) (n := 3) ok_X10_back rfl) ?_
    refine aj_run (C := True) (pc' := 34) (la' := [some (.inr (.inr (some (1, 0)))), none]) (st' := [.inr (.inr (some (1, 0)))]) (M' := (P, ax_u3 (ax_u3 g 2 0 1 (g 1 0 6)) 2 0 2 (g 1 0 7), r0, n)) ok_X10_back true 4 rfl trivial ?_
    refine aj_getR (f := 1) (k := 0) (g := 2) (o := 0) (u := 0) (ax_lk_ok (q := (1, 0)) rfl) rfl rfl hs.2.2.2.1 hs.2.2.2.2 (ax_dec2 (i := .getfield 10) (n := 3) ok_X10_back rfl) ?_
    refine aj_run (C := True) (pc' := 46) (la' := [some (.inr (.inr (some (1, 0)))), some (.inl 0)]) (st' := []) (M' := (P, ax_u3 (ax_u3 (ax_u3 g 2 0 1 (g 1 0 6)) 2 0 2 (g 1 0 7)) 2 0 3 (g 1 0 8), r0, n)) ok_X10_back true 5 rfl trivial ?_
    refine aj_loop (σ := (Int) × (Nat → Int → Int → Int)) (fun xL => 0 ≤ xL.1 ∧ xL.1 ≤ g 1 0 6 ∧ (∀ f o j, ¬ (f = 500 ∧ 0 ≤ o ∧ o < xL.1) → xL.2 f o j = (ax_u3 (ax_u3 (ax_u3 g 2 0 1 (g 1 0 6)) 2 0 2 (g 1 0 7)) 2 0 3 (g 1 0 8)) f o j) ∧ ∀ a, 0 ≤ a → a < xL.1 → ∀ j, 0 ≤ j → j < 4 → xL.2 500 a j = g 501 a j) (fun xL => (g 1 0 6 - xL.1).toNat) (fun xL => [some (.inr (.inr (some (1, 0)))), some (.inl xL.1)]) (fun xL => []) (fun xL => (P, xL.2, r0, n)) ?_ (0, ax_u3 (ax_u3 (ax_u3 g 2 0 1 (g 1 0 6)) 2 0 2 (g 1 0 7)) 2 0 3 (g 1 0 8)) ?_
    rotate_left
    · (try dsimp only); exact ⟨by omega, by omega, fun _ _ _ _ => rfl, fun a z1 z2 => by omega⟩
    rintro ⟨i, g1⟩ hI ih46
    try dsimp only at hI ih46
    obtain ⟨i1, i2, i3, i4⟩ := hI
    change ax_J _ _ _ _ _ _ _ _ _ 46 [some (.inr (.inr (some (1, 0)))), some (.inl i)] [] (P, g1, r0, n)
    have hs6 : g1 1 0 6 = g 1 0 6 := (i3 1 0 6 (by omega)).trans (by rw [ax_u3_n (by omega), ax_u3_n (by omega), ax_u3_n (by omega)])
    have hs9 : g1 1 0 9 = g 1 0 9 := (i3 1 0 9 (by omega)).trans (by rw [ax_u3_n (by omega), ax_u3_n (by omega), ax_u3_n (by omega)])
    have hs11 : g1 2 0 11 = g 2 0 11 := (i3 2 0 11 (by omega)).trans (by rw [ax_u3_n (by omega), ax_u3_n (by omega), ax_u3_n (by omega)])
    refine aj_run (C := True) (pc' := 51) (la' := [some (.inr (.inr (some (1, 0)))), some (.inl i)]) (st' := [.inl (g1 1 0 6), .inl i]) (M' := (P, g1, r0, n)) ok_X10_back true 3 rfl trivial ?_
    refine aj_icmp_ge (tgt := 72) (ax_dec2 (i := .if_icmp .ge 21) (n := 3) ok_X10_back rfl) (by decide) (fun c2 => ?_) (fun c2 => ?_)
    · refine aj_run (C := True) (pc' := 77) (la' := [some (.inr (.inr (some (1, 0)))), some (.inl i)]) (st' := [.inl (g1 1 0 9), .inr (.inr (some (1, 0)))]) (M' := (P, g1, r0, n)) ok_X10_back true 3 rfl trivial ?_
      have hstb : 0 ≤ g1 2 0 11 ∧ g1 2 0 11 ≤ 1000000 := by omega
      refine aj_callV (av := [.inl (g1 1 0 9)]) (st := []) (f := 1) (o := 0) (ci := 10) cal_X10_obey lk_10_137 ins_X10_obey rfl sel_X10_obey rfl (fun c9 h9 _ => by simpa [ax_ok] using h9) (cp_obey (g1 1 0 9) _ _ _ _ hs.2.2.2 hT.1.2.2 (by omega) (by rw [hs9]; exact (hT.2.2 (g 1 0 9) (by omega) (by omega)).1) (by exact hstb)) ⟨by decide, by decide, by decide, by decide⟩ (Nat.le_of_ble_eq_true rfl) (ax_dec2 (i := .invokevirtual 137) (n := 3) ok_X10_back rfl) (fun r M' hq => ?_)
      obtain ⟨rfl, rfl⟩ := hq
      change ax_J _ _ _ _ _ _ _ _ _ 80 [some (.inr (.inr (some (1, 0)))), some (.inl i)] [] (P, ax_u3 (ax_u3 g1 1 0 5 (g1 1 0 9)) 2 0 11 (g1 2 0 11 + 1), ax_u3 r0 2 0 4 (some (6, (g1 1 0 9))), n)
      refine aj_run (C := True) (pc' := 84) (la' := [some (.inr (.inr (some (1, 0)))), some (.inl i)]) (st' := [.inl (g1 1 0 6)]) (M' := (P, ax_u3 (ax_u3 g1 1 0 5 (g1 1 0 9)) 2 0 11 (g1 2 0 11 + 1), ax_u3 r0 2 0 4 (some (6, (g1 1 0 9))), n)) ok_X10_back true 2 rfl trivial ?_
      refine aj_ret (r := some (.inl (g1 1 0 6))) (ax_dec2 (i := .ireturn) (n := 1) ok_X10_back rfl) ⟨?_, ?_, by decide, by decide⟩ rfl
      · (have hr9 : (ax_u3 (ax_u3 g1 1 0 5 (g1 1 0 9)) 2 0 11 (g1 2 0 11 + 1)) 1 0 6 = g 1 0 6 := (by rw [ax_u3_n (by omega), ax_u3_n (by omega)]; exact hs6); exact ⟨ax_si (by unfold mBack; rw [if_neg (by omega)]; exact hr9.trans h46.2.1.1), ax_u3 (ax_u3 g1 1 0 5 (g1 1 0 9)) 2 0 11 (g1 2 0 11 + 1), ax_u3 r0 2 0 4 (some (6, (g1 1 0 9))), rfl, by unfold mBack; rw [if_neg (by omega)]; exact cWd_back hw h46.1 hs9 (fun f o j z => by rw [ax_u3_n (by omega), ax_u3_n (by omega), i3 f o j (by omega), ax_u3_n (by omega), ax_u3_n (by omega), ax_u3_n (by omega)]) (by rw [ax_u3_s, hs11]) (by rw [ax_u3_n (by omega), ax_u3_s]) (by rw [ax_u3_n (by omega), ax_u3_n (by omega), i3 2 0 1 (by omega), ax_u3_n (by omega), ax_u3_n (by omega), ax_u3_s]) (by rw [ax_u3_n (by omega), ax_u3_n (by omega), i3 2 0 2 (by omega), ax_u3_n (by omega), ax_u3_s]) (by rw [ax_u3_n (by omega), ax_u3_n (by omega), i3 2 0 3 (by omega), ax_u3_s]) (fun a z1 z2 j y1 y2 => by rw [ax_u3_n (by omega), ax_u3_n (by omega)]; exact i4 a z1 (by omega) j y1 y2), fun f o j z => by rw [ax_u3_n (by unfold TCl at z; omega), ax_u3_n (by unfold TCl at z; omega), i3 f o j (by unfold TCl at z; omega), ax_u3_n (by unfold TCl at z; omega), ax_u3_n (by unfold TCl at z; omega), ax_u3_n (by unfold TCl at z; omega)], by rw [ax_u3_s]; omega, fun z => ax_nd_uR (M := (P, g, r0, n)) (q := (6, g1 1 0 9)) z (by rw [hs9]; exact (hT.2.2 (g 1 0 9) (by omega) (by omega)).1.2)⟩)
      · exact ax_ro_i
    · refine aj_run (C := True) (pc' := 55) (la' := [some (.inr (.inr (some (1, 0)))), some (.inl i)]) (st' := [.inr (.inr (some (1, 0)))]) (M' := (P, g1, r0, n)) ok_X10_back true 1 rfl trivial ?_
      refine aj_getR (f := 1) (k := 0) (g := 2) (o := 0) (u := 0) (ax_lk_ok (q := (1, 0)) rfl) rfl rfl hs.2.2.2.1 hs.2.2.2.2 (ax_dec2 (i := .getfield 10) (n := 3) ok_X10_back rfl) ?_
      refine aj_run (C := True) (pc' := 62) (la' := [some (.inr (.inr (some (1, 0)))), some (.inl i)]) (st' := [.inl i, .inr (.inr (some (200, 0)))]) (M' := (P, g1, r0, n)) ok_X10_back true 2 rfl trivial ?_
      refine aj_aald (f := 200) (g := 5) (o := 0) (i := i) (u := i) (E := "AntsTurn$Ant") rfl rfl rfl ⟨by omega, by have z9 := hAs.1.1; show i < n 200 0; omega⟩ (hAs.2 i (by omega) (by omega)).1.1 (hAs.2 i (by omega) (by omega)).1.2 (ax_dec2 (i := .aaload) (n := 1) ok_X10_back rfl) ?_
      refine aj_d_layTraitsBack lk_10_264 (hAs.2 i (by omega) (by omega)).2.2 (hAs.2 i (by omega) (by omega)).2.1 ⟨by decide, by decide, by decide, by decide⟩ (Nat.le_of_ble_eq_true rfl) (ax_dec2 (i := .invokevirtual 264) (n := 3) ok_X10_back rfl) ?_
      change ax_J _ _ _ _ _ _ _ _ _ 66 [some (.inr (.inr (some (1, 0)))), some (.inl i)] [] (P, cpG g1 501 i 500 i 0 0 4, r0, n)
      refine aj_run (C := (-2147483648 ≤ i + 1 ∧ i + 1 ≤ 2147483647) ∧ True) (pc' := 46) (la' := [some (.inr (.inr (some (1, 0)))), some (.inl (i + 1))]) (st' := []) (M' := (P, cpG g1 501 i 500 i 0 0 4, r0, n)) ok_X10_back true 2 rfl (by refine ⟨?_, trivial⟩ <;> (omega)) ?_
      refine ih46 (i + 1, cpG g1 501 i 500 i 0 0 4) ?_ ?_
      · (try dsimp only); exact ⟨by omega, by omega, fun f o j q => by rw [cpG_o (by omega)]; exact i3 f o j (by omega), fun a z1 z2 j y1 y2 => (by
        by_cases c : a = i
        · rw [c, cpG_r (by omega) (by omega), i3 501 i _ (by omega), ax_u3_n (by omega), ax_u3_n (by omega), ax_u3_n (by omega), show 0 + (j - 0) = j by omega]
        · rw [cpG_o (by omega)]; exact i4 a z1 (by omega) j y1 y2)⟩
      · omega
  · refine aj_run (C := True) (pc' := 10) (la' := [some (.inr (.inr (some (1, 0)))), none]) (st' := [.inl (-3)]) (M' := (P, g, r0, n)) ok_X10_back true 1 rfl trivial ?_
    refine aj_ret (r := some (.inl (-3))) (ax_dec2 (i := .ireturn) (n := 1) ok_X10_back rfl) ⟨?_, ?_, by decide, by decide⟩ rfl
    · (have hIm := hw.2.2.2.2.2.1; have h46 : h 50 0 46 = 0 := (by rcases hIm with q | ⟨q1, q2, q3, q4⟩; exact q.1; omega); exact ⟨ax_si (by unfold mBack; rw [if_pos h46]), g, r0, rfl, by unfold mBack; rw [if_pos h46]; exact hw, fun _ _ _ _ => rfl, by omega, fun z => z⟩)
    · exact ax_ro_i

