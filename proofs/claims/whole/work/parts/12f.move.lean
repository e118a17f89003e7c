/-! ===== the class's walk against the reference's memory h: an ant; the plank ===== -/
def cD1 (g h : Nat → Int → Int → Int) (a : Int) : Prop := g 5 a 2 = bI (0 ≤ h 129 0 a) ∧ (0 ≤ h 129 0 a → g 5 a 3 = h 129 0 a) ∧ (0 ≤ g 5 a 3 ∧ g 5 a 3 ≤ 80) ∧ g 5 a 4 = h 130 0 a ∧ g 5 a 5 = h 131 0 a ∧ g 5 a 6 = h 132 0 a ∧ g 5 a 7 = h 133 0 a ∧ (h 50 0 42 = 0 → g 5 a 8 = h 134 0 a) ∧ g 5 a 9 = h 135 0 a ∧ g 5 a 10 = h 136 0 a
theorem cD1_c {X Y h : Nat → Int → Int → Int} {a : Int} (hc : ∀ j, X 5 a j = Y 5 a j) (hd : cD1 Y h a) : cD1 X h a := by
  unfold cD1 at *
  simp only [hc]
  exact hd
def cPl (g h : Nat → Int → Int → Int) (n : Nat → Int → Int) : Prop := (g 2 0 1 = h 50 0 2 ∧ g 2 0 2 = h 50 0 0 ∧ g 2 0 3 = h 50 0 1) ∧ ∀ a, 0 ≤ a → a < h 50 0 2 → g 500 a 0 = h 104 0 a ∧ g 500 a 1 = h 105 0 a ∧ g 500 a 2 = h 106 0 a ∧ g 500 a 3 = h 107 0 a ∧ kOf (n 5 a) = h 103 0 a
/-- the same but for what T names -/
def cFr (T : Nat → Int → Int → Prop) (g' g : Nat → Int → Int → Int) : Prop := ∀ f o j, ¬ T f o j → g' f o j = g f o j
def TMv (i : Int) : Nat → Int → Int → Prop := fun f o j => f = 5 ∧ (0 ≤ o ∧ o < i) ∧ (j = 2 ∨ j = 3)
theorem cMv_f {g g1 X : Nat → Int → Int → Int} {i : Int} (i1 : 0 ≤ i) (i3 : cFr (TMv i) g1 g) (hX : ∀ f o j, ¬ (f = 5 ∧ o = i ∧ (j = 2 ∨ j = 3)) → X f o j = g1 f o j) : cFr (TMv (i + 1)) X g := fun f o j hn => by
  unfold TMv at *
  exact (hX f o j (by omega)).trans (i3 f o j (by omega))
theorem cMv_a {g1 X h : Nat → Int → Int → Int} {i : Int} (i4 : ∀ a, 0 ≤ a → a < i → cD1 g1 h a) (hX : ∀ f o j, ¬ (f = 5 ∧ o = i ∧ (j = 2 ∨ j = 3)) → X f o j = g1 f o j) (hi : cD1 X h i) : ∀ a, 0 ≤ a → a < i + 1 → cD1 X h a := by
  intro a h1 h2
  by_cases e : a = i
  · rw [e]; exact hi
  · exact cD1_c (fun j => hX 5 a j (by omega)) (i4 a h1 (by omega))
theorem cMv_d {g X h : Nat → Int → Int → Int} {i : Int} (hi : 0 ≤ i) (hs : i < h 50 0 2) (hD : cD1 g h i) (hq : ∀ j, j ≠ 2 → j ≠ 3 → X 5 i j = g 5 i j) (h2 : X 5 i 2 = bI (0 ≤ nW h i)) (h3 : 0 ≤ nW h i → X 5 i 3 = nW h i) (h33 : 0 ≤ X 5 i 3 ∧ X 5 i 3 ≤ 80) : cD1 X (wSt1 h) i := by
  obtain ⟨-, -, -, d4, d5, d6, d7, d8, d9, d10⟩ := hD
  have o : ∀ f, f ≠ 129 → f ≠ 50 → wSt1 h f 0 i = h f 0 i := fun f z1 z2 => st1_o z1 (fun z => absurd z z2)
  unfold cD1
  rw [st1_129 hi hs, o 130 (by decide) (by decide), o 131 (by decide) (by decide), o 132 (by decide) (by decide), o 133 (by decide) (by decide), o 134 (by decide) (by decide), o 135 (by decide) (by decide), o 136 (by decide) (by decide), st1_o (f := 50) (j := 42) (by decide) (fun _ => by decide), hq 4 (by decide) (by decide), hq 5 (by decide) (by decide), hq 6 (by decide) (by decide), hq 7 (by decide) (by decide), hq 8 (by decide) (by decide), hq 9 (by decide) (by decide), hq 10 (by decide) (by decide)]
  exact ⟨h2, h3, h33, d4, d5, d6, d7, d8, d9, d10⟩
/-- where an ant on the plank comes, as the class tells it -/
theorem nW_cl {h : Nat → Int → Int → Int} {i x : Int} (hs : wOs h) (hd : wOd h) (hx : wOx h) (h1 : 0 ≤ i) (h2 : i < h 50 0 2) (hon : 0 ≤ h 129 0 i) (ex : x = h 129 0 i + 1 - 2 * h 130 0 i) : nW h i = (if x < 0 then 2 * h 50 0 0 - 1 else if h 50 0 1 = 1 ∧ 2 * h 50 0 0 ≤ x then 0 else x) ∧ 0 ≤ nW h i ∧ nW h i ≤ 80 := by
  obtain ⟨d1, d2, d3⟩ := hd.2 i h1 h2
  obtain ⟨x1, x2, x3, x4, x5⟩ := hx.2 i h1 h2
  have hk := hs.1
  have hr := hs.2.1
  have hin := nW_in hs hd h1 h2
  have e : nW h i = wStp (h 129 0 i) (h 130 0 i) (h 50 0 1) (h 50 0 0) := by
    unfold nW
    rw [if_neg (by omega), if_neg (by omega)]
  rw [wStp_v hon (by omega)] at e
  subst ex
  rw [e] at hin ⊢
  clear e
  rcases d1 with d1 | d1
  · rw [if_neg (by omega)] at hin ⊢
    by_cases c : h 50 0 1 = 1 ∧ h 129 0 i = 2 * h 50 0 0 - 1
    · rw [if_pos c, if_neg (by omega), if_pos (by omega)]
      omega
    · rw [if_neg c, if_neg (by omega), if_neg (by omega)]
      omega
  · rw [if_pos d1] at hin ⊢
    by_cases c : h 50 0 1 = 1 ∧ h 129 0 i = 0
    · rw [if_pos c, if_pos (by omega)]
      omega
    · rw [if_neg c, if_neg (by omega), if_neg (by omega)]
      omega
theorem nW_of {h : Nat → Int → Int → Int} {i : Int} (hs : wOs h) (h1 : 0 ≤ i) (h2 : i < h 50 0 2) (hof : h 129 0 i < 0) : (h 50 0 39 + 1 = 2 * h 106 0 i → nW h i = 2 * h 104 0 i ∧ 0 ≤ nW h i ∧ nW h i ≤ 80) ∧ (h 50 0 39 + 1 ≠ 2 * h 106 0 i → nW h i = h 129 0 i) := by
  have hk := hs.1
  have hq := (hs.2.2.2.2.2.2 i h1 h2).2.1
  unfold nW
  constructor
  · intro c
    rw [if_pos c]
    omega
  · intro c
    rw [if_neg c, if_pos hof]
set_option maxRecDepth 100000 in
set_option maxHeartbeats 4000000 in
theorem cp_move (P : Nat → Int → Prop) (g : Nat → Int → Int → Int) (r0 : Nat → Int → Int → Option (Nat × Int)) (n : Nat → Int → Int) (hA : cAn P r0 n (g 2 0 1)) (h : Nat → Int → Int → Int) (hP : cPl g h n) (hs : wOs h) (hd : wOd h) (hx : wOx h) (hD : ∀ a, 0 ≤ a → a < h 50 0 2 → cD1 g h a) (hb : g 2 0 12 = h 50 0 39 + 1) (hb2 : h 50 0 39 ≤ 1000) : ax_S yX2_move cX2_move 3 none 1 0 0 [.inr (.inr (some (2, 0)))] (P, g, r0, n) (fun r M' => r = none ∧ ∃ g', M' = (P, g', r0, n) ∧ cFr (TMv (g 2 0 1)) g' g ∧ ∀ a, 0 ≤ a → a < h 50 0 2 → cD1 g' (wSt1 h) a) := by
  have hA1 := hA.1
  have hP1 := hP.1
  have hk1 := hs.1
  have hr1 := hs.2.1
  have hd1 := hd.1
  refine ax_S_of (own := 2) (by decide) rfl (fun h => absurd h (by decide)) rfl (Nat.le_of_ble_eq_true rfl) ?_
  change ax_J _ _ _ _ _ _ _ _ _ _ [some (.inr (.inr (some (2, 0)))), none, none] _ _
  refine aj_run (C := True) (pc' := 2) (la' := [some (.inr (.inr (some (2, 0)))), some (.inl 0), none]) (st' := []) (M' := (P, g, r0, n)) ok_X2_move true 2 rfl trivial ?_
  refine aj_forget (la' := [some (.inr (.inr (some (2, 0)))), some (.inl 0), none]) (by simp [ax_fg]) ?_
  refine aj_loop (σ := (Int) × (Nat → Int → Int → Int)) (fun xL => 0 ≤ xL.1 ∧ xL.1 ≤ g 2 0 1 ∧ cFr (TMv xL.1) xL.2 g ∧ ∀ a, 0 ≤ a → a < xL.1 → cD1 xL.2 (wSt1 h) a) (fun xL => (g 2 0 1 - xL.1).toNat) (fun xL => [some (.inr (.inr (some (2, 0)))), some (.inl xL.1), none]) (fun xL => []) (fun xL => (P, xL.2, r0, n)) ?_ (0, g) ?_
  rotate_left
  · exact ⟨by omega, by omega, fun _ _ _ _ => rfl, fun a z1 z2 => by omega⟩
  rintro ⟨i, g1⟩ hI ih2
  try dsimp only at hI ih2
  obtain ⟨i1, i2, i3, i4⟩ := hI
  change ax_J _ _ _ _ _ _ _ _ _ 2 [some (.inr (.inr (some (2, 0)))), some (.inl i), none] [] (P, g1, r0, n)
  have hsz1 : g1 2 0 1 = g 2 0 1 := i3 2 0 1 (by unfold TMv; omega)
  refine aj_run (C := True) (pc' := 7) (la' := [some (.inr (.inr (some (2, 0)))), some (.inl i), none]) (st' := [.inl (g1 2 0 1), .inl i]) (M' := (P, g1, r0, n)) ok_X2_move true 3 rfl trivial ?_
  refine aj_icmp_ge (tgt := 86) (ax_dec2 (i := .if_icmp .ge 79) (n := 3) ok_X2_move rfl) (by decide) (fun c1 => ?_) (fun c1 => ?_)
  · refine aj_ret (r := none) (ax_dec2 (i := .return_) (n := 1) ok_X2_move rfl) ⟨?_, ?_, by decide, by decide⟩ rfl
    · exact ⟨rfl, g1, rfl, fun f o j w => i3 f o j (fun z => w ⟨z.1, by unfold TMv at z; omega, z.2.2⟩), fun a z1 z2 => i4 a z1 (by omega)⟩
    · exact trivial
  · have hih : i < h 50 0 2 := by omega
    have hDi := hD i i1 hih
    obtain ⟨d2, d3, d33, d4, d5, d6, d7, d8, d9, d10⟩ := id hDi
    obtain ⟨e0, e1, e2, e3, e4⟩ := hP.2 i i1 hih
    have q := fun k => i3 5 i k (by unfold TMv; omega)
    have q2 := q 2
    have q3 := q 3
    have q4 := q 4
    have t0 := i3 500 i 0 (by unfold TMv; omega)
    have t2 := i3 500 i 2 (by unfold TMv; omega)
    have a500 := (hA.2 i i1 (by omega)).2.1.1
    have p12 := i3 2 0 12 (by unfold TMv; omega)
    have p2 := i3 2 0 2 (by unfold TMv; omega)
    have p3 := i3 2 0 3 (by unfold TMv; omega)
    have hdi := hd.2 i i1 hih
    have hsi := hs.2.2.2.2.2.2 i i1 hih
    have hb01 := bI_01 (p := 0 ≤ h 129 0 i)
    refine aj_run (C := True) (pc' := 15) (la' := [some (.inr (.inr (some (2, 0)))), some (.inl i), none]) (st' := [.inl i, .inr (.inr (some (200, 0)))]) (M' := (P, g1, r0, n)) ok_X2_move true 3 rfl trivial ?_
    refine aj_aald (f := 200) (g := 5) (o := 0) (i := i) (u := i) (E := "AntsTurn$Ant") rfl rfl rfl ⟨by omega, by have z9 := hA.1.1; show i < n 200 0; omega⟩ (hA.2 i (by omega) (by omega)).1.1 (hA.2 i (by omega) (by omega)).1.2 (ax_dec2 (i := .aaload) (n := 1) ok_X2_move rfl) ?_
    refine aj_run (C := True) (pc' := 21) (la' := [some (.inr (.inr (some (2, 0)))), some (.inl i), some (.inr (.inr (some (5, i))))]) (st' := [.inl (g1 5 i 2)]) (M' := (P, g1, r0, n)) ok_X2_move true 3 rfl trivial ?_
    refine aj_if_eq (tgt := 48) (ax_dec2 (i := .ifCond .eq 27) (n := 3) ok_X2_move rfl) (by decide) (fun c2 => ?_) (fun c2 => ?_)
    · refine aj_run (C := (0 ≤ 2 ∧ 2 < n 500 i) ∧ (-2147483648 ≤ 2 * (g1 500 i 2) ∧ 2 * (g1 500 i 2) ≤ 2147483647) ∧ True) (pc' := 60) (la' := [some (.inr (.inr (some (2, 0)))), some (.inl i), some (.inr (.inr (some (5, i))))]) (st' := [.inl (2 * (g1 500 i 2)), .inl (g1 2 0 12)]) (M' := (P, g1, r0, n)) ok_X2_move true 8 rfl (by refine ⟨?_, ?_, trivial⟩ <;> (first | omega | exact Or.inr rfl)) ?_
      refine aj_icmp_ne (tgt := 80) (ax_dec2 (i := .if_icmp .ne 20) (n := 3) ok_X2_move rfl) (by decide) (fun c3 => ?_) (fun c3 => ?_)
      · refine aj_run (C := (-2147483648 ≤ i + 1 ∧ i + 1 ≤ 2147483647) ∧ True) (pc' := 2) (la' := [some (.inr (.inr (some (2, 0)))), some (.inl (i + 1)), some (.inr (.inr (some (5, i))))]) (st' := []) (M' := (P, g1, r0, n)) ok_X2_move true 2 rfl (by refine ⟨?_, trivial⟩ <;> (first | omega | exact Or.inr rfl)) ?_
        refine aj_forget (la' := [some (.inr (.inr (some (2, 0)))), some (.inl (i + 1)), none]) (by simp [ax_fg]) ?_
        refine ih2 (i + 1, g1) ?_ ?_
        · (try dsimp only); (have hz : nW h i = h 129 0 i := ((nW_of hs i1 hih (by have := bI_e0 (p := 0 ≤ h 129 0 i) (by omega); omega)).2 (by omega)); exact ⟨by omega, by omega, cMv_f i1 i3 (fun f o j _ => rfl), cMv_a i4 (fun f o j _ => rfl) (cMv_d i1 hih hDi (fun j _ _ => q j) (by rw [hz, q2]; exact d2) (by rw [hz, q3]; exact d3) (by rw [q3]; exact d33))⟩)
        · omega
      · refine aj_run (C := (1 = 0 ∨ 1 = 1) ∧ (0 ≤ 0 ∧ 0 < n 500 i) ∧ (-2147483648 ≤ 2 * (g1 500 i 0) ∧ 2 * (g1 500 i 0) ≤ 2147483647) ∧ (-2147483648 ≤ i + 1 ∧ i + 1 ≤ 2147483647) ∧ True) (pc' := 2) (la' := [some (.inr (.inr (some (2, 0)))), some (.inl (i + 1)), some (.inr (.inr (some (5, i))))]) (st' := []) (M' := (P, ax_u3 (ax_u3 g1 5 i 2 1) 5 i 3 (2 * (g1 500 i 0)), r0, n)) ok_X2_move true 13 rfl (by refine ⟨?_, ?_, ?_, ?_, trivial⟩ <;> (first | omega | exact Or.inr rfl)) ?_
        refine aj_forget (la' := [some (.inr (.inr (some (2, 0)))), some (.inl (i + 1)), none]) (by simp [ax_fg]) ?_
        refine ih2 (i + 1, ax_u3 (ax_u3 g1 5 i 2 1) 5 i 3 (2 * (g1 500 i 0))) ?_ ?_
        · (try dsimp only); (have hz := (nW_of hs i1 hih (by have := bI_e0 (p := 0 ≤ h 129 0 i) (by omega); omega)).1 (by omega); have ht : 2 * g1 500 i 0 = nW h i := (by omega); exact ⟨by omega, by omega, cMv_f i1 i3 (fun f o j w => by rw [ax_u3_n (by omega), ax_u3_n (by omega)]), cMv_a i4 (fun f o j w => by rw [ax_u3_n (by omega), ax_u3_n (by omega)]) (cMv_d i1 hih hDi (fun j w1 w2 => by rw [ax_u3_n (by omega), ax_u3_n (by omega)]; exact q j) (by rw [ax_u3_n (by omega), ax_u3_s, bI_t hz.2.1]) (fun _ => by rw [ax_u3_s]; exact ht) (by rw [ax_u3_s, ht]; exact hz.2))⟩)
        · omega
    · refine aj_run (C := (-2147483648 ≤ (g1 5 i 3) + 1 ∧ (g1 5 i 3) + 1 ≤ 2147483647) ∧ (-2147483648 ≤ 2 * (g1 5 i 4) ∧ 2 * (g1 5 i 4) ≤ 2147483647) ∧ (-2147483648 ≤ ((g1 5 i 3) + 1) - (2 * (g1 5 i 4)) ∧ ((g1 5 i 3) + 1) - (2 * (g1 5 i 4)) ≤ 2147483647) ∧ True) (pc' := 39) (la' := [some (.inr (.inr (some (2, 0)))), some (.inl i), some (.inr (.inr (some (5, i))))]) (st' := [.inl (((g1 5 i 3) + 1) - (2 * (g1 5 i 4))), .inr (.inr (some (2, 0))), .inr (.inr (some (5, i)))]) (M' := (P, g1, r0, n)) ok_X2_move true 11 rfl (by refine ⟨?_, ?_, ?_, trivial⟩ <;> (first | omega | exact Or.inr rfl)) ?_
      refine aj_callV (av := [.inl (((g1 5 i 3) + 1) - (2 * (g1 5 i 4)))]) (st := [.inr (.inr (some (5, i)))]) (f := 2) (o := 0) (ci := 2) cal_X2_stepped lk_2_99 ins_X2_stepped rfl sel_X2_stepped rfl (fun c9 h9 _ => by simpa [ax_ok] using h9) (cp_stepped (((g1 5 i 3) + 1) - (2 * (g1 5 i 4))) _ _ _ _ (by omega)) ⟨by decide, by decide, by decide, by decide⟩ (Nat.le_of_ble_eq_true rfl) (ax_dec2 (i := .invokevirtual 99) (n := 3) ok_X2_move rfl) (fun r M' hq => ?_)
      obtain ⟨rfl, rfl⟩ := hq
      change ax_J _ _ _ _ _ _ _ _ _ 42 [some (.inr (.inr (some (2, 0)))), some (.inl i), some (.inr (.inr (some (5, i))))] [.inl (if (((g1 5 i 3) + 1) - (2 * (g1 5 i 4))) < 0 then 2 * g1 2 0 2 - 1 else if g1 2 0 3 = 1 ∧ 2 * g1 2 0 2 ≤ (((g1 5 i 3) + 1) - (2 * (g1 5 i 4))) then 0 else (((g1 5 i 3) + 1) - (2 * (g1 5 i 4)))), .inr (.inr (some (5, i)))] (P, g1, r0, n)
      refine aj_run (C := (-2147483648 ≤ i + 1 ∧ i + 1 ≤ 2147483647) ∧ True) (pc' := 2) (la' := [some (.inr (.inr (some (2, 0)))), some (.inl (i + 1)), some (.inr (.inr (some (5, i))))]) (st' := []) (M' := (P, ax_u3 g1 5 i 3 (if (((g1 5 i 3) + 1) - (2 * (g1 5 i 4))) < 0 then 2 * g1 2 0 2 - 1 else if g1 2 0 3 = 1 ∧ 2 * g1 2 0 2 ≤ (((g1 5 i 3) + 1) - (2 * (g1 5 i 4))) then 0 else (((g1 5 i 3) + 1) - (2 * (g1 5 i 4)))), r0, n)) ok_X2_move true 4 rfl (by refine ⟨?_, trivial⟩ <;> (first | omega | exact Or.inr rfl)) ?_
      refine aj_forget (la' := [some (.inr (.inr (some (2, 0)))), some (.inl (i + 1)), none]) (by simp [ax_fg]) ?_
      refine ih2 (i + 1, ax_u3 g1 5 i 3 (if (((g1 5 i 3) + 1) - (2 * (g1 5 i 4))) < 0 then 2 * g1 2 0 2 - 1 else if g1 2 0 3 = 1 ∧ 2 * g1 2 0 2 ≤ (((g1 5 i 3) + 1) - (2 * (g1 5 i 4))) then 0 else (((g1 5 i 3) + 1) - (2 * (g1 5 i 4))))) ?_ ?_
      · (try dsimp only); (have hon := bI_n0 (p := 0 ≤ h 129 0 i) (by omega); have hz := nW_cl (x := (g1 5 i 3 + 1) - 2 * g1 5 i 4) hs hd hx i1 hih hon (by have := d3 hon; omega); have ht : (if (((g1 5 i 3) + 1) - (2 * (g1 5 i 4))) < 0 then 2 * g1 2 0 2 - 1 else if g1 2 0 3 = 1 ∧ 2 * g1 2 0 2 ≤ (((g1 5 i 3) + 1) - (2 * (g1 5 i 4))) then 0 else (((g1 5 i 3) + 1) - (2 * (g1 5 i 4)))) = nW h i := (by rw [p2, p3, hP.1.2.1, hP.1.2.2]; exact hz.1.symm); exact ⟨by omega, by omega, cMv_f i1 i3 (fun f o j w => by rw [ax_u3_n (by omega)]), cMv_a i4 (fun f o j w => by rw [ax_u3_n (by omega)]) (cMv_d i1 hih hDi (fun j w1 w2 => by rw [ax_u3_n (by omega)]; exact q j) (by rw [ax_u3_n (by omega), q2, d2, bI_t hon, bI_t hz.2.1]) (fun _ => by rw [ax_u3_s]; exact ht) (by rw [ax_u3_s, ht]; exact hz.2))⟩)
      · omega

