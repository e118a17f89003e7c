/-! ===== one expression by what waits ===== -/
def TR (row : Int) : Nat → Int → Int → Prop := fun f o j => TN f o j ∨ TY row f o j ∨ (f = 113 ∧ o = 0 ∧ j = row)
theorem tT_v {B : Int → Int} {m j : Int} : yTv (tT B m j) := by
  unfold tT
  by_cases c : tkP B m j < m
  · rw [if_pos c]
    unfold tkT
    by_cases c1 : bLet B m (tkP B m j) = true
    · rw [if_pos c1]
      have hw := tkW_in (B := B) (f := tkP B m j) (t := tkE B m (tkP B m j))
      unfold yTv
      by_cases c2 : tkW B (tkP B m j) (tkE B m (tkP B m j)) < 6
      · rw [if_pos c2]; omega
      · rw [if_neg c2]
        split <;> omega
    · rw [if_neg c1]
      unfold yTv
      by_cases c2 : bDig B m (tkP B m j) = true
      · rw [if_pos c2]
        split <;> omega
      · rw [if_neg c2]
        by_cases c3 : isSgB (B (tkP B m j)) = true
        · rw [if_pos c3]
          exact Or.inr (Or.inr (Or.inr (Or.inr (Or.inr (isSg_b.mp c3)))))
        · rw [if_neg c3]; omega
  · rw [if_neg c]
    exact Or.inl rfl
theorem yStep_0 {T V : Int → Int} {a : syS} (h : T a.1 = 0) : yStep T V a = none := by
  unfold yStep yStp
  by_cases c : a.2.1.1 = true
  · rw [if_pos c, if_neg (by omega), if_neg (by omega)]
  · rw [if_neg c, if_neg (by omega), if_neg (fun z => z.1 (by rw [h]; decide)), if_neg (by omega)]
theorem mLtr_fr {h h' : Nat → Int → Int → Int} (e : ∀ f, f = 118 ∨ f = 119 → ∀ j, h' f 0 j = h f 0 j) (hl : mLtr h) : mLtr h' := by
  unfold mLtr
  simp only [e 119 (Or.inr rfl), e 118 (Or.inl rfl)]
  exact hl
theorem yTo_fr {h h' : Nat → Int → Int → Int} {t V : Int} (e : h' 50 0 15 = h 50 0 15) (e2 : h' 50 0 16 = h 50 0 16) (hk : yTo h t V) : yTo h' t V := by
  unfold yTo at hk ⊢
  rw [e, e2]
  exact hk
theorem yAt_fr {h h' : Nat → Int → Int → Int} {B : Int → Int} {m j : Int} (e : h' 50 0 14 = h 50 0 14) (hk : yAt h B m j) : yAt h' B m j := by
  unfold yAt at hk ⊢
  rw [e]
  exact hk
theorem yLx_fr {h h' : Nat → Int → Int → Int} {B : Int → Int} {m j : Int} (e : ∀ q, 14 ≤ q → q ≤ 17 → h' 50 0 q = h 50 0 q) (hk : yLx h B m j) : yLx h' B m j := by
  unfold yLx yAt at hk ⊢
  rw [e 14 (by decide) (by decide), e 15 (by decide) (by decide), e 16 (by decide) (by decide), e 17 (by decide) (by decide)]
  exact hk
theorem yM_fr {h h' : Nat → Int → Int → Int} {row o nst : Int} {w em : List Int} {c : Int → Int} (e : cFr TN h' h) (hm : yM h row w em o nst c) : yM h' row w em o nst c := by
  obtain ⟨⟨a1, a2⟩, ⟨b1, b2, b3⟩, d1, d2, d3⟩ := hm
  have e1 : ∀ j, 20 < j → h' 50 0 j = h 50 0 j := fun j z => e 50 0 j (by unfold TN; omega)
  have e2 : ∀ f j, f ≠ 50 → h' f 0 j = h f 0 j := fun f j z => e f 0 j (by unfold TN; omega)
  exact ⟨⟨by rw [e1 21 (by decide)]; exact a1, fun i x hx => by rw [e2 120 _ (by decide)]; exact a2 i x hx⟩, ⟨by rw [e1 25 (by decide)]; exact b1, by rw [e1 26 (by decide)]; exact b2, fun k x hx => by rw [e2 112 _ (by decide)]; exact b3 k x hx⟩, by rw [e1 22 (by decide)]; exact d1, by rw [e1 23 (by decide)]; exact d2, fun j z1 z2 => by rw [e2 124 _ (by decide)]; exact d3 j z1 z2⟩
set_option maxRecDepth 100000 in
set_option maxHeartbeats 4000000 in
theorem sp_readE (row i0 : Int) (P : Nat → Int → Prop) (g : Nat → Int → Int → Int) (r0 : Nat → Int → Int → Option (Nat × Int)) (n : Nat → Int → Int) (hn : mLen n) (hr : 0 ≤ row ∧ row < 18) (ht : 0 ≤ g 50 0 9 ∧ g 50 0 9 ≤ 160) (hl : mLtr g) (hi0 : 1 ≤ i0 ∧ i0 ≤ tkN (g 108 0) (g 50 0 9)) (hx : yLx g (g 108 0) (g 50 0 9) i0) : ax_S yX11_readE cX11_readE 5 (some FieldType.boolean) 3 0 0 [.inr (.inr (some (50, 0))), .inl row] (P, g, r0, n) (fun r M' => ∃ (g' : Nat → Int → Int → Int) (b : syS), M' = (P, g', r0, n) ∧ cFr (TR row) g' g ∧ yRe (tT (g 108 0) (g 50 0 9)) (tV (g 108 0) (g 50 0 9)) (i0, (true, true), ([], [], 0), 0, (wUp (fun j => g 124 0 j) 0 0)) b ∧ yStep (tT (g 108 0) (g 50 0 9)) (tV (g 108 0) (g 50 0 9)) b = none ∧ yLx g' (g 108 0) (g 50 0 9) b.1 ∧ (i0 ≤ b.1 ∧ b.1 ≤ tkN (g 108 0) (g 50 0 9)) ∧ ((r = some (.inl 1) ∧ yDn (tT (g 108 0) (g 50 0 9)) b ∧ g' 113 0 row = (yPop 1 b.2.2.1.1 b.2.2.1.2.1 b.2.2.1.2.2).2.1.length ∧ ∀ (k : Nat) x, (yPop 1 b.2.2.1.1 b.2.2.1.2.1 b.2.2.1.2.2).2.1[k]? = some x → g' 112 0 (160 * row + k) = x) ∨ (r = some (.inl 0) ∧ ¬ yDn (tT (g 108 0) (g 50 0 9)) b))) := by
  have n124 : n 124 0 = 8 := hn (124, 8) (by decide)
  have n113 : n 113 0 = 18 := hn (113, 18) (by decide)
  refine ax_S_of (own := 11) (by decide) rfl (fun h => absurd h (by decide)) rfl (Nat.le_of_ble_eq_true rfl) ?_
  change ax_J _ _ _ _ _ _ _ _ _ _ [some (.inr (.inr (some (50, 0)))), some (.inl row), none, none, none] _ _
  refine aj_run (C := (-2147483648 ≤ 160 * row ∧ 160 * row ≤ 2147483647) ∧ ((0 ≤ 0 ∧ 0 < n 124 0) ∧ (0 = 0 ∨ 0 = 1)) ∧ True) (pc' := 40) (la' := [some (.inr (.inr (some (50, 0)))), some (.inl row), some (.inl 1), some (.inl 1), none]) (st' := []) (M' := (P, ax_u3 (ax_u3 (ax_u3 (ax_u3 (ax_u3 (ax_u3 g 50 0 25 (160 * row)) 50 0 26 0) 50 0 21 0) 50 0 22 0) 50 0 23 0) 124 0 0 0, r0, n)) ok_X11_readE true 26 rfl (by refine ⟨?_, ?_, trivial⟩ <;> (omega)) ?_
  refine aj_cast (congrArg (fun (z9 : Int) => ([some (.inr (.inr (some (50, 0)))), some (.inl row), some (.inl z9), some (.inl 1), none] : List (Option ax_V))) (show 1 = bI (true = true) from by rfl)) rfl rfl ?_
  refine aj_cast (congrArg (fun (z9 : Int) => ([some (.inr (.inr (some (50, 0)))), some (.inl row), some (.inl (bI (true = true))), some (.inl z9), none] : List (Option ax_V))) (show 1 = bI (true = true) from by rfl)) rfl rfl ?_
  refine aj_forget (la' := [some (.inr (.inr (some (50, 0)))), some (.inl row), some (.inl (bI (true = true))), some (.inl (bI (true = true))), none]) (by simp [ax_fg]) ?_
  refine aj_loop (σ := (Int) × (Bool) × (Bool) × (List Int) × (List Int) × (Int) × (Int) × (Int → Int) × (Nat → Int → Int → Int)) (fun xL => cFr (TR row) xL.2.2.2.2.2.2.2.2 g ∧ yLx xL.2.2.2.2.2.2.2.2 (g 108 0) (g 50 0 9) xL.1 ∧ yM xL.2.2.2.2.2.2.2.2 row xL.2.2.2.1 xL.2.2.2.2.1 xL.2.2.2.2.2.1 xL.2.2.2.2.2.2.1 xL.2.2.2.2.2.2.2.1 ∧ yRe (tT (g 108 0) (g 50 0 9)) (tV (g 108 0) (g 50 0 9)) (i0, (true, true), ([], [], 0), 0, (wUp (fun j => g 124 0 j) 0 0)) (xL.1, (xL.2.1, xL.2.2.1), (xL.2.2.2.1, xL.2.2.2.2.1, xL.2.2.2.2.2.1), xL.2.2.2.2.2.2.1, xL.2.2.2.2.2.2.2.1) ∧ yIv i0 (xL.1, (xL.2.1, xL.2.2.1), (xL.2.2.2.1, xL.2.2.2.2.1, xL.2.2.2.2.2.1), xL.2.2.2.2.2.2.1, xL.2.2.2.2.2.2.2.1) ∧ xL.1 ≤ tkN (g 108 0) (g 50 0 9)) (fun xL => (161 - xL.1).toNat) (fun xL => [some (.inr (.inr (some (50, 0)))), some (.inl row), some (.inl (bI (xL.2.1 = true))), some (.inl (bI (xL.2.2.1 = true))), none]) (fun xL => []) (fun xL => (P, xL.2.2.2.2.2.2.2.2, r0, n)) ?_ (i0, true, true, [], [], 0, 0, (wUp (fun j => g 124 0 j) 0 0), ax_u3 (ax_u3 (ax_u3 (ax_u3 (ax_u3 (ax_u3 g 50 0 25 (160 * row)) 50 0 26 0) 50 0 21 0) 50 0 22 0) 50 0 23 0) 124 0 0 0) ?_
  rotate_left
  · (try dsimp only); exact ⟨fun f q j z => by rw [ax_u3_n (fun y => z (by unfold TR TN TY; omega)), ax_u3_n (fun y => z (by unfold TR TN TY; omega)), ax_u3_n (fun y => z (by unfold TR TN TY; omega)), ax_u3_n (fun y => z (by unfold TR TN TY; omega)), ax_u3_n (fun y => z (by unfold TR TN TY; omega)), ax_u3_n (fun y => z (by unfold TR TN TY; omega))], yLx_fr (fun q z1 z2 => by rw [ax_u3_n (by omega), ax_u3_n (by omega), ax_u3_n (by omega), ax_u3_n (by omega), ax_u3_n (by omega), ax_u3_n (by omega)]) hx, ⟨⟨rfl, fun i x h => by cases h⟩, ⟨rfl, rfl, fun k x h => by cases h⟩, rfl, rfl, fun j z1 z2 => by (show _ = (if j = 0 then 0 else g 124 0 j)); by_cases cj : j = 0; (rw [cj, ax_u3_s, if_pos rfl]); (rw [ax_u3_n (by omega), if_neg cj, ax_u3_n (by omega), ax_u3_n (by omega), ax_u3_n (by omega), ax_u3_n (by omega), ax_u3_n (by omega)])⟩, yRe_0, ⟨(fun x hx => by cases hx), rfl, rfl, (by show (0 : Int) ≤ 5; decide), (by show ((([] : List Int).length : Nat) : Int) + ((([] : List Int).length : Nat) : Int) ≤ i0 - i0; show (0 : Int) + 0 ≤ _; omega), Int.le_refl _⟩, hi0.2⟩
  rintro ⟨vi, va, vm, vw, ve, vo, vn, vc, g1⟩ hI ih40
  try dsimp only at hI ih40
  obtain ⟨a1, a2, a3, a4, a5, a6⟩ := hI
  change ax_J _ _ _ _ _ _ _ _ _ 40 [some (.inr (.inr (some (50, 0)))), some (.inl row), some (.inl (bI (va = true))), some (.inl (bI (vm = true))), none] [] (P, g1, r0, n)
  have b108 : g1 108 0 = g 108 0 := funext fun q => a1 108 0 q (by unfold TR TN TY; omega)
  have b9 : g1 50 0 9 = g 50 0 9 := a1 50 0 9 (by unfold TR TN TY; omega)
  have hl1 : mLtr g1 := mLtr_fr (fun f hf j => a1 f 0 j (by unfold TR TN TY; omega)) hl
  have hiN := tkN_in (B := (g 108 0)) (m := (g 50 0 9)) ht.1
  have hy : yHy vw ve vo vn := ⟨a5.1, a5.2.1, a5.2.2.1, a5.2.2.2.1, by have z1 : (vw.length : Int) + ve.length ≤ vi - i0 := a5.2.2.2.2.1; omega⟩
  have hi0 : i0 ≤ vi := a5.2.2.2.2.2
  obtain ⟨t, ht0⟩ : ∃ t, t = tT (g 108 0) (g 50 0 9) vi := ⟨_, rfl⟩
  obtain ⟨v, hv0⟩ : ∃ v, v = tV (g 108 0) (g 50 0 9) vi := ⟨_, rfl⟩
  have hk : yTo g1 t v := by rw [ht0, hv0]; exact ⟨a2.2.2, tT_v⟩
  have hkt := yT_15 hk
  obtain ⟨⟨y1, y2, y3, y4⟩, y5⟩ := yHy_i hy
  obtain ⟨⟨m1, m2⟩, ⟨m3, m4, m5⟩, m6, m7, m8⟩ := id a3
  have h16 : t = 2 ∨ t = 3 → g1 50 0 16 = v := hkt.2.2.2.2
  have hv9 := tV_ok (B := (g 108 0)) (m := (g 50 0 9)) vi
  rw [← ht0, ← hv0] at hv9
  refine aj_run (C := True) (pc' := 41) (la' := [some (.inr (.inr (some (50, 0)))), some (.inl row), some (.inl (bI (va = true))), some (.inl (bI (vm = true))), none]) (st' := [.inl (bI (va = true))]) (M' := (P, g1, r0, n)) ok_X11_readE true 1 rfl trivial ?_
  refine aj_if_eq (tgt := 96) (ax_dec2 (i := .ifCond .eq 55) (n := 3) ok_X11_readE rfl) (by decide) (fun c1 => ?_) (fun c1 => ?_)
  · replace c1 := bI_e0 c1
    have hva0 : ¬ va = true := by assumption
    have hva : va = false := by cases va; rfl; exact absurd rfl hva0
    refine aj_cast (congrArg (fun (z9 : Int) => ([some (.inr (.inr (some (50, 0)))), some (.inl row), some (.inl z9), some (.inl (bI (vm = true))), none] : List (Option ax_V))) (show bI (va = true) = 0 from bI_f hva0)) rfl rfl ?_
    refine aj_run (C := True) (pc' := 97) (la' := [some (.inr (.inr (some (50, 0)))), some (.inl row), some (.inl 0), some (.inl (bI (vm = true))), none]) (st' := [.inl 0]) (M' := (P, g1, r0, n)) ok_X11_readE true 1 rfl trivial ?_
    refine aj_if_eq (tgt := 132) (ax_dec2 (i := .ifCond .eq 35) (n := 3) ok_X11_readE rfl) (by decide) (fun c2 => ?_) (fun c2 => ?_)
    · refine aj_run (C := True) (pc' := 135) (la' := [some (.inr (.inr (some (50, 0)))), some (.inl row), some (.inl 0), some (.inl (bI (vm = true))), none]) (st' := [.inl 59, .inr (.inr (some (50, 0)))]) (M' := (P, g1, r0, n)) ok_X11_readE true 2 rfl trivial ?_
      refine aj_callV (av := [.inl 59]) (st := []) (f := 50) (o := 0) (ci := 11) cal_X11_isSign lk_11_108 ins_X11_isSign rfl sel_X11_isSign rfl (fun c9 h9 _ => by simpa [ax_ok] using h9) (sp_isSign 59 _ _ _ _) ⟨by decide, by decide, by decide, by decide⟩ (Nat.le_of_ble_eq_true rfl) (ax_dec2 (i := .invokevirtual 108) (n := 3) ok_X11_readE rfl) (fun r M' hq => ?_)
      obtain ⟨rfl, rfl⟩ := hq
      change ax_J _ _ _ _ _ _ _ _ _ 138 [some (.inr (.inr (some (50, 0)))), some (.inl row), some (.inl 0), some (.inl (bI (vm = true))), none] [.inl (bI (g1 50 0 15 = 4 ∧ g1 50 0 16 = 59))] (P, g1, r0, n)
      rw [yT_sg (h := g1) hk (by decide)]
      change ax_J _ _ _ _ _ _ _ _ _ 138 [some (.inr (.inr (some (50, 0)))), some (.inl row), some (.inl 0), some (.inl (bI (vm = true))), none] [.inl (bI (t = 59))] (P, g1, r0, n)
      refine aj_if_eq (tgt := 165) (ax_dec2 (i := .ifCond .eq 27) (n := 3) ok_X11_readE rfl) (by decide) (fun c3 => ?_) (fun c3 => ?_)
      · replace c3 := bI_e0 c3
        refine aj_run (C := True) (pc' := 166) (la' := [some (.inr (.inr (some (50, 0)))), some (.inl row), some (.inl 0), some (.inl (bI (vm = true))), none]) (st' := [.inr (.inr (some (50, 0)))]) (M' := (P, g1, r0, n)) ok_X11_readE true 1 rfl trivial ?_
        refine aj_callV (av := []) (st := []) (f := 50) (o := 0) (ci := 11) cal_X11_between lk_11_134 ins_X11_between rfl sel_X11_between rfl (fun c9 h9 _ => by simpa [ax_ok] using h9) (sp_between t v row vw ve vo vn vc _ _ _ _ hn hr a3 hk hy) ⟨by decide, by decide, by decide, by decide⟩ (Nat.le_of_ble_eq_true rfl) (ax_dec2 (i := .invokevirtual 134) (n := 3) ok_X11_readE rfl) (fun r M' hq => ?_)
        obtain ⟨g3, rfl, fr3, ⟨rfl, hsb, hM3⟩ | ⟨rfl, hsb, hg3⟩⟩ := hq
        · change ax_J _ _ _ _ _ _ _ _ _ 169 [some (.inr (.inr (some (50, 0)))), some (.inl row), some (.inl 0), some (.inl (bI (vm = true))), none] [.inl 1] (P, g3, r0, n)
          refine aj_if_eq (tgt := 199) (ax_dec2 (i := .ifCond .eq 30) (n := 3) ok_X11_readE rfl) (by decide) (fun c4 => ?_) (fun c4 => ?_)
          · exact absurd c4 (by omega)
          · refine aj_run (C := True) (pc' := 174) (la' := [some (.inr (.inr (some (50, 0)))), some (.inl row), some (.inl 1), some (.inl (bI (vm = true))), none]) (st' := []) (M' := (P, g3, r0, n)) ok_X11_readE true 2 rfl trivial ?_
            have hk3 : yTo g3 t v := yTo_fr (fr3 50 0 15 (by unfold TY; omega)) (fr3 50 0 16 (by unfold TY; omega)) hk
            refine aj_run (C := True) (pc' := 176) (la' := [some (.inr (.inr (some (50, 0)))), some (.inl row), some (.inl 1), some (.inl (bI (vm = true))), none]) (st' := [.inl 4, .inr (.inr (some (50, 0)))]) (M' := (P, g3, r0, n)) ok_X11_readE true 2 rfl trivial ?_
            refine aj_callV (av := [.inl 4]) (st := []) (f := 50) (o := 0) (ci := 11) cal_X11_isKey lk_11_111 ins_X11_isKey rfl sel_X11_isKey rfl (fun c9 h9 _ => by simpa [ax_ok] using h9) (sp_isKey 4 _ _ _ _) ⟨by decide, by decide, by decide, by decide⟩ (Nat.le_of_ble_eq_true rfl) (ax_dec2 (i := .invokevirtual 111) (n := 3) ok_X11_readE rfl) (fun r M' hq => ?_)
            obtain ⟨rfl, rfl⟩ := hq
            change ax_J _ _ _ _ _ _ _ _ _ 179 [some (.inr (.inr (some (50, 0)))), some (.inl row), some (.inl 1), some (.inl (bI (vm = true))), none] [.inl (bI (g3 50 0 15 = 3 ∧ g3 50 0 16 = 4))] (P, g3, r0, n)
            rw [yT_ky (h := g3) hk3 (by decide)]
            change ax_J _ _ _ _ _ _ _ _ _ 179 [some (.inr (.inr (some (50, 0)))), some (.inl row), some (.inl 1), some (.inl (bI (vm = true))), none] [.inl (bI (t = 9))] (P, g3, r0, n)
            refine aj_if_ne (tgt := 190) (ax_dec2 (i := .ifCond .ne 11) (n := 3) ok_X11_readE rfl) (by decide) (fun c5 => ?_) (fun c5 => ?_)
            · replace c5 := bI_n0 c5
              refine aj_run (C := True) (pc' := 208) (la' := [some (.inr (.inr (some (50, 0)))), some (.inl row), some (.inl 1), some (.inl 1), none]) (st' := []) (M' := (P, g3, r0, n)) ok_X11_readE true 4 rfl trivial ?_
              have hst : yStep (tT (g 108 0) (g 50 0 9)) (tV (g 108 0) (g 50 0 9)) (vi, (va, vm), (vw, ve, vo), vn, vc) = some (vi + 1, (true, (decide (t = 9 ∨ t = 8))), ((yOp t :: (yPop (wRank (yOp t)) vw ve vo).1), (yPop (wRank (yOp t)) vw ve vo).2.1, (yPop (wRank (yOp t)) vw ve vo).2.2), vn, (wUp vc vn (if wRank (yOp t) = 4 ∨ (4 < wRank (yOp t) ∧ vc vn ≠ 0) then 1 else 0))) := by
                rw [hva]
                show yStp (tT (g 108 0) (g 50 0 9)) (tV (g 108 0) (g 50 0 9)) vi false vm vw ve vo vn vc = _
                unfold yStp
                rw [if_neg (by decide), ← ht0, if_neg (show ¬ (t = 59 ∧ vn = 0) by omega), if_pos hsb]
              have frA : cFr (TR row) g3 g1 := fun f q j z => fr3 f q j (fun y => z (Or.inr (Or.inl y)))
              have hi6 : vi + 1 ≤ tkN (g 108 0) (g 50 0 9) := by
                by_cases ce : vi = tkN (g 108 0) (g 50 0 9)
                · exact absurd hst (by rw [yStep_0 (by show tT _ _ vi = 0; rw [ce]; exact tT_N ht.1)]; simp)
                · omega
              have b108x : g3 108 0 = g 108 0 := (funext fun q => frA 108 0 q (by unfold TR TN TY; omega)).trans b108
              have b9x : g3 50 0 9 = g 50 0 9 := (frA 50 0 9 (by unfold TR TN TY; omega)).trans b9
              have hl5 : mLtr g3 := mLtr_fr (fun f hf j => frA f 0 j (by unfold TR TN TY; omega)) hl1
              have h14x : g3 50 0 14 = g1 50 0 14 := fr3 50 0 14 (by unfold TY; omega)
              refine aj_run (C := True) (pc' := 209) (la' := [some (.inr (.inr (some (50, 0)))), some (.inl row), some (.inl 1), some (.inl 1), none]) (st' := [.inr (.inr (some (50, 0)))]) (M' := (P, g3, r0, n)) ok_X11_readE true 1 rfl trivial ?_
              refine aj_callV (av := []) (st := []) (f := 50) (o := 0) (ci := 11) cal_X11_next lk_11_141 ins_X11_next rfl sel_X11_next rfl (fun c9 h9 _ => by simpa [ax_ok] using h9) (sp_next (vi + 1) _ _ _ _ hn (by rw [b9x]; exact ht) hl5 (by omega) (by rw [b108x, b9x]; exact yAt_fr h14x a2.2.1)) ⟨by decide, by decide, by decide, by decide⟩ (Nat.le_of_ble_eq_true rfl) (ax_dec2 (i := .invokevirtual 141) (n := 3) ok_X11_readE rfl) (fun r M' hq => ?_)
              obtain ⟨rfl, g6, rfl, fr6, hx6⟩ := hq
              rw [b108x, b9x] at hx6
              change ax_J _ _ _ _ _ _ _ _ _ 212 [some (.inr (.inr (some (50, 0)))), some (.inl row), some (.inl 1), some (.inl 1), none] [] (P, g6, r0, n)
              refine aj_run (C := True) (pc' := 40) (la' := [some (.inr (.inr (some (50, 0)))), some (.inl row), some (.inl 1), some (.inl 1), none]) (st' := []) (M' := (P, g6, r0, n)) ok_X11_readE true 1 rfl trivial ?_
              refine aj_cast (congrArg (fun (z9 : Int) => ([some (.inr (.inr (some (50, 0)))), some (.inl row), some (.inl z9), some (.inl 1), none] : List (Option ax_V))) (show 1 = bI (true = true) from by first | rfl | exact (bI_t (by assumption)).symm | exact (bI_f (by assumption)).symm)) rfl rfl ?_
              refine aj_cast (congrArg (fun (z9 : Int) => ([some (.inr (.inr (some (50, 0)))), some (.inl row), some (.inl (bI (true = true))), some (.inl z9), none] : List (Option ax_V))) (show 1 = bI ((decide (t = 9 ∨ t = 8)) = true) from by first | rfl | exact (bI_t (decide_eq_true (by omega))).symm | exact (bI_f (by rw [decide_eq_true_iff]; omega)).symm)) rfl rfl ?_
              refine ih40 ((vi + 1), true, (decide (t = 9 ∨ t = 8)), (yOp t :: (yPop (wRank (yOp t)) vw ve vo).1), (yPop (wRank (yOp t)) vw ve vo).2.1, (yPop (wRank (yOp t)) vw ve vo).2.2, vn, (wUp vc vn (if wRank (yOp t) = 4 ∨ (4 < wRank (yOp t) ∧ vc vn ≠ 0) then 1 else 0)), g6) ?_ ?_
              · (try dsimp only); exact ⟨fun f q j z => (fr6 f q j (fun y => z (Or.inl y))).trans ((frA f q j z).trans (a1 f q j z)), hx6, yM_fr fr6 hM3, yRe_t a4 (yRe_s hst yRe_0), (yIv_s hst a5).1, hi6⟩
              · (show (161 - (vi + 1)).toNat < (161 - vi).toNat; omega)
            · replace c5 := bI_e0 c5
              refine aj_run (C := True) (pc' := 184) (la' := [some (.inr (.inr (some (50, 0)))), some (.inl row), some (.inl 1), some (.inl (bI (vm = true))), none]) (st' := [.inl 3, .inr (.inr (some (50, 0)))]) (M' := (P, g3, r0, n)) ok_X11_readE true 2 rfl trivial ?_
              refine aj_callV (av := [.inl 3]) (st := []) (f := 50) (o := 0) (ci := 11) cal_X11_isKey lk_11_111 ins_X11_isKey rfl sel_X11_isKey rfl (fun c9 h9 _ => by simpa [ax_ok] using h9) (sp_isKey 3 _ _ _ _) ⟨by decide, by decide, by decide, by decide⟩ (Nat.le_of_ble_eq_true rfl) (ax_dec2 (i := .invokevirtual 111) (n := 3) ok_X11_readE rfl) (fun r M' hq => ?_)
              obtain ⟨rfl, rfl⟩ := hq
              change ax_J _ _ _ _ _ _ _ _ _ 187 [some (.inr (.inr (some (50, 0)))), some (.inl row), some (.inl 1), some (.inl (bI (vm = true))), none] [.inl (bI (g3 50 0 15 = 3 ∧ g3 50 0 16 = 3))] (P, g3, r0, n)
              rw [yT_ky (h := g3) hk3 (by decide)]
              change ax_J _ _ _ _ _ _ _ _ _ 187 [some (.inr (.inr (some (50, 0)))), some (.inl row), some (.inl 1), some (.inl (bI (vm = true))), none] [.inl (bI (t = 8))] (P, g3, r0, n)
              refine aj_if_eq (tgt := 194) (ax_dec2 (i := .ifCond .eq 7) (n := 3) ok_X11_readE rfl) (by decide) (fun c6 => ?_) (fun c6 => ?_)
              · replace c6 := bI_e0 c6
                refine aj_run (C := True) (pc' := 208) (la' := [some (.inr (.inr (some (50, 0)))), some (.inl row), some (.inl 1), some (.inl 0), none]) (st' := []) (M' := (P, g3, r0, n)) ok_X11_readE true 3 rfl trivial ?_
                have hst : yStep (tT (g 108 0) (g 50 0 9)) (tV (g 108 0) (g 50 0 9)) (vi, (va, vm), (vw, ve, vo), vn, vc) = some (vi + 1, (true, (decide (t = 9 ∨ t = 8))), ((yOp t :: (yPop (wRank (yOp t)) vw ve vo).1), (yPop (wRank (yOp t)) vw ve vo).2.1, (yPop (wRank (yOp t)) vw ve vo).2.2), vn, (wUp vc vn (if wRank (yOp t) = 4 ∨ (4 < wRank (yOp t) ∧ vc vn ≠ 0) then 1 else 0))) := by
                  rw [hva]
                  show yStp (tT (g 108 0) (g 50 0 9)) (tV (g 108 0) (g 50 0 9)) vi false vm vw ve vo vn vc = _
                  unfold yStp
                  rw [if_neg (by decide), ← ht0, if_neg (show ¬ (t = 59 ∧ vn = 0) by omega), if_pos hsb]
                have frA : cFr (TR row) g3 g1 := fun f q j z => fr3 f q j (fun y => z (Or.inr (Or.inl y)))
                have hi6 : vi + 1 ≤ tkN (g 108 0) (g 50 0 9) := by
                  by_cases ce : vi = tkN (g 108 0) (g 50 0 9)
                  · exact absurd hst (by rw [yStep_0 (by show tT _ _ vi = 0; rw [ce]; exact tT_N ht.1)]; simp)
                  · omega
                have b108x : g3 108 0 = g 108 0 := (funext fun q => frA 108 0 q (by unfold TR TN TY; omega)).trans b108
                have b9x : g3 50 0 9 = g 50 0 9 := (frA 50 0 9 (by unfold TR TN TY; omega)).trans b9
                have hl5 : mLtr g3 := mLtr_fr (fun f hf j => frA f 0 j (by unfold TR TN TY; omega)) hl1
                have h14x : g3 50 0 14 = g1 50 0 14 := fr3 50 0 14 (by unfold TY; omega)
                refine aj_run (C := True) (pc' := 209) (la' := [some (.inr (.inr (some (50, 0)))), some (.inl row), some (.inl 1), some (.inl 0), none]) (st' := [.inr (.inr (some (50, 0)))]) (M' := (P, g3, r0, n)) ok_X11_readE true 1 rfl trivial ?_
                refine aj_callV (av := []) (st := []) (f := 50) (o := 0) (ci := 11) cal_X11_next lk_11_141 ins_X11_next rfl sel_X11_next rfl (fun c9 h9 _ => by simpa [ax_ok] using h9) (sp_next (vi + 1) _ _ _ _ hn (by rw [b9x]; exact ht) hl5 (by omega) (by rw [b108x, b9x]; exact yAt_fr h14x a2.2.1)) ⟨by decide, by decide, by decide, by decide⟩ (Nat.le_of_ble_eq_true rfl) (ax_dec2 (i := .invokevirtual 141) (n := 3) ok_X11_readE rfl) (fun r M' hq => ?_)
                obtain ⟨rfl, g6, rfl, fr6, hx6⟩ := hq
                rw [b108x, b9x] at hx6
                change ax_J _ _ _ _ _ _ _ _ _ 212 [some (.inr (.inr (some (50, 0)))), some (.inl row), some (.inl 1), some (.inl 0), none] [] (P, g6, r0, n)
                refine aj_run (C := True) (pc' := 40) (la' := [some (.inr (.inr (some (50, 0)))), some (.inl row), some (.inl 1), some (.inl 0), none]) (st' := []) (M' := (P, g6, r0, n)) ok_X11_readE true 1 rfl trivial ?_
                refine aj_cast (congrArg (fun (z9 : Int) => ([some (.inr (.inr (some (50, 0)))), some (.inl row), some (.inl z9), some (.inl 0), none] : List (Option ax_V))) (show 1 = bI (true = true) from by first | rfl | exact (bI_t (by assumption)).symm | exact (bI_f (by assumption)).symm)) rfl rfl ?_
                refine aj_cast (congrArg (fun (z9 : Int) => ([some (.inr (.inr (some (50, 0)))), some (.inl row), some (.inl (bI (true = true))), some (.inl z9), none] : List (Option ax_V))) (show 0 = bI ((decide (t = 9 ∨ t = 8)) = true) from by first | rfl | exact (bI_t (decide_eq_true (by omega))).symm | exact (bI_f (by rw [decide_eq_true_iff]; omega)).symm)) rfl rfl ?_
                refine ih40 ((vi + 1), true, (decide (t = 9 ∨ t = 8)), (yOp t :: (yPop (wRank (yOp t)) vw ve vo).1), (yPop (wRank (yOp t)) vw ve vo).2.1, (yPop (wRank (yOp t)) vw ve vo).2.2, vn, (wUp vc vn (if wRank (yOp t) = 4 ∨ (4 < wRank (yOp t) ∧ vc vn ≠ 0) then 1 else 0)), g6) ?_ ?_
                · (try dsimp only); exact ⟨fun f q j z => (fr6 f q j (fun y => z (Or.inl y))).trans ((frA f q j z).trans (a1 f q j z)), hx6, yM_fr fr6 hM3, yRe_t a4 (yRe_s hst yRe_0), (yIv_s hst a5).1, hi6⟩
                · (show (161 - (vi + 1)).toNat < (161 - vi).toNat; omega)
              · replace c6 := bI_n0 c6
                refine aj_run (C := True) (pc' := 208) (la' := [some (.inr (.inr (some (50, 0)))), some (.inl row), some (.inl 1), some (.inl 1), none]) (st' := []) (M' := (P, g3, r0, n)) ok_X11_readE true 4 rfl trivial ?_
                have hst : yStep (tT (g 108 0) (g 50 0 9)) (tV (g 108 0) (g 50 0 9)) (vi, (va, vm), (vw, ve, vo), vn, vc) = some (vi + 1, (true, (decide (t = 9 ∨ t = 8))), ((yOp t :: (yPop (wRank (yOp t)) vw ve vo).1), (yPop (wRank (yOp t)) vw ve vo).2.1, (yPop (wRank (yOp t)) vw ve vo).2.2), vn, (wUp vc vn (if wRank (yOp t) = 4 ∨ (4 < wRank (yOp t) ∧ vc vn ≠ 0) then 1 else 0))) := by
                  rw [hva]
                  show yStp (tT (g 108 0) (g 50 0 9)) (tV (g 108 0) (g 50 0 9)) vi false vm vw ve vo vn vc = _
                  unfold yStp
                  rw [if_neg (by decide), ← ht0, if_neg (show ¬ (t = 59 ∧ vn = 0) by omega), if_pos hsb]
                have frA : cFr (TR row) g3 g1 := fun f q j z => fr3 f q j (fun y => z (Or.inr (Or.inl y)))
                have hi6 : vi + 1 ≤ tkN (g 108 0) (g 50 0 9) := by
                  by_cases ce : vi = tkN (g 108 0) (g 50 0 9)
                  · exact absurd hst (by rw [yStep_0 (by show tT _ _ vi = 0; rw [ce]; exact tT_N ht.1)]; simp)
                  · omega
                have b108x : g3 108 0 = g 108 0 := (funext fun q => frA 108 0 q (by unfold TR TN TY; omega)).trans b108
                have b9x : g3 50 0 9 = g 50 0 9 := (frA 50 0 9 (by unfold TR TN TY; omega)).trans b9
                have hl5 : mLtr g3 := mLtr_fr (fun f hf j => frA f 0 j (by unfold TR TN TY; omega)) hl1
                have h14x : g3 50 0 14 = g1 50 0 14 := fr3 50 0 14 (by unfold TY; omega)
                refine aj_run (C := True) (pc' := 209) (la' := [some (.inr (.inr (some (50, 0)))), some (.inl row), some (.inl 1), some (.inl 1), none]) (st' := [.inr (.inr (some (50, 0)))]) (M' := (P, g3, r0, n)) ok_X11_readE true 1 rfl trivial ?_
                refine aj_callV (av := []) (st := []) (f := 50) (o := 0) (ci := 11) cal_X11_next lk_11_141 ins_X11_next rfl sel_X11_next rfl (fun c9 h9 _ => by simpa [ax_ok] using h9) (sp_next (vi + 1) _ _ _ _ hn (by rw [b9x]; exact ht) hl5 (by omega) (by rw [b108x, b9x]; exact yAt_fr h14x a2.2.1)) ⟨by decide, by decide, by decide, by decide⟩ (Nat.le_of_ble_eq_true rfl) (ax_dec2 (i := .invokevirtual 141) (n := 3) ok_X11_readE rfl) (fun r M' hq => ?_)
                obtain ⟨rfl, g6, rfl, fr6, hx6⟩ := hq
                rw [b108x, b9x] at hx6
                change ax_J _ _ _ _ _ _ _ _ _ 212 [some (.inr (.inr (some (50, 0)))), some (.inl row), some (.inl 1), some (.inl 1), none] [] (P, g6, r0, n)
                refine aj_run (C := True) (pc' := 40) (la' := [some (.inr (.inr (some (50, 0)))), some (.inl row), some (.inl 1), some (.inl 1), none]) (st' := []) (M' := (P, g6, r0, n)) ok_X11_readE true 1 rfl trivial ?_
                refine aj_cast (congrArg (fun (z9 : Int) => ([some (.inr (.inr (some (50, 0)))), some (.inl row), some (.inl z9), some (.inl 1), none] : List (Option ax_V))) (show 1 = bI (true = true) from by first | rfl | exact (bI_t (by assumption)).symm | exact (bI_f (by assumption)).symm)) rfl rfl ?_
                refine aj_cast (congrArg (fun (z9 : Int) => ([some (.inr (.inr (some (50, 0)))), some (.inl row), some (.inl (bI (true = true))), some (.inl z9), none] : List (Option ax_V))) (show 1 = bI ((decide (t = 9 ∨ t = 8)) = true) from by first | rfl | exact (bI_t (decide_eq_true (by omega))).symm | exact (bI_f (by rw [decide_eq_true_iff]; omega)).symm)) rfl rfl ?_
                refine ih40 ((vi + 1), true, (decide (t = 9 ∨ t = 8)), (yOp t :: (yPop (wRank (yOp t)) vw ve vo).1), (yPop (wRank (yOp t)) vw ve vo).2.1, (yPop (wRank (yOp t)) vw ve vo).2.2, vn, (wUp vc vn (if wRank (yOp t) = 4 ∨ (4 < wRank (yOp t) ∧ vc vn ≠ 0) then 1 else 0)), g6) ?_ ?_
                · (try dsimp only); exact ⟨fun f q j z => (fr6 f q j (fun y => z (Or.inl y))).trans ((frA f q j z).trans (a1 f q j z)), hx6, yM_fr fr6 hM3, yRe_t a4 (yRe_s hst yRe_0), (yIv_s hst a5).1, hi6⟩
                · (show (161 - (vi + 1)).toNat < (161 - vi).toNat; omega)
        · rw [hg3]
          change ax_J _ _ _ _ _ _ _ _ _ 169 [some (.inr (.inr (some (50, 0)))), some (.inl row), some (.inl 0), some (.inl (bI (vm = true))), none] [.inl 0] (P, g1, r0, n)
          refine aj_if_eq (tgt := 199) (ax_dec2 (i := .ifCond .eq 30) (n := 3) ok_X11_readE rfl) (by decide) (fun c7 => ?_) (fun c7 => ?_)
          · refine aj_run (C := True) (pc' := 200) (la' := [some (.inr (.inr (some (50, 0)))), some (.inl row), some (.inl 0), some (.inl (bI (vm = true))), none]) (st' := [.inr (.inr (some (50, 0)))]) (M' := (P, g1, r0, n)) ok_X11_readE true 1 rfl trivial ?_
            refine aj_callV (av := []) (st := []) (f := 50) (o := 0) (ci := 11) cal_X11_closes lk_11_138 ins_X11_closes rfl sel_X11_closes rfl (fun c9 h9 _ => by simpa [ax_ok] using h9) (sp_closes t v row vw ve vo vn vc _ _ _ _ hn hr a3 hk hy) ⟨by decide, by decide, by decide, by decide⟩ (Nat.le_of_ble_eq_true rfl) (ax_dec2 (i := .invokevirtual 138) (n := 3) ok_X11_readE rfl) (fun r M' hq => ?_)
            obtain ⟨g4, rfl, fr3, ⟨rfl, hsc, hM3⟩ | ⟨rfl, hsc, hg3⟩⟩ := hq
            · change ax_J _ _ _ _ _ _ _ _ _ 203 [some (.inr (.inr (some (50, 0)))), some (.inl row), some (.inl 0), some (.inl (bI (vm = true))), none] [.inl 1] (P, g4, r0, n)
              refine aj_if_ne (tgt := 208) (ax_dec2 (i := .ifCond .ne 5) (n := 3) ok_X11_readE rfl) (by decide) (fun c8 => ?_) (fun c8 => ?_)
              · have hst : yStep (tT (g 108 0) (g 50 0 9)) (tV (g 108 0) (g 50 0 9)) (vi, (va, vm), (vw, ve, vo), vn, vc) = some (vi + 1, (false, vm), ((yPop 7 (yPop 1 vw ve vo).1.tail (yPop 1 vw ve vo).2.1 ((yPop 1 vw ve vo).2.2 - 1)).1, (yPop 7 (yPop 1 vw ve vo).1.tail (yPop 1 vw ve vo).2.1 ((yPop 1 vw ve vo).2.2 - 1)).2.1, (yPop 7 (yPop 1 vw ve vo).1.tail (yPop 1 vw ve vo).2.1 ((yPop 1 vw ve vo).2.2 - 1)).2.2), (vn - 1), vc) := by
                  rw [hva]
                  show yStp (tT (g 108 0) (g 50 0 9)) (tV (g 108 0) (g 50 0 9)) vi false vm vw ve vo vn vc = _
                  unfold yStp
                  rw [if_neg (by decide), ← ht0, if_neg (show ¬ (t = 59 ∧ vn = 0) by omega), if_neg hsb, if_pos hsc]
                have frA : cFr (TR row) g4 g1 := fun f q j z => fr3 f q j (fun y => z (Or.inr (Or.inl y)))
                have hi6 : vi + 1 ≤ tkN (g 108 0) (g 50 0 9) := by
                  by_cases ce : vi = tkN (g 108 0) (g 50 0 9)
                  · exact absurd hst (by rw [yStep_0 (by show tT _ _ vi = 0; rw [ce]; exact tT_N ht.1)]; simp)
                  · omega
                have b108x : g4 108 0 = g 108 0 := (funext fun q => frA 108 0 q (by unfold TR TN TY; omega)).trans b108
                have b9x : g4 50 0 9 = g 50 0 9 := (frA 50 0 9 (by unfold TR TN TY; omega)).trans b9
                have hl5 : mLtr g4 := mLtr_fr (fun f hf j => frA f 0 j (by unfold TR TN TY; omega)) hl1
                have h14x : g4 50 0 14 = g1 50 0 14 := fr3 50 0 14 (by unfold TY; omega)
                refine aj_run (C := True) (pc' := 209) (la' := [some (.inr (.inr (some (50, 0)))), some (.inl row), some (.inl 0), some (.inl (bI (vm = true))), none]) (st' := [.inr (.inr (some (50, 0)))]) (M' := (P, g4, r0, n)) ok_X11_readE true 1 rfl trivial ?_
                refine aj_callV (av := []) (st := []) (f := 50) (o := 0) (ci := 11) cal_X11_next lk_11_141 ins_X11_next rfl sel_X11_next rfl (fun c9 h9 _ => by simpa [ax_ok] using h9) (sp_next (vi + 1) _ _ _ _ hn (by rw [b9x]; exact ht) hl5 (by omega) (by rw [b108x, b9x]; exact yAt_fr h14x a2.2.1)) ⟨by decide, by decide, by decide, by decide⟩ (Nat.le_of_ble_eq_true rfl) (ax_dec2 (i := .invokevirtual 141) (n := 3) ok_X11_readE rfl) (fun r M' hq => ?_)
                obtain ⟨rfl, g6, rfl, fr6, hx6⟩ := hq
                rw [b108x, b9x] at hx6
                change ax_J _ _ _ _ _ _ _ _ _ 212 [some (.inr (.inr (some (50, 0)))), some (.inl row), some (.inl 0), some (.inl (bI (vm = true))), none] [] (P, g6, r0, n)
                refine aj_run (C := True) (pc' := 40) (la' := [some (.inr (.inr (some (50, 0)))), some (.inl row), some (.inl 0), some (.inl (bI (vm = true))), none]) (st' := []) (M' := (P, g6, r0, n)) ok_X11_readE true 1 rfl trivial ?_
                refine aj_cast (congrArg (fun (z9 : Int) => ([some (.inr (.inr (some (50, 0)))), some (.inl row), some (.inl z9), some (.inl (bI (vm = true))), none] : List (Option ax_V))) (show 0 = bI (false = true) from by first | rfl | exact (bI_t (by assumption)).symm | exact (bI_f (by assumption)).symm)) rfl rfl ?_
                refine ih40 ((vi + 1), false, vm, (yPop 7 (yPop 1 vw ve vo).1.tail (yPop 1 vw ve vo).2.1 ((yPop 1 vw ve vo).2.2 - 1)).1, (yPop 7 (yPop 1 vw ve vo).1.tail (yPop 1 vw ve vo).2.1 ((yPop 1 vw ve vo).2.2 - 1)).2.1, (yPop 7 (yPop 1 vw ve vo).1.tail (yPop 1 vw ve vo).2.1 ((yPop 1 vw ve vo).2.2 - 1)).2.2, (vn - 1), vc, g6) ?_ ?_
                · (try dsimp only); exact ⟨fun f q j z => (fr6 f q j (fun y => z (Or.inl y))).trans ((frA f q j z).trans (a1 f q j z)), hx6, yM_fr fr6 hM3, yRe_t a4 (yRe_s hst yRe_0), (yIv_s hst a5).1, hi6⟩
                · (show (161 - (vi + 1)).toNat < (161 - vi).toNat; omega)
              · exact absurd c8 (by omega)
            · rw [hg3]
              change ax_J _ _ _ _ _ _ _ _ _ 203 [some (.inr (.inr (some (50, 0)))), some (.inl row), some (.inl 0), some (.inl (bI (vm = true))), none] [.inl 0] (P, g1, r0, n)
              refine aj_if_ne (tgt := 208) (ax_dec2 (i := .ifCond .ne 5) (n := 3) ok_X11_readE rfl) (by decide) (fun c9 => ?_) (fun c9 => ?_)
              · exact absurd c9 (by omega)
              · refine aj_run (C := True) (pc' := 207) (la' := [some (.inr (.inr (some (50, 0)))), some (.inl row), some (.inl 0), some (.inl (bI (vm = true))), none]) (st' := [.inl 0]) (M' := (P, g1, r0, n)) ok_X11_readE true 1 rfl trivial ?_
                refine aj_ret (r := some (.inl 0)) (ax_dec2 (i := .ireturn) (n := 1) ok_X11_readE rfl) ⟨?_, ?_, by decide, by decide⟩ rfl
                · exact ⟨g1, (vi, (va, vm), (vw, ve, vo), vn, vc), rfl, a1, a4, by rw [hva]; show yStp (tT (g 108 0) (g 50 0 9)) (tV (g 108 0) (g 50 0 9)) vi false vm vw ve vo vn vc = none; unfold yStp; rw [if_neg (by decide), ← ht0, if_neg (show ¬ (t = 59 ∧ vn = 0) by omega), if_neg hsb, if_neg hsc], a2, ⟨hi0, a6⟩, Or.inr ⟨rfl, fun z => by have z2 : tT _ _ vi = 59 := z.2.1; have z3 : vn = 0 := z.2.2; omega⟩⟩
                · exact Or.inl rfl
          · exact absurd c7 (by omega)
      · replace c3 := bI_n0 c3
        refine aj_run (C := True) (pc' := 145) (la' := [some (.inr (.inr (some (50, 0)))), some (.inl row), some (.inl 0), some (.inl (bI (vm = true))), none]) (st' := [.inl (g1 50 0 23)]) (M' := (P, g1, r0, n)) ok_X11_readE true 2 rfl trivial ?_
        refine aj_if_ne (tgt := 165) (ax_dec2 (i := .ifCond .ne 20) (n := 3) ok_X11_readE rfl) (by decide) (fun c10 => ?_) (fun c10 => ?_)
        · refine aj_run (C := True) (pc' := 166) (la' := [some (.inr (.inr (some (50, 0)))), some (.inl row), some (.inl 0), some (.inl (bI (vm = true))), none]) (st' := [.inr (.inr (some (50, 0)))]) (M' := (P, g1, r0, n)) ok_X11_readE true 1 rfl trivial ?_
          refine aj_callV (av := []) (st := []) (f := 50) (o := 0) (ci := 11) cal_X11_between lk_11_134 ins_X11_between rfl sel_X11_between rfl (fun c9 h9 _ => by simpa [ax_ok] using h9) (sp_between t v row vw ve vo vn vc _ _ _ _ hn hr a3 hk hy) ⟨by decide, by decide, by decide, by decide⟩ (Nat.le_of_ble_eq_true rfl) (ax_dec2 (i := .invokevirtual 134) (n := 3) ok_X11_readE rfl) (fun r M' hq => ?_)
          obtain ⟨g3, rfl, fr3, ⟨rfl, hsb, hM3⟩ | ⟨rfl, hsb, hg3⟩⟩ := hq
          · change ax_J _ _ _ _ _ _ _ _ _ 169 [some (.inr (.inr (some (50, 0)))), some (.inl row), some (.inl 0), some (.inl (bI (vm = true))), none] [.inl 1] (P, g3, r0, n)
            refine aj_if_eq (tgt := 199) (ax_dec2 (i := .ifCond .eq 30) (n := 3) ok_X11_readE rfl) (by decide) (fun c11 => ?_) (fun c11 => ?_)
            · exact absurd c11 (by omega)
            · refine aj_run (C := True) (pc' := 174) (la' := [some (.inr (.inr (some (50, 0)))), some (.inl row), some (.inl 1), some (.inl (bI (vm = true))), none]) (st' := []) (M' := (P, g3, r0, n)) ok_X11_readE true 2 rfl trivial ?_
              have hk3 : yTo g3 t v := yTo_fr (fr3 50 0 15 (by unfold TY; omega)) (fr3 50 0 16 (by unfold TY; omega)) hk
              refine aj_run (C := True) (pc' := 176) (la' := [some (.inr (.inr (some (50, 0)))), some (.inl row), some (.inl 1), some (.inl (bI (vm = true))), none]) (st' := [.inl 4, .inr (.inr (some (50, 0)))]) (M' := (P, g3, r0, n)) ok_X11_readE true 2 rfl trivial ?_
              refine aj_callV (av := [.inl 4]) (st := []) (f := 50) (o := 0) (ci := 11) cal_X11_isKey lk_11_111 ins_X11_isKey rfl sel_X11_isKey rfl (fun c9 h9 _ => by simpa [ax_ok] using h9) (sp_isKey 4 _ _ _ _) ⟨by decide, by decide, by decide, by decide⟩ (Nat.le_of_ble_eq_true rfl) (ax_dec2 (i := .invokevirtual 111) (n := 3) ok_X11_readE rfl) (fun r M' hq => ?_)
              obtain ⟨rfl, rfl⟩ := hq
              change ax_J _ _ _ _ _ _ _ _ _ 179 [some (.inr (.inr (some (50, 0)))), some (.inl row), some (.inl 1), some (.inl (bI (vm = true))), none] [.inl (bI (g3 50 0 15 = 3 ∧ g3 50 0 16 = 4))] (P, g3, r0, n)
              rw [yT_ky (h := g3) hk3 (by decide)]
              change ax_J _ _ _ _ _ _ _ _ _ 179 [some (.inr (.inr (some (50, 0)))), some (.inl row), some (.inl 1), some (.inl (bI (vm = true))), none] [.inl (bI (t = 9))] (P, g3, r0, n)
              refine aj_if_ne (tgt := 190) (ax_dec2 (i := .ifCond .ne 11) (n := 3) ok_X11_readE rfl) (by decide) (fun c12 => ?_) (fun c12 => ?_)
              · replace c12 := bI_n0 c12
                refine aj_run (C := True) (pc' := 208) (la' := [some (.inr (.inr (some (50, 0)))), some (.inl row), some (.inl 1), some (.inl 1), none]) (st' := []) (M' := (P, g3, r0, n)) ok_X11_readE true 4 rfl trivial ?_
                have hst : yStep (tT (g 108 0) (g 50 0 9)) (tV (g 108 0) (g 50 0 9)) (vi, (va, vm), (vw, ve, vo), vn, vc) = some (vi + 1, (true, (decide (t = 9 ∨ t = 8))), ((yOp t :: (yPop (wRank (yOp t)) vw ve vo).1), (yPop (wRank (yOp t)) vw ve vo).2.1, (yPop (wRank (yOp t)) vw ve vo).2.2), vn, (wUp vc vn (if wRank (yOp t) = 4 ∨ (4 < wRank (yOp t) ∧ vc vn ≠ 0) then 1 else 0))) := by
                  rw [hva]
                  show yStp (tT (g 108 0) (g 50 0 9)) (tV (g 108 0) (g 50 0 9)) vi false vm vw ve vo vn vc = _
                  unfold yStp
                  rw [if_neg (by decide), ← ht0, if_neg (show ¬ (t = 59 ∧ vn = 0) by omega), if_pos hsb]
                have frA : cFr (TR row) g3 g1 := fun f q j z => fr3 f q j (fun y => z (Or.inr (Or.inl y)))
                have hi6 : vi + 1 ≤ tkN (g 108 0) (g 50 0 9) := by
                  by_cases ce : vi = tkN (g 108 0) (g 50 0 9)
                  · exact absurd hst (by rw [yStep_0 (by show tT _ _ vi = 0; rw [ce]; exact tT_N ht.1)]; simp)
                  · omega
                have b108x : g3 108 0 = g 108 0 := (funext fun q => frA 108 0 q (by unfold TR TN TY; omega)).trans b108
                have b9x : g3 50 0 9 = g 50 0 9 := (frA 50 0 9 (by unfold TR TN TY; omega)).trans b9
                have hl5 : mLtr g3 := mLtr_fr (fun f hf j => frA f 0 j (by unfold TR TN TY; omega)) hl1
                have h14x : g3 50 0 14 = g1 50 0 14 := fr3 50 0 14 (by unfold TY; omega)
                refine aj_run (C := True) (pc' := 209) (la' := [some (.inr (.inr (some (50, 0)))), some (.inl row), some (.inl 1), some (.inl 1), none]) (st' := [.inr (.inr (some (50, 0)))]) (M' := (P, g3, r0, n)) ok_X11_readE true 1 rfl trivial ?_
                refine aj_callV (av := []) (st := []) (f := 50) (o := 0) (ci := 11) cal_X11_next lk_11_141 ins_X11_next rfl sel_X11_next rfl (fun c9 h9 _ => by simpa [ax_ok] using h9) (sp_next (vi + 1) _ _ _ _ hn (by rw [b9x]; exact ht) hl5 (by omega) (by rw [b108x, b9x]; exact yAt_fr h14x a2.2.1)) ⟨by decide, by decide, by decide, by decide⟩ (Nat.le_of_ble_eq_true rfl) (ax_dec2 (i := .invokevirtual 141) (n := 3) ok_X11_readE rfl) (fun r M' hq => ?_)
                obtain ⟨rfl, g6, rfl, fr6, hx6⟩ := hq
                rw [b108x, b9x] at hx6
                change ax_J _ _ _ _ _ _ _ _ _ 212 [some (.inr (.inr (some (50, 0)))), some (.inl row), some (.inl 1), some (.inl 1), none] [] (P, g6, r0, n)
                refine aj_run (C := True) (pc' := 40) (la' := [some (.inr (.inr (some (50, 0)))), some (.inl row), some (.inl 1), some (.inl 1), none]) (st' := []) (M' := (P, g6, r0, n)) ok_X11_readE true 1 rfl trivial ?_
                refine aj_cast (congrArg (fun (z9 : Int) => ([some (.inr (.inr (some (50, 0)))), some (.inl row), some (.inl z9), some (.inl 1), none] : List (Option ax_V))) (show 1 = bI (true = true) from by first | rfl | exact (bI_t (by assumption)).symm | exact (bI_f (by assumption)).symm)) rfl rfl ?_
                refine aj_cast (congrArg (fun (z9 : Int) => ([some (.inr (.inr (some (50, 0)))), some (.inl row), some (.inl (bI (true = true))), some (.inl z9), none] : List (Option ax_V))) (show 1 = bI ((decide (t = 9 ∨ t = 8)) = true) from by first | rfl | exact (bI_t (decide_eq_true (by omega))).symm | exact (bI_f (by rw [decide_eq_true_iff]; omega)).symm)) rfl rfl ?_
                refine ih40 ((vi + 1), true, (decide (t = 9 ∨ t = 8)), (yOp t :: (yPop (wRank (yOp t)) vw ve vo).1), (yPop (wRank (yOp t)) vw ve vo).2.1, (yPop (wRank (yOp t)) vw ve vo).2.2, vn, (wUp vc vn (if wRank (yOp t) = 4 ∨ (4 < wRank (yOp t) ∧ vc vn ≠ 0) then 1 else 0)), g6) ?_ ?_
                · (try dsimp only); exact ⟨fun f q j z => (fr6 f q j (fun y => z (Or.inl y))).trans ((frA f q j z).trans (a1 f q j z)), hx6, yM_fr fr6 hM3, yRe_t a4 (yRe_s hst yRe_0), (yIv_s hst a5).1, hi6⟩
                · (show (161 - (vi + 1)).toNat < (161 - vi).toNat; omega)
              · replace c12 := bI_e0 c12
                refine aj_run (C := True) (pc' := 184) (la' := [some (.inr (.inr (some (50, 0)))), some (.inl row), some (.inl 1), some (.inl (bI (vm = true))), none]) (st' := [.inl 3, .inr (.inr (some (50, 0)))]) (M' := (P, g3, r0, n)) ok_X11_readE true 2 rfl trivial ?_
                refine aj_callV (av := [.inl 3]) (st := []) (f := 50) (o := 0) (ci := 11) cal_X11_isKey lk_11_111 ins_X11_isKey rfl sel_X11_isKey rfl (fun c9 h9 _ => by simpa [ax_ok] using h9) (sp_isKey 3 _ _ _ _) ⟨by decide, by decide, by decide, by decide⟩ (Nat.le_of_ble_eq_true rfl) (ax_dec2 (i := .invokevirtual 111) (n := 3) ok_X11_readE rfl) (fun r M' hq => ?_)
                obtain ⟨rfl, rfl⟩ := hq
                change ax_J _ _ _ _ _ _ _ _ _ 187 [some (.inr (.inr (some (50, 0)))), some (.inl row), some (.inl 1), some (.inl (bI (vm = true))), none] [.inl (bI (g3 50 0 15 = 3 ∧ g3 50 0 16 = 3))] (P, g3, r0, n)
                rw [yT_ky (h := g3) hk3 (by decide)]
                change ax_J _ _ _ _ _ _ _ _ _ 187 [some (.inr (.inr (some (50, 0)))), some (.inl row), some (.inl 1), some (.inl (bI (vm = true))), none] [.inl (bI (t = 8))] (P, g3, r0, n)
                refine aj_if_eq (tgt := 194) (ax_dec2 (i := .ifCond .eq 7) (n := 3) ok_X11_readE rfl) (by decide) (fun c13 => ?_) (fun c13 => ?_)
                · replace c13 := bI_e0 c13
                  refine aj_run (C := True) (pc' := 208) (la' := [some (.inr (.inr (some (50, 0)))), some (.inl row), some (.inl 1), some (.inl 0), none]) (st' := []) (M' := (P, g3, r0, n)) ok_X11_readE true 3 rfl trivial ?_
                  have hst : yStep (tT (g 108 0) (g 50 0 9)) (tV (g 108 0) (g 50 0 9)) (vi, (va, vm), (vw, ve, vo), vn, vc) = some (vi + 1, (true, (decide (t = 9 ∨ t = 8))), ((yOp t :: (yPop (wRank (yOp t)) vw ve vo).1), (yPop (wRank (yOp t)) vw ve vo).2.1, (yPop (wRank (yOp t)) vw ve vo).2.2), vn, (wUp vc vn (if wRank (yOp t) = 4 ∨ (4 < wRank (yOp t) ∧ vc vn ≠ 0) then 1 else 0))) := by
                    rw [hva]
                    show yStp (tT (g 108 0) (g 50 0 9)) (tV (g 108 0) (g 50 0 9)) vi false vm vw ve vo vn vc = _
                    unfold yStp
                    rw [if_neg (by decide), ← ht0, if_neg (show ¬ (t = 59 ∧ vn = 0) by omega), if_pos hsb]
                  have frA : cFr (TR row) g3 g1 := fun f q j z => fr3 f q j (fun y => z (Or.inr (Or.inl y)))
                  have hi6 : vi + 1 ≤ tkN (g 108 0) (g 50 0 9) := by
                    by_cases ce : vi = tkN (g 108 0) (g 50 0 9)
                    · exact absurd hst (by rw [yStep_0 (by show tT _ _ vi = 0; rw [ce]; exact tT_N ht.1)]; simp)
                    · omega
                  have b108x : g3 108 0 = g 108 0 := (funext fun q => frA 108 0 q (by unfold TR TN TY; omega)).trans b108
                  have b9x : g3 50 0 9 = g 50 0 9 := (frA 50 0 9 (by unfold TR TN TY; omega)).trans b9
                  have hl5 : mLtr g3 := mLtr_fr (fun f hf j => frA f 0 j (by unfold TR TN TY; omega)) hl1
                  have h14x : g3 50 0 14 = g1 50 0 14 := fr3 50 0 14 (by unfold TY; omega)
                  refine aj_run (C := True) (pc' := 209) (la' := [some (.inr (.inr (some (50, 0)))), some (.inl row), some (.inl 1), some (.inl 0), none]) (st' := [.inr (.inr (some (50, 0)))]) (M' := (P, g3, r0, n)) ok_X11_readE true 1 rfl trivial ?_
                  refine aj_callV (av := []) (st := []) (f := 50) (o := 0) (ci := 11) cal_X11_next lk_11_141 ins_X11_next rfl sel_X11_next rfl (fun c9 h9 _ => by simpa [ax_ok] using h9) (sp_next (vi + 1) _ _ _ _ hn (by rw [b9x]; exact ht) hl5 (by omega) (by rw [b108x, b9x]; exact yAt_fr h14x a2.2.1)) ⟨by decide, by decide, by decide, by decide⟩ (Nat.le_of_ble_eq_true rfl) (ax_dec2 (i := .invokevirtual 141) (n := 3) ok_X11_readE rfl) (fun r M' hq => ?_)
                  obtain ⟨rfl, g6, rfl, fr6, hx6⟩ := hq
                  rw [b108x, b9x] at hx6
                  change ax_J _ _ _ _ _ _ _ _ _ 212 [some (.inr (.inr (some (50, 0)))), some (.inl row), some (.inl 1), some (.inl 0), none] [] (P, g6, r0, n)
                  refine aj_run (C := True) (pc' := 40) (la' := [some (.inr (.inr (some (50, 0)))), some (.inl row), some (.inl 1), some (.inl 0), none]) (st' := []) (M' := (P, g6, r0, n)) ok_X11_readE true 1 rfl trivial ?_
                  refine aj_cast (congrArg (fun (z9 : Int) => ([some (.inr (.inr (some (50, 0)))), some (.inl row), some (.inl z9), some (.inl 0), none] : List (Option ax_V))) (show 1 = bI (true = true) from by first | rfl | exact (bI_t (by assumption)).symm | exact (bI_f (by assumption)).symm)) rfl rfl ?_
                  refine aj_cast (congrArg (fun (z9 : Int) => ([some (.inr (.inr (some (50, 0)))), some (.inl row), some (.inl (bI (true = true))), some (.inl z9), none] : List (Option ax_V))) (show 0 = bI ((decide (t = 9 ∨ t = 8)) = true) from by first | rfl | exact (bI_t (decide_eq_true (by omega))).symm | exact (bI_f (by rw [decide_eq_true_iff]; omega)).symm)) rfl rfl ?_
                  refine ih40 ((vi + 1), true, (decide (t = 9 ∨ t = 8)), (yOp t :: (yPop (wRank (yOp t)) vw ve vo).1), (yPop (wRank (yOp t)) vw ve vo).2.1, (yPop (wRank (yOp t)) vw ve vo).2.2, vn, (wUp vc vn (if wRank (yOp t) = 4 ∨ (4 < wRank (yOp t) ∧ vc vn ≠ 0) then 1 else 0)), g6) ?_ ?_
                  · (try dsimp only); exact ⟨fun f q j z => (fr6 f q j (fun y => z (Or.inl y))).trans ((frA f q j z).trans (a1 f q j z)), hx6, yM_fr fr6 hM3, yRe_t a4 (yRe_s hst yRe_0), (yIv_s hst a5).1, hi6⟩
                  · (show (161 - (vi + 1)).toNat < (161 - vi).toNat; omega)
                · replace c13 := bI_n0 c13
                  refine aj_run (C := True) (pc' := 208) (la' := [some (.inr (.inr (some (50, 0)))), some (.inl row), some (.inl 1), some (.inl 1), none]) (st' := []) (M' := (P, g3, r0, n)) ok_X11_readE true 4 rfl trivial ?_
                  have hst : yStep (tT (g 108 0) (g 50 0 9)) (tV (g 108 0) (g 50 0 9)) (vi, (va, vm), (vw, ve, vo), vn, vc) = some (vi + 1, (true, (decide (t = 9 ∨ t = 8))), ((yOp t :: (yPop (wRank (yOp t)) vw ve vo).1), (yPop (wRank (yOp t)) vw ve vo).2.1, (yPop (wRank (yOp t)) vw ve vo).2.2), vn, (wUp vc vn (if wRank (yOp t) = 4 ∨ (4 < wRank (yOp t) ∧ vc vn ≠ 0) then 1 else 0))) := by
                    rw [hva]
                    show yStp (tT (g 108 0) (g 50 0 9)) (tV (g 108 0) (g 50 0 9)) vi false vm vw ve vo vn vc = _
                    unfold yStp
                    rw [if_neg (by decide), ← ht0, if_neg (show ¬ (t = 59 ∧ vn = 0) by omega), if_pos hsb]
                  have frA : cFr (TR row) g3 g1 := fun f q j z => fr3 f q j (fun y => z (Or.inr (Or.inl y)))
                  have hi6 : vi + 1 ≤ tkN (g 108 0) (g 50 0 9) := by
                    by_cases ce : vi = tkN (g 108 0) (g 50 0 9)
                    · exact absurd hst (by rw [yStep_0 (by show tT _ _ vi = 0; rw [ce]; exact tT_N ht.1)]; simp)
                    · omega
                  have b108x : g3 108 0 = g 108 0 := (funext fun q => frA 108 0 q (by unfold TR TN TY; omega)).trans b108
                  have b9x : g3 50 0 9 = g 50 0 9 := (frA 50 0 9 (by unfold TR TN TY; omega)).trans b9
                  have hl5 : mLtr g3 := mLtr_fr (fun f hf j => frA f 0 j (by unfold TR TN TY; omega)) hl1
                  have h14x : g3 50 0 14 = g1 50 0 14 := fr3 50 0 14 (by unfold TY; omega)
                  refine aj_run (C := True) (pc' := 209) (la' := [some (.inr (.inr (some (50, 0)))), some (.inl row), some (.inl 1), some (.inl 1), none]) (st' := [.inr (.inr (some (50, 0)))]) (M' := (P, g3, r0, n)) ok_X11_readE true 1 rfl trivial ?_
                  refine aj_callV (av := []) (st := []) (f := 50) (o := 0) (ci := 11) cal_X11_next lk_11_141 ins_X11_next rfl sel_X11_next rfl (fun c9 h9 _ => by simpa [ax_ok] using h9) (sp_next (vi + 1) _ _ _ _ hn (by rw [b9x]; exact ht) hl5 (by omega) (by rw [b108x, b9x]; exact yAt_fr h14x a2.2.1)) ⟨by decide, by decide, by decide, by decide⟩ (Nat.le_of_ble_eq_true rfl) (ax_dec2 (i := .invokevirtual 141) (n := 3) ok_X11_readE rfl) (fun r M' hq => ?_)
                  obtain ⟨rfl, g6, rfl, fr6, hx6⟩ := hq
                  rw [b108x, b9x] at hx6
                  change ax_J _ _ _ _ _ _ _ _ _ 212 [some (.inr (.inr (some (50, 0)))), some (.inl row), some (.inl 1), some (.inl 1), none] [] (P, g6, r0, n)
                  refine aj_run (C := True) (pc' := 40) (la' := [some (.inr (.inr (some (50, 0)))), some (.inl row), some (.inl 1), some (.inl 1), none]) (st' := []) (M' := (P, g6, r0, n)) ok_X11_readE true 1 rfl trivial ?_
                  refine aj_cast (congrArg (fun (z9 : Int) => ([some (.inr (.inr (some (50, 0)))), some (.inl row), some (.inl z9), some (.inl 1), none] : List (Option ax_V))) (show 1 = bI (true = true) from by first | rfl | exact (bI_t (by assumption)).symm | exact (bI_f (by assumption)).symm)) rfl rfl ?_
                  refine aj_cast (congrArg (fun (z9 : Int) => ([some (.inr (.inr (some (50, 0)))), some (.inl row), some (.inl (bI (true = true))), some (.inl z9), none] : List (Option ax_V))) (show 1 = bI ((decide (t = 9 ∨ t = 8)) = true) from by first | rfl | exact (bI_t (decide_eq_true (by omega))).symm | exact (bI_f (by rw [decide_eq_true_iff]; omega)).symm)) rfl rfl ?_
                  refine ih40 ((vi + 1), true, (decide (t = 9 ∨ t = 8)), (yOp t :: (yPop (wRank (yOp t)) vw ve vo).1), (yPop (wRank (yOp t)) vw ve vo).2.1, (yPop (wRank (yOp t)) vw ve vo).2.2, vn, (wUp vc vn (if wRank (yOp t) = 4 ∨ (4 < wRank (yOp t) ∧ vc vn ≠ 0) then 1 else 0)), g6) ?_ ?_
                  · (try dsimp only); exact ⟨fun f q j z => (fr6 f q j (fun y => z (Or.inl y))).trans ((frA f q j z).trans (a1 f q j z)), hx6, yM_fr fr6 hM3, yRe_t a4 (yRe_s hst yRe_0), (yIv_s hst a5).1, hi6⟩
                  · (show (161 - (vi + 1)).toNat < (161 - vi).toNat; omega)
          · rw [hg3]
            change ax_J _ _ _ _ _ _ _ _ _ 169 [some (.inr (.inr (some (50, 0)))), some (.inl row), some (.inl 0), some (.inl (bI (vm = true))), none] [.inl 0] (P, g1, r0, n)
            refine aj_if_eq (tgt := 199) (ax_dec2 (i := .ifCond .eq 30) (n := 3) ok_X11_readE rfl) (by decide) (fun c14 => ?_) (fun c14 => ?_)
            · refine aj_run (C := True) (pc' := 200) (la' := [some (.inr (.inr (some (50, 0)))), some (.inl row), some (.inl 0), some (.inl (bI (vm = true))), none]) (st' := [.inr (.inr (some (50, 0)))]) (M' := (P, g1, r0, n)) ok_X11_readE true 1 rfl trivial ?_
              refine aj_callV (av := []) (st := []) (f := 50) (o := 0) (ci := 11) cal_X11_closes lk_11_138 ins_X11_closes rfl sel_X11_closes rfl (fun c9 h9 _ => by simpa [ax_ok] using h9) (sp_closes t v row vw ve vo vn vc _ _ _ _ hn hr a3 hk hy) ⟨by decide, by decide, by decide, by decide⟩ (Nat.le_of_ble_eq_true rfl) (ax_dec2 (i := .invokevirtual 138) (n := 3) ok_X11_readE rfl) (fun r M' hq => ?_)
              obtain ⟨g4, rfl, fr3, ⟨rfl, hsc, hM3⟩ | ⟨rfl, hsc, hg3⟩⟩ := hq
              · change ax_J _ _ _ _ _ _ _ _ _ 203 [some (.inr (.inr (some (50, 0)))), some (.inl row), some (.inl 0), some (.inl (bI (vm = true))), none] [.inl 1] (P, g4, r0, n)
                refine aj_if_ne (tgt := 208) (ax_dec2 (i := .ifCond .ne 5) (n := 3) ok_X11_readE rfl) (by decide) (fun c15 => ?_) (fun c15 => ?_)
                · have hst : yStep (tT (g 108 0) (g 50 0 9)) (tV (g 108 0) (g 50 0 9)) (vi, (va, vm), (vw, ve, vo), vn, vc) = some (vi + 1, (false, vm), ((yPop 7 (yPop 1 vw ve vo).1.tail (yPop 1 vw ve vo).2.1 ((yPop 1 vw ve vo).2.2 - 1)).1, (yPop 7 (yPop 1 vw ve vo).1.tail (yPop 1 vw ve vo).2.1 ((yPop 1 vw ve vo).2.2 - 1)).2.1, (yPop 7 (yPop 1 vw ve vo).1.tail (yPop 1 vw ve vo).2.1 ((yPop 1 vw ve vo).2.2 - 1)).2.2), (vn - 1), vc) := by
                    rw [hva]
                    show yStp (tT (g 108 0) (g 50 0 9)) (tV (g 108 0) (g 50 0 9)) vi false vm vw ve vo vn vc = _
                    unfold yStp
                    rw [if_neg (by decide), ← ht0, if_neg (show ¬ (t = 59 ∧ vn = 0) by omega), if_neg hsb, if_pos hsc]
                  have frA : cFr (TR row) g4 g1 := fun f q j z => fr3 f q j (fun y => z (Or.inr (Or.inl y)))
                  have hi6 : vi + 1 ≤ tkN (g 108 0) (g 50 0 9) := by
                    by_cases ce : vi = tkN (g 108 0) (g 50 0 9)
                    · exact absurd hst (by rw [yStep_0 (by show tT _ _ vi = 0; rw [ce]; exact tT_N ht.1)]; simp)
                    · omega
                  have b108x : g4 108 0 = g 108 0 := (funext fun q => frA 108 0 q (by unfold TR TN TY; omega)).trans b108
                  have b9x : g4 50 0 9 = g 50 0 9 := (frA 50 0 9 (by unfold TR TN TY; omega)).trans b9
                  have hl5 : mLtr g4 := mLtr_fr (fun f hf j => frA f 0 j (by unfold TR TN TY; omega)) hl1
                  have h14x : g4 50 0 14 = g1 50 0 14 := fr3 50 0 14 (by unfold TY; omega)
                  refine aj_run (C := True) (pc' := 209) (la' := [some (.inr (.inr (some (50, 0)))), some (.inl row), some (.inl 0), some (.inl (bI (vm = true))), none]) (st' := [.inr (.inr (some (50, 0)))]) (M' := (P, g4, r0, n)) ok_X11_readE true 1 rfl trivial ?_
                  refine aj_callV (av := []) (st := []) (f := 50) (o := 0) (ci := 11) cal_X11_next lk_11_141 ins_X11_next rfl sel_X11_next rfl (fun c9 h9 _ => by simpa [ax_ok] using h9) (sp_next (vi + 1) _ _ _ _ hn (by rw [b9x]; exact ht) hl5 (by omega) (by rw [b108x, b9x]; exact yAt_fr h14x a2.2.1)) ⟨by decide, by decide, by decide, by decide⟩ (Nat.le_of_ble_eq_true rfl) (ax_dec2 (i := .invokevirtual 141) (n := 3) ok_X11_readE rfl) (fun r M' hq => ?_)
                  obtain ⟨rfl, g6, rfl, fr6, hx6⟩ := hq
                  rw [b108x, b9x] at hx6
                  change ax_J _ _ _ _ _ _ _ _ _ 212 [some (.inr (.inr (some (50, 0)))), some (.inl row), some (.inl 0), some (.inl (bI (vm = true))), none] [] (P, g6, r0, n)
                  refine aj_run (C := True) (pc' := 40) (la' := [some (.inr (.inr (some (50, 0)))), some (.inl row), some (.inl 0), some (.inl (bI (vm = true))), none]) (st' := []) (M' := (P, g6, r0, n)) ok_X11_readE true 1 rfl trivial ?_
                  refine aj_cast (congrArg (fun (z9 : Int) => ([some (.inr (.inr (some (50, 0)))), some (.inl row), some (.inl z9), some (.inl (bI (vm = true))), none] : List (Option ax_V))) (show 0 = bI (false = true) from by first | rfl | exact (bI_t (by assumption)).symm | exact (bI_f (by assumption)).symm)) rfl rfl ?_
                  refine ih40 ((vi + 1), false, vm, (yPop 7 (yPop 1 vw ve vo).1.tail (yPop 1 vw ve vo).2.1 ((yPop 1 vw ve vo).2.2 - 1)).1, (yPop 7 (yPop 1 vw ve vo).1.tail (yPop 1 vw ve vo).2.1 ((yPop 1 vw ve vo).2.2 - 1)).2.1, (yPop 7 (yPop 1 vw ve vo).1.tail (yPop 1 vw ve vo).2.1 ((yPop 1 vw ve vo).2.2 - 1)).2.2, (vn - 1), vc, g6) ?_ ?_
                  · (try dsimp only); exact ⟨fun f q j z => (fr6 f q j (fun y => z (Or.inl y))).trans ((frA f q j z).trans (a1 f q j z)), hx6, yM_fr fr6 hM3, yRe_t a4 (yRe_s hst yRe_0), (yIv_s hst a5).1, hi6⟩
                  · (show (161 - (vi + 1)).toNat < (161 - vi).toNat; omega)
                · exact absurd c15 (by omega)
              · rw [hg3]
                change ax_J _ _ _ _ _ _ _ _ _ 203 [some (.inr (.inr (some (50, 0)))), some (.inl row), some (.inl 0), some (.inl (bI (vm = true))), none] [.inl 0] (P, g1, r0, n)
                refine aj_if_ne (tgt := 208) (ax_dec2 (i := .ifCond .ne 5) (n := 3) ok_X11_readE rfl) (by decide) (fun c16 => ?_) (fun c16 => ?_)
                · exact absurd c16 (by omega)
                · refine aj_run (C := True) (pc' := 207) (la' := [some (.inr (.inr (some (50, 0)))), some (.inl row), some (.inl 0), some (.inl (bI (vm = true))), none]) (st' := [.inl 0]) (M' := (P, g1, r0, n)) ok_X11_readE true 1 rfl trivial ?_
                  refine aj_ret (r := some (.inl 0)) (ax_dec2 (i := .ireturn) (n := 1) ok_X11_readE rfl) ⟨?_, ?_, by decide, by decide⟩ rfl
                  · exact ⟨g1, (vi, (va, vm), (vw, ve, vo), vn, vc), rfl, a1, a4, by rw [hva]; show yStp (tT (g 108 0) (g 50 0 9)) (tV (g 108 0) (g 50 0 9)) vi false vm vw ve vo vn vc = none; unfold yStp; rw [if_neg (by decide), ← ht0, if_neg (show ¬ (t = 59 ∧ vn = 0) by omega), if_neg hsb, if_neg hsc], a2, ⟨hi0, a6⟩, Or.inr ⟨rfl, fun z => by have z2 : tT _ _ vi = 59 := z.2.1; have z3 : vn = 0 := z.2.2; omega⟩⟩
                  · exact Or.inl rfl
            · exact absurd c14 (by omega)
        · refine aj_run (C := True) (pc' := 150) (la' := [some (.inr (.inr (some (50, 0)))), some (.inl row), some (.inl 0), some (.inl (bI (vm = true))), none]) (st' := [.inl 1, .inr (.inr (some (50, 0)))]) (M' := (P, g1, r0, n)) ok_X11_readE true 2 rfl trivial ?_
          refine aj_callV (av := [.inl 1]) (st := []) (f := 50) (o := 0) (ci := 11) cal_X11_doAll lk_11_121 ins_X11_doAll rfl sel_X11_doAll rfl (fun c9 h9 _ => by simpa [ax_ok] using h9) (sp_doAll 1 row vw ve vo vn vc _ _ _ _ hn hr a3 (by omega) (by omega)) ⟨by decide, by decide, by decide, by decide⟩ (Nat.le_of_ble_eq_true rfl) (ax_dec2 (i := .invokevirtual 121) (n := 3) ok_X11_readE rfl) (fun r M' hq => ?_)
          obtain ⟨rfl, g3, rfl, fr3, hM3⟩ := hq
          change ax_J _ _ _ _ _ _ _ _ _ 153 [some (.inr (.inr (some (50, 0)))), some (.inl row), some (.inl 0), some (.inl (bI (vm = true))), none] [] (P, g3, r0, n)
          refine aj_run (C := (0 ≤ row ∧ row < n 113 0) ∧ True) (pc' := 164) (la' := [some (.inr (.inr (some (50, 0)))), some (.inl row), some (.inl 0), some (.inl (bI (vm = true))), none]) (st' := [.inl 1]) (M' := (P, ax_u3 g3 113 0 row (g3 50 0 26), r0, n)) ok_X11_readE true 7 rfl (by refine ⟨?_, trivial⟩ <;> (omega)) ?_
          refine aj_ret (r := some (.inl 1)) (ax_dec2 (i := .ireturn) (n := 1) ok_X11_readE rfl) ⟨?_, ?_, by decide, by decide⟩ rfl
          · exact ⟨_, (vi, (va, vm), (vw, ve, vo), vn, vc), rfl, fun f q j z => (ax_u3_n (fun y => z (Or.inr (Or.inr y)))).trans ((fr3 f q j (fun y => z (Or.inr (Or.inl y)))).trans (a1 f q j z)), a4, by rw [hva]; show yStp (tT (g 108 0) (g 50 0 9)) (tV (g 108 0) (g 50 0 9)) vi false vm vw ve vo vn vc = none; unfold yStp; rw [if_neg (by decide), ← ht0, if_pos ⟨by omega, by omega⟩], yLx_fr (fun q z1 z2 => (ax_u3_n (by omega)).trans (fr3 50 0 q (by unfold TY; omega))) a2, ⟨hi0, a6⟩, Or.inl ⟨rfl, ⟨hva, by show tT _ _ vi = 59; omega, by show vn = 0; omega⟩, by rw [ax_u3_s]; exact hM3.2.1.2.1, fun k x hx => by rw [ax_u3_n (by omega)]; exact hM3.2.1.2.2 k x hx⟩⟩
          · exact Or.inr rfl
    · exact absurd c2 (by omega)
  · replace c1 := bI_n0 c1
    have hva : va = true := by assumption
    refine aj_cast (congrArg (fun (z9 : Int) => ([some (.inr (.inr (some (50, 0)))), some (.inl row), some (.inl z9), some (.inl (bI (vm = true))), none] : List (Option ax_V))) (show bI (va = true) = 1 from bI_t hva)) rfl rfl ?_
    refine aj_run (C := True) (pc' := 49) (la' := [some (.inr (.inr (some (50, 0)))), some (.inl row), some (.inl 1), some (.inl (bI (vm = true))), none]) (st' := [.inl 1, .inl (g1 50 0 15)]) (M' := (P, g1, r0, n)) ok_X11_readE true 3 rfl trivial ?_
    refine aj_icmp_eq (tgt := 60) (ax_dec2 (i := .if_icmp .eq 11) (n := 3) ok_X11_readE rfl) (by decide) (fun c17 => ?_) (fun c17 => ?_)
    · refine aj_run (C := True) (pc' := 66) (la' := [some (.inr (.inr (some (50, 0)))), some (.inl row), some (.inl 1), some (.inl (bI (vm = true))), none]) (st' := [.inl 1, .inl (g1 50 0 15), .inr (.inr (some (50, 0)))]) (M' := (P, g1, r0, n)) ok_X11_readE true 4 rfl trivial ?_
      refine aj_icmp_ne (tgt := 78) (ax_dec2 (i := .if_icmp .ne 12) (n := 3) ok_X11_readE rfl) (by decide) (fun c18 => ?_) (fun c18 => ?_)
      · exact absurd c18 (by omega)
      · refine aj_run (C := (-2147483648 ≤ (-1) - (g1 50 0 16) ∧ (-1) - (g1 50 0 16) ≤ 2147483647) ∧ True) (pc' := 82) (la' := [some (.inr (.inr (some (50, 0)))), some (.inl row), some (.inl 1), some (.inl (bI (vm = true))), none]) (st' := [.inl ((-1) - (g1 50 0 16)), .inr (.inr (some (50, 0)))]) (M' := (P, g1, r0, n)) ok_X11_readE true 5 rfl (by refine ⟨?_, trivial⟩ <;> (omega)) ?_
        refine aj_callV (av := [.inl ((-1) - (g1 50 0 16))]) (st := []) (f := 50) (o := 0) (ci := 11) cal_X11_emit lk_11_104 ins_X11_emit rfl sel_X11_emit rfl (fun c9 h9 _ => by simpa [ax_ok] using h9) (sp_emit ((-1) - (g1 50 0 16)) row vw ve vo vn vc _ _ _ _ hn hr a3 (by omega)) ⟨by decide, by decide, by decide, by decide⟩ (Nat.le_of_ble_eq_true rfl) (ax_dec2 (i := .invokevirtual 104) (n := 3) ok_X11_readE rfl) (fun r M' hq => ?_)
        obtain ⟨rfl, g3, rfl, fr3, hM3⟩ := hq
        change ax_J _ _ _ _ _ _ _ _ _ 85 [some (.inr (.inr (some (50, 0)))), some (.inl row), some (.inl 1), some (.inl (bI (vm = true))), none] [] (P, g3, r0, n)
        have hel : (ve ++ [(-1) - (g1 50 0 16)]).length = ve.length + 1 := List.length_append
        refine aj_run (C := True) (pc' := 88) (la' := [some (.inr (.inr (some (50, 0)))), some (.inl row), some (.inl 1), some (.inl (bI (vm = true))), none]) (st' := [.inl 7, .inr (.inr (some (50, 0)))]) (M' := (P, g3, r0, n)) ok_X11_readE true 2 rfl trivial ?_
        refine aj_callV (av := [.inl 7]) (st := []) (f := 50) (o := 0) (ci := 11) cal_X11_doAll lk_11_121 ins_X11_doAll rfl sel_X11_doAll rfl (fun c9 h9 _ => by simpa [ax_ok] using h9) (sp_doAll 7 row vw (ve ++ [(-1) - (g1 50 0 16)]) vo vn vc _ _ _ _ hn hr hM3 (by omega) (by omega)) ⟨by decide, by decide, by decide, by decide⟩ (Nat.le_of_ble_eq_true rfl) (ax_dec2 (i := .invokevirtual 121) (n := 3) ok_X11_readE rfl) (fun r M' hq => ?_)
        obtain ⟨rfl, g4, rfl, fr4, hM4⟩ := hq
        change ax_J _ _ _ _ _ _ _ _ _ 91 [some (.inr (.inr (some (50, 0)))), some (.inl row), some (.inl 1), some (.inl (bI (vm = true))), none] [] (P, g4, r0, n)
        refine aj_run (C := True) (pc' := 208) (la' := [some (.inr (.inr (some (50, 0)))), some (.inl row), some (.inl 0), some (.inl (bI (vm = true))), none]) (st' := []) (M' := (P, g4, r0, n)) ok_X11_readE true 3 rfl trivial ?_
        have hst : yStep (tT (g 108 0) (g 50 0 9)) (tV (g 108 0) (g 50 0 9)) (vi, (va, vm), (vw, ve, vo), vn, vc) = some (vi + 1, (false, vm), ((yPop 7 vw (ve ++ [(-1) - (g1 50 0 16)]) vo).1, (yPop 7 vw (ve ++ [(-1) - (g1 50 0 16)]) vo).2.1, (yPop 7 vw (ve ++ [(-1) - (g1 50 0 16)]) vo).2.2), vn, vc) := by
          rw [hva]
          show yStp (tT (g 108 0) (g 50 0 9)) (tV (g 108 0) (g 50 0 9)) vi true vm vw ve vo vn vc = _
          unfold yStp
          rw [if_pos rfl, ← ht0, ← hv0, if_pos (show t = 2 ∨ t = 3 by omega)]; (first | rw [if_pos (show t = 2 by omega)] | rw [if_neg (show ¬ t = 2 by omega)]); rw [h16 (by omega)]
        have frA : cFr (TR row) g4 g1 := fun f q j z => (fr4 f q j (fun y => z (Or.inr (Or.inl y)))).trans (fr3 f q j (fun y => z (Or.inr (Or.inl y))))
        have hi6 : vi + 1 ≤ tkN (g 108 0) (g 50 0 9) := by
          by_cases ce : vi = tkN (g 108 0) (g 50 0 9)
          · exact absurd hst (by rw [yStep_0 (by show tT _ _ vi = 0; rw [ce]; exact tT_N ht.1)]; simp)
          · omega
        have b108x : g4 108 0 = g 108 0 := (funext fun q => frA 108 0 q (by unfold TR TN TY; omega)).trans b108
        have b9x : g4 50 0 9 = g 50 0 9 := (frA 50 0 9 (by unfold TR TN TY; omega)).trans b9
        have hl5 : mLtr g4 := mLtr_fr (fun f hf j => frA f 0 j (by unfold TR TN TY; omega)) hl1
        have h14x : g4 50 0 14 = g1 50 0 14 := (fr4 50 0 14 (by unfold TY; omega)).trans (fr3 50 0 14 (by unfold TY; omega))
        refine aj_run (C := True) (pc' := 209) (la' := [some (.inr (.inr (some (50, 0)))), some (.inl row), some (.inl 0), some (.inl (bI (vm = true))), none]) (st' := [.inr (.inr (some (50, 0)))]) (M' := (P, g4, r0, n)) ok_X11_readE true 1 rfl trivial ?_
        refine aj_callV (av := []) (st := []) (f := 50) (o := 0) (ci := 11) cal_X11_next lk_11_141 ins_X11_next rfl sel_X11_next rfl (fun c9 h9 _ => by simpa [ax_ok] using h9) (sp_next (vi + 1) _ _ _ _ hn (by rw [b9x]; exact ht) hl5 (by omega) (by rw [b108x, b9x]; exact yAt_fr h14x a2.2.1)) ⟨by decide, by decide, by decide, by decide⟩ (Nat.le_of_ble_eq_true rfl) (ax_dec2 (i := .invokevirtual 141) (n := 3) ok_X11_readE rfl) (fun r M' hq => ?_)
        obtain ⟨rfl, g6, rfl, fr6, hx6⟩ := hq
        rw [b108x, b9x] at hx6
        change ax_J _ _ _ _ _ _ _ _ _ 212 [some (.inr (.inr (some (50, 0)))), some (.inl row), some (.inl 0), some (.inl (bI (vm = true))), none] [] (P, g6, r0, n)
        refine aj_run (C := True) (pc' := 40) (la' := [some (.inr (.inr (some (50, 0)))), some (.inl row), some (.inl 0), some (.inl (bI (vm = true))), none]) (st' := []) (M' := (P, g6, r0, n)) ok_X11_readE true 1 rfl trivial ?_
        refine aj_cast (congrArg (fun (z9 : Int) => ([some (.inr (.inr (some (50, 0)))), some (.inl row), some (.inl z9), some (.inl (bI (vm = true))), none] : List (Option ax_V))) (show 0 = bI (false = true) from by first | rfl | exact (bI_t (by assumption)).symm | exact (bI_f (by assumption)).symm)) rfl rfl ?_
        refine ih40 ((vi + 1), false, vm, (yPop 7 vw (ve ++ [(-1) - (g1 50 0 16)]) vo).1, (yPop 7 vw (ve ++ [(-1) - (g1 50 0 16)]) vo).2.1, (yPop 7 vw (ve ++ [(-1) - (g1 50 0 16)]) vo).2.2, vn, vc, g6) ?_ ?_
        · (try dsimp only); exact ⟨fun f q j z => (fr6 f q j (fun y => z (Or.inl y))).trans ((frA f q j z).trans (a1 f q j z)), hx6, yM_fr fr6 hM4, yRe_t a4 (yRe_s hst yRe_0), (yIv_s hst a5).1, hi6⟩
        · (show (161 - (vi + 1)).toNat < (161 - vi).toNat; omega)
    · refine aj_run (C := True) (pc' := 57) (la' := [some (.inr (.inr (some (50, 0)))), some (.inl row), some (.inl 1), some (.inl (bI (vm = true))), none]) (st' := [.inl 2, .inl (g1 50 0 15)]) (M' := (P, g1, r0, n)) ok_X11_readE true 3 rfl trivial ?_
      refine aj_icmp_ne (tgt := 96) (ax_dec2 (i := .if_icmp .ne 39) (n := 3) ok_X11_readE rfl) (by decide) (fun c19 => ?_) (fun c19 => ?_)
      · have ht23 : ¬ (t = 2 ∨ t = 3) := by omega
        refine aj_run (C := True) (pc' := 97) (la' := [some (.inr (.inr (some (50, 0)))), some (.inl row), some (.inl 1), some (.inl (bI (vm = true))), none]) (st' := [.inl 1]) (M' := (P, g1, r0, n)) ok_X11_readE true 1 rfl trivial ?_
        refine aj_if_eq (tgt := 132) (ax_dec2 (i := .ifCond .eq 35) (n := 3) ok_X11_readE rfl) (by decide) (fun c20 => ?_) (fun c20 => ?_)
        · exact absurd c20 (by omega)
        · refine aj_run (C := True) (pc' := 103) (la' := [some (.inr (.inr (some (50, 0)))), some (.inl row), some (.inl 1), some (.inl (bI (vm = true))), none]) (st' := [.inl 45, .inr (.inr (some (50, 0)))]) (M' := (P, g1, r0, n)) ok_X11_readE true 2 rfl trivial ?_
          refine aj_callV (av := [.inl 45]) (st := []) (f := 50) (o := 0) (ci := 11) cal_X11_isSign lk_11_108 ins_X11_isSign rfl sel_X11_isSign rfl (fun c9 h9 _ => by simpa [ax_ok] using h9) (sp_isSign 45 _ _ _ _) ⟨by decide, by decide, by decide, by decide⟩ (Nat.le_of_ble_eq_true rfl) (ax_dec2 (i := .invokevirtual 108) (n := 3) ok_X11_readE rfl) (fun r M' hq => ?_)
          obtain ⟨rfl, rfl⟩ := hq
          change ax_J _ _ _ _ _ _ _ _ _ 106 [some (.inr (.inr (some (50, 0)))), some (.inl row), some (.inl 1), some (.inl (bI (vm = true))), none] [.inl (bI (g1 50 0 15 = 4 ∧ g1 50 0 16 = 45))] (P, g1, r0, n)
          rw [yT_sg (h := g1) hk (by decide)]
          change ax_J _ _ _ _ _ _ _ _ _ 106 [some (.inr (.inr (some (50, 0)))), some (.inl row), some (.inl 1), some (.inl (bI (vm = true))), none] [.inl (bI (t = 45))] (P, g1, r0, n)
          refine aj_run (C := True) (pc' := 110) (la' := [some (.inr (.inr (some (50, 0)))), some (.inl row), some (.inl 1), some (.inl (bI (vm = true))), some (.inl (bI (t = 45)))]) (st' := [.inl (bI (vm = true)), .inr (.inr (some (50, 0)))]) (M' := (P, g1, r0, n)) ok_X11_readE true 3 rfl trivial ?_
          refine aj_callV (av := [.inl (bI (vm = true))]) (st := []) (f := 50) (o := 0) (ci := 11) cal_X11_ahead lk_11_127 ins_X11_ahead rfl sel_X11_ahead rfl (fun c9 h9 _ => by simpa [ax_ok] using h9) (sp_ahead vm t v row vw ve vo vn vc _ _ _ _ hn hr a3 hk hy) ⟨by decide, by decide, by decide, by decide⟩ (Nat.le_of_ble_eq_true rfl) (ax_dec2 (i := .invokevirtual 127) (n := 3) ok_X11_readE rfl) (fun r M' hq => ?_)
          obtain ⟨g3, rfl, fr3, ⟨rfl, hsa, hM3⟩ | ⟨rfl, hsa, hg3⟩⟩ := hq
          · change ax_J _ _ _ _ _ _ _ _ _ 113 [some (.inr (.inr (some (50, 0)))), some (.inl row), some (.inl 1), some (.inl (bI (vm = true))), some (.inl (bI (t = 45)))] [.inl 1] (P, g3, r0, n)
            refine aj_if_ne (tgt := 118) (ax_dec2 (i := .ifCond .ne 5) (n := 3) ok_X11_readE rfl) (by decide) (fun c21 => ?_) (fun c21 => ?_)
            · refine aj_run (C := True) (pc' := 120) (la' := [some (.inr (.inr (some (50, 0)))), some (.inl row), some (.inl 1), some (.inl (bI (vm = true))), some (.inl (bI (t = 45)))]) (st' := [.inl (bI (t = 45))]) (M' := (P, g3, r0, n)) ok_X11_readE true 1 rfl trivial ?_
              refine aj_if_ne (tgt := 127) (ax_dec2 (i := .ifCond .ne 7) (n := 3) ok_X11_readE rfl) (by decide) (fun c22 => ?_) (fun c22 => ?_)
              · replace c22 := bI_n0 c22
                refine aj_run (C := True) (pc' := 208) (la' := [some (.inr (.inr (some (50, 0)))), some (.inl row), some (.inl 1), some (.inl 0), some (.inl (bI (t = 45)))]) (st' := []) (M' := (P, g3, r0, n)) ok_X11_readE true 3 rfl trivial ?_
                have hst : yStep (tT (g 108 0) (g 50 0 9)) (tV (g 108 0) (g 50 0 9)) (vi, (va, vm), (vw, ve, vo), vn, vc) = some (vi + 1, (true, (decide (t ≠ 45))), (((if t = 40 then 30 else if t = 10 then 12 else 18) :: vw), ve, (vo + 1)), (if t = 40 then vn + 1 else vn), (if t = 40 then wUp vc (vn + 1) 0 else vc)) := by
                  rw [hva]
                  show yStp (tT (g 108 0) (g 50 0 9)) (tV (g 108 0) (g 50 0 9)) vi true vm vw ve vo vn vc = _
                  unfold yStp
                  rw [if_pos rfl, ← ht0, if_neg ht23, if_pos hsa]
                have frA : cFr (TR row) g3 g1 := fun f q j z => fr3 f q j (fun y => z (Or.inr (Or.inl y)))
                have hi6 : vi + 1 ≤ tkN (g 108 0) (g 50 0 9) := by
                  by_cases ce : vi = tkN (g 108 0) (g 50 0 9)
                  · exact absurd hst (by rw [yStep_0 (by show tT _ _ vi = 0; rw [ce]; exact tT_N ht.1)]; simp)
                  · omega
                have b108x : g3 108 0 = g 108 0 := (funext fun q => frA 108 0 q (by unfold TR TN TY; omega)).trans b108
                have b9x : g3 50 0 9 = g 50 0 9 := (frA 50 0 9 (by unfold TR TN TY; omega)).trans b9
                have hl5 : mLtr g3 := mLtr_fr (fun f hf j => frA f 0 j (by unfold TR TN TY; omega)) hl1
                have h14x : g3 50 0 14 = g1 50 0 14 := fr3 50 0 14 (by unfold TY; omega)
                refine aj_run (C := True) (pc' := 209) (la' := [some (.inr (.inr (some (50, 0)))), some (.inl row), some (.inl 1), some (.inl 0), some (.inl (bI (t = 45)))]) (st' := [.inr (.inr (some (50, 0)))]) (M' := (P, g3, r0, n)) ok_X11_readE true 1 rfl trivial ?_
                refine aj_callV (av := []) (st := []) (f := 50) (o := 0) (ci := 11) cal_X11_next lk_11_141 ins_X11_next rfl sel_X11_next rfl (fun c9 h9 _ => by simpa [ax_ok] using h9) (sp_next (vi + 1) _ _ _ _ hn (by rw [b9x]; exact ht) hl5 (by omega) (by rw [b108x, b9x]; exact yAt_fr h14x a2.2.1)) ⟨by decide, by decide, by decide, by decide⟩ (Nat.le_of_ble_eq_true rfl) (ax_dec2 (i := .invokevirtual 141) (n := 3) ok_X11_readE rfl) (fun r M' hq => ?_)
                obtain ⟨rfl, g6, rfl, fr6, hx6⟩ := hq
                rw [b108x, b9x] at hx6
                change ax_J _ _ _ _ _ _ _ _ _ 212 [some (.inr (.inr (some (50, 0)))), some (.inl row), some (.inl 1), some (.inl 0), some (.inl (bI (t = 45)))] [] (P, g6, r0, n)
                refine aj_run (C := True) (pc' := 40) (la' := [some (.inr (.inr (some (50, 0)))), some (.inl row), some (.inl 1), some (.inl 0), some (.inl (bI (t = 45)))]) (st' := []) (M' := (P, g6, r0, n)) ok_X11_readE true 1 rfl trivial ?_
                refine aj_cast (congrArg (fun (z9 : Int) => ([some (.inr (.inr (some (50, 0)))), some (.inl row), some (.inl z9), some (.inl 0), some (.inl (bI (t = 45)))] : List (Option ax_V))) (show 1 = bI (true = true) from by first | rfl | exact (bI_t (by assumption)).symm | exact (bI_f (by assumption)).symm)) rfl rfl ?_
                refine aj_cast (congrArg (fun (z9 : Int) => ([some (.inr (.inr (some (50, 0)))), some (.inl row), some (.inl (bI (true = true))), some (.inl z9), some (.inl (bI (t = 45)))] : List (Option ax_V))) (show 0 = bI ((decide (t ≠ 45)) = true) from by first | rfl | exact (bI_t (decide_eq_true (by omega))).symm | exact (bI_f (by rw [decide_eq_true_iff]; omega)).symm)) rfl rfl ?_
                refine aj_forget (la' := [some (.inr (.inr (some (50, 0)))), some (.inl row), some (.inl (bI (true = true))), some (.inl (bI ((decide (t ≠ 45)) = true))), none]) (by simp [ax_fg]) ?_
                refine ih40 ((vi + 1), true, (decide (t ≠ 45)), ((if t = 40 then 30 else if t = 10 then 12 else 18) :: vw), ve, (vo + 1), (if t = 40 then vn + 1 else vn), (if t = 40 then wUp vc (vn + 1) 0 else vc), g6) ?_ ?_
                · (try dsimp only); exact ⟨fun f q j z => (fr6 f q j (fun y => z (Or.inl y))).trans ((frA f q j z).trans (a1 f q j z)), hx6, yM_fr fr6 hM3, yRe_t a4 (yRe_s hst yRe_0), (yIv_s hst a5).1, hi6⟩
                · (show (161 - (vi + 1)).toNat < (161 - vi).toNat; omega)
              · replace c22 := bI_e0 c22
                refine aj_run (C := True) (pc' := 208) (la' := [some (.inr (.inr (some (50, 0)))), some (.inl row), some (.inl 1), some (.inl 1), some (.inl (bI (t = 45)))]) (st' := []) (M' := (P, g3, r0, n)) ok_X11_readE true 4 rfl trivial ?_
                have hst : yStep (tT (g 108 0) (g 50 0 9)) (tV (g 108 0) (g 50 0 9)) (vi, (va, vm), (vw, ve, vo), vn, vc) = some (vi + 1, (true, (decide (t ≠ 45))), (((if t = 40 then 30 else if t = 10 then 12 else 18) :: vw), ve, (vo + 1)), (if t = 40 then vn + 1 else vn), (if t = 40 then wUp vc (vn + 1) 0 else vc)) := by
                  rw [hva]
                  show yStp (tT (g 108 0) (g 50 0 9)) (tV (g 108 0) (g 50 0 9)) vi true vm vw ve vo vn vc = _
                  unfold yStp
                  rw [if_pos rfl, ← ht0, if_neg ht23, if_pos hsa]
                have frA : cFr (TR row) g3 g1 := fun f q j z => fr3 f q j (fun y => z (Or.inr (Or.inl y)))
                have hi6 : vi + 1 ≤ tkN (g 108 0) (g 50 0 9) := by
                  by_cases ce : vi = tkN (g 108 0) (g 50 0 9)
                  · exact absurd hst (by rw [yStep_0 (by show tT _ _ vi = 0; rw [ce]; exact tT_N ht.1)]; simp)
                  · omega
                have b108x : g3 108 0 = g 108 0 := (funext fun q => frA 108 0 q (by unfold TR TN TY; omega)).trans b108
                have b9x : g3 50 0 9 = g 50 0 9 := (frA 50 0 9 (by unfold TR TN TY; omega)).trans b9
                have hl5 : mLtr g3 := mLtr_fr (fun f hf j => frA f 0 j (by unfold TR TN TY; omega)) hl1
                have h14x : g3 50 0 14 = g1 50 0 14 := fr3 50 0 14 (by unfold TY; omega)
                refine aj_run (C := True) (pc' := 209) (la' := [some (.inr (.inr (some (50, 0)))), some (.inl row), some (.inl 1), some (.inl 1), some (.inl (bI (t = 45)))]) (st' := [.inr (.inr (some (50, 0)))]) (M' := (P, g3, r0, n)) ok_X11_readE true 1 rfl trivial ?_
                refine aj_callV (av := []) (st := []) (f := 50) (o := 0) (ci := 11) cal_X11_next lk_11_141 ins_X11_next rfl sel_X11_next rfl (fun c9 h9 _ => by simpa [ax_ok] using h9) (sp_next (vi + 1) _ _ _ _ hn (by rw [b9x]; exact ht) hl5 (by omega) (by rw [b108x, b9x]; exact yAt_fr h14x a2.2.1)) ⟨by decide, by decide, by decide, by decide⟩ (Nat.le_of_ble_eq_true rfl) (ax_dec2 (i := .invokevirtual 141) (n := 3) ok_X11_readE rfl) (fun r M' hq => ?_)
                obtain ⟨rfl, g6, rfl, fr6, hx6⟩ := hq
                rw [b108x, b9x] at hx6
                change ax_J _ _ _ _ _ _ _ _ _ 212 [some (.inr (.inr (some (50, 0)))), some (.inl row), some (.inl 1), some (.inl 1), some (.inl (bI (t = 45)))] [] (P, g6, r0, n)
                refine aj_run (C := True) (pc' := 40) (la' := [some (.inr (.inr (some (50, 0)))), some (.inl row), some (.inl 1), some (.inl 1), some (.inl (bI (t = 45)))]) (st' := []) (M' := (P, g6, r0, n)) ok_X11_readE true 1 rfl trivial ?_
                refine aj_cast (congrArg (fun (z9 : Int) => ([some (.inr (.inr (some (50, 0)))), some (.inl row), some (.inl z9), some (.inl 1), some (.inl (bI (t = 45)))] : List (Option ax_V))) (show 1 = bI (true = true) from by first | rfl | exact (bI_t (by assumption)).symm | exact (bI_f (by assumption)).symm)) rfl rfl ?_
                refine aj_cast (congrArg (fun (z9 : Int) => ([some (.inr (.inr (some (50, 0)))), some (.inl row), some (.inl (bI (true = true))), some (.inl z9), some (.inl (bI (t = 45)))] : List (Option ax_V))) (show 1 = bI ((decide (t ≠ 45)) = true) from by first | rfl | exact (bI_t (decide_eq_true (by omega))).symm | exact (bI_f (by rw [decide_eq_true_iff]; omega)).symm)) rfl rfl ?_
                refine aj_forget (la' := [some (.inr (.inr (some (50, 0)))), some (.inl row), some (.inl (bI (true = true))), some (.inl (bI ((decide (t ≠ 45)) = true))), none]) (by simp [ax_fg]) ?_
                refine ih40 ((vi + 1), true, (decide (t ≠ 45)), ((if t = 40 then 30 else if t = 10 then 12 else 18) :: vw), ve, (vo + 1), (if t = 40 then vn + 1 else vn), (if t = 40 then wUp vc (vn + 1) 0 else vc), g6) ?_ ?_
                · (try dsimp only); exact ⟨fun f q j z => (fr6 f q j (fun y => z (Or.inl y))).trans ((frA f q j z).trans (a1 f q j z)), hx6, yM_fr fr6 hM3, yRe_t a4 (yRe_s hst yRe_0), (yIv_s hst a5).1, hi6⟩
                · (show (161 - (vi + 1)).toNat < (161 - vi).toNat; omega)
            · exact absurd c21 (by omega)
          · rw [hg3]
            change ax_J _ _ _ _ _ _ _ _ _ 113 [some (.inr (.inr (some (50, 0)))), some (.inl row), some (.inl 1), some (.inl (bI (vm = true))), some (.inl (bI (t = 45)))] [.inl 0] (P, g1, r0, n)
            refine aj_if_ne (tgt := 118) (ax_dec2 (i := .ifCond .ne 5) (n := 3) ok_X11_readE rfl) (by decide) (fun c23 => ?_) (fun c23 => ?_)
            · exact absurd c23 (by omega)
            · refine aj_run (C := True) (pc' := 117) (la' := [some (.inr (.inr (some (50, 0)))), some (.inl row), some (.inl 1), some (.inl (bI (vm = true))), some (.inl (bI (t = 45)))]) (st' := [.inl 0]) (M' := (P, g1, r0, n)) ok_X11_readE true 1 rfl trivial ?_
              refine aj_ret (r := some (.inl 0)) (ax_dec2 (i := .ireturn) (n := 1) ok_X11_readE rfl) ⟨?_, ?_, by decide, by decide⟩ rfl
              · exact ⟨g1, (vi, (va, vm), (vw, ve, vo), vn, vc), rfl, a1, a4, by rw [hva]; show yStp (tT (g 108 0) (g 50 0 9)) (tV (g 108 0) (g 50 0 9)) vi true vm vw ve vo vn vc = none; unfold yStp; rw [if_pos rfl, ← ht0, if_neg ht23, if_neg hsa], a2, ⟨hi0, a6⟩, Or.inr ⟨rfl, fun z => by have := hva.symm.trans z.1; cases this⟩⟩
              · exact Or.inl rfl
      · refine aj_run (C := True) (pc' := 66) (la' := [some (.inr (.inr (some (50, 0)))), some (.inl row), some (.inl 1), some (.inl (bI (vm = true))), none]) (st' := [.inl 1, .inl (g1 50 0 15), .inr (.inr (some (50, 0)))]) (M' := (P, g1, r0, n)) ok_X11_readE true 4 rfl trivial ?_
        refine aj_icmp_ne (tgt := 78) (ax_dec2 (i := .if_icmp .ne 12) (n := 3) ok_X11_readE rfl) (by decide) (fun c24 => ?_) (fun c24 => ?_)
        · refine aj_run (C := True) (pc' := 82) (la' := [some (.inr (.inr (some (50, 0)))), some (.inl row), some (.inl 1), some (.inl (bI (vm = true))), none]) (st' := [.inl (g1 50 0 16), .inr (.inr (some (50, 0)))]) (M' := (P, g1, r0, n)) ok_X11_readE true 2 rfl trivial ?_
          refine aj_callV (av := [.inl (g1 50 0 16)]) (st := []) (f := 50) (o := 0) (ci := 11) cal_X11_emit lk_11_104 ins_X11_emit rfl sel_X11_emit rfl (fun c9 h9 _ => by simpa [ax_ok] using h9) (sp_emit (g1 50 0 16) row vw ve vo vn vc _ _ _ _ hn hr a3 (by omega)) ⟨by decide, by decide, by decide, by decide⟩ (Nat.le_of_ble_eq_true rfl) (ax_dec2 (i := .invokevirtual 104) (n := 3) ok_X11_readE rfl) (fun r M' hq => ?_)
          obtain ⟨rfl, g3, rfl, fr3, hM3⟩ := hq
          change ax_J _ _ _ _ _ _ _ _ _ 85 [some (.inr (.inr (some (50, 0)))), some (.inl row), some (.inl 1), some (.inl (bI (vm = true))), none] [] (P, g3, r0, n)
          have hel : (ve ++ [g1 50 0 16]).length = ve.length + 1 := List.length_append
          refine aj_run (C := True) (pc' := 88) (la' := [some (.inr (.inr (some (50, 0)))), some (.inl row), some (.inl 1), some (.inl (bI (vm = true))), none]) (st' := [.inl 7, .inr (.inr (some (50, 0)))]) (M' := (P, g3, r0, n)) ok_X11_readE true 2 rfl trivial ?_
          refine aj_callV (av := [.inl 7]) (st := []) (f := 50) (o := 0) (ci := 11) cal_X11_doAll lk_11_121 ins_X11_doAll rfl sel_X11_doAll rfl (fun c9 h9 _ => by simpa [ax_ok] using h9) (sp_doAll 7 row vw (ve ++ [g1 50 0 16]) vo vn vc _ _ _ _ hn hr hM3 (by omega) (by omega)) ⟨by decide, by decide, by decide, by decide⟩ (Nat.le_of_ble_eq_true rfl) (ax_dec2 (i := .invokevirtual 121) (n := 3) ok_X11_readE rfl) (fun r M' hq => ?_)
          obtain ⟨rfl, g4, rfl, fr4, hM4⟩ := hq
          change ax_J _ _ _ _ _ _ _ _ _ 91 [some (.inr (.inr (some (50, 0)))), some (.inl row), some (.inl 1), some (.inl (bI (vm = true))), none] [] (P, g4, r0, n)
          refine aj_run (C := True) (pc' := 208) (la' := [some (.inr (.inr (some (50, 0)))), some (.inl row), some (.inl 0), some (.inl (bI (vm = true))), none]) (st' := []) (M' := (P, g4, r0, n)) ok_X11_readE true 3 rfl trivial ?_
          have hst : yStep (tT (g 108 0) (g 50 0 9)) (tV (g 108 0) (g 50 0 9)) (vi, (va, vm), (vw, ve, vo), vn, vc) = some (vi + 1, (false, vm), ((yPop 7 vw (ve ++ [g1 50 0 16]) vo).1, (yPop 7 vw (ve ++ [g1 50 0 16]) vo).2.1, (yPop 7 vw (ve ++ [g1 50 0 16]) vo).2.2), vn, vc) := by
            rw [hva]
            show yStp (tT (g 108 0) (g 50 0 9)) (tV (g 108 0) (g 50 0 9)) vi true vm vw ve vo vn vc = _
            unfold yStp
            rw [if_pos rfl, ← ht0, ← hv0, if_pos (show t = 2 ∨ t = 3 by omega)]; (first | rw [if_pos (show t = 2 by omega)] | rw [if_neg (show ¬ t = 2 by omega)]); rw [h16 (by omega)]
          have frA : cFr (TR row) g4 g1 := fun f q j z => (fr4 f q j (fun y => z (Or.inr (Or.inl y)))).trans (fr3 f q j (fun y => z (Or.inr (Or.inl y))))
          have hi6 : vi + 1 ≤ tkN (g 108 0) (g 50 0 9) := by
            by_cases ce : vi = tkN (g 108 0) (g 50 0 9)
            · exact absurd hst (by rw [yStep_0 (by show tT _ _ vi = 0; rw [ce]; exact tT_N ht.1)]; simp)
            · omega
          have b108x : g4 108 0 = g 108 0 := (funext fun q => frA 108 0 q (by unfold TR TN TY; omega)).trans b108
          have b9x : g4 50 0 9 = g 50 0 9 := (frA 50 0 9 (by unfold TR TN TY; omega)).trans b9
          have hl5 : mLtr g4 := mLtr_fr (fun f hf j => frA f 0 j (by unfold TR TN TY; omega)) hl1
          have h14x : g4 50 0 14 = g1 50 0 14 := (fr4 50 0 14 (by unfold TY; omega)).trans (fr3 50 0 14 (by unfold TY; omega))
          refine aj_run (C := True) (pc' := 209) (la' := [some (.inr (.inr (some (50, 0)))), some (.inl row), some (.inl 0), some (.inl (bI (vm = true))), none]) (st' := [.inr (.inr (some (50, 0)))]) (M' := (P, g4, r0, n)) ok_X11_readE true 1 rfl trivial ?_
          refine aj_callV (av := []) (st := []) (f := 50) (o := 0) (ci := 11) cal_X11_next lk_11_141 ins_X11_next rfl sel_X11_next rfl (fun c9 h9 _ => by simpa [ax_ok] using h9) (sp_next (vi + 1) _ _ _ _ hn (by rw [b9x]; exact ht) hl5 (by omega) (by rw [b108x, b9x]; exact yAt_fr h14x a2.2.1)) ⟨by decide, by decide, by decide, by decide⟩ (Nat.le_of_ble_eq_true rfl) (ax_dec2 (i := .invokevirtual 141) (n := 3) ok_X11_readE rfl) (fun r M' hq => ?_)
          obtain ⟨rfl, g6, rfl, fr6, hx6⟩ := hq
          rw [b108x, b9x] at hx6
          change ax_J _ _ _ _ _ _ _ _ _ 212 [some (.inr (.inr (some (50, 0)))), some (.inl row), some (.inl 0), some (.inl (bI (vm = true))), none] [] (P, g6, r0, n)
          refine aj_run (C := True) (pc' := 40) (la' := [some (.inr (.inr (some (50, 0)))), some (.inl row), some (.inl 0), some (.inl (bI (vm = true))), none]) (st' := []) (M' := (P, g6, r0, n)) ok_X11_readE true 1 rfl trivial ?_
          refine aj_cast (congrArg (fun (z9 : Int) => ([some (.inr (.inr (some (50, 0)))), some (.inl row), some (.inl z9), some (.inl (bI (vm = true))), none] : List (Option ax_V))) (show 0 = bI (false = true) from by first | rfl | exact (bI_t (by assumption)).symm | exact (bI_f (by assumption)).symm)) rfl rfl ?_
          refine ih40 ((vi + 1), false, vm, (yPop 7 vw (ve ++ [g1 50 0 16]) vo).1, (yPop 7 vw (ve ++ [g1 50 0 16]) vo).2.1, (yPop 7 vw (ve ++ [g1 50 0 16]) vo).2.2, vn, vc, g6) ?_ ?_
          · (try dsimp only); exact ⟨fun f q j z => (fr6 f q j (fun y => z (Or.inl y))).trans ((frA f q j z).trans (a1 f q j z)), hx6, yM_fr fr6 hM4, yRe_t a4 (yRe_s hst yRe_0), (yIv_s hst a5).1, hi6⟩
          · (show (161 - (vi + 1)).toNat < (161 - vi).toNat; omega)
        · exact absurd c24 (by omega)

