/-! ===== the law, from its entry ===== -/
theorem mdR_n {r : Nat → Int → Int → Option (Nat × Int)} {f : Nat} {o j : Int} (h : f ≠ 1050) : mdR r f o j = r f o j := by
  unfold mdR
  iterate 35 rw [ax_u3_n (by omega)]
theorem dpR_0 {D : Nat → Int → Bool} {r : Nat → Int → Int → Option (Nat × Int)} {f : Nat} {o j : Int} (h : r f o j = none) : dpR D r f o j = none := by
  unfold dpR
  rw [h]
set_option maxRecDepth 100000 in
set_option maxHeartbeats 4000000 in
theorem lw_body {L : Nat} {xs : Nat → Int32} (hL : L ≤ 3072) : ax_J 12 code 4 (some (L, xs)) room_1 pW lwQ 0 0 0 [some (.inr (.inr (some (90, 0)))), none, none, none] [] (pW, (fun (_ : Nat) (_ _ : Int) => (0 : Int)), (fun (_ : Nat) (_ _ : Int) => (none : Option (Nat × Int))), nT) := by
  have hndW : ax_nd (pW, (fun (_ : Nat) (_ _ : Int) => (0 : Int)), (fun (_ : Nat) (_ _ : Int) => (none : Option (Nat × Int))), nT) := fun f o j q _ h => by cases h
  have hraw : ¬ pW 1001 0 := fun z => by unfold pW at z; omega
  refine aj_new (ci := 10) (f := 1001) (o := 0) rfl rfl (by decide) (by decide) (ax_T1 (i := 21) (by decide +kernel) rfl) (ax_T1 (i := 22) (by decide +kernel) rfl) (ax_T1 (i := 1) (by decide +kernel) rfl) hraw hndW ⟨by decide, by decide⟩ (ax_dec2 (i := .new 7) (n := 3) ok_L_law rfl) ?_
  change ax_J _ _ _ _ _ _ _ _ _ 3 [some (.inr (.inr (some (90, 0)))), none, none, none] [.inr (.inr (some (1001, 0)))] (mkP pW 1001 0, mkG (fun (_ : Nat) (_ _ : Int) => (0 : Int)) 1001 0, mkR (fun (_ : Nat) (_ _ : Int) => (none : Option (Nat × Int))) 1001 0, mkN nT 1001 0 10)
  rw [mkG_e (g := (fun (_ : Nat) (_ _ : Int) => (0 : Int))) (fun _ => rfl), mkR_e (r := (fun (_ : Nat) (_ _ : Int) => (none : Option (Nat × Int)))) (fun _ => rfl), mkN_e (show nT 1001 0 = 10 from rfl)]
  have nd1 : ax_nd (mkP pW 1001 0, (fun (_ : Nat) (_ _ : Int) => (0 : Int)), (fun (_ : Nat) (_ _ : Int) => (none : Option (Nat × Int))), nT) := fun f o j q _ h => by cases h
  refine aj_run (C := True) (pc' := 4) (la' := [some (.inr (.inr (some (90, 0)))), none, none, none]) (st' := [.inr (.inr (some (1001, 0))), .inr (.inr (some (1001, 0)))]) (M' := (mkP pW 1001 0, (fun (_ : Nat) (_ _ : Int) => (0 : Int)), (fun (_ : Nat) (_ _ : Int) => (none : Option (Nat × Int))), nT)) ok_L_law true 1 rfl trivial ?_
  have hS0 : cStr (mkP pW 1001 0) := ⟨fun k z1 z2 => ⟨Or.inr (Or.inr (Or.inl ⟨Or.inl rfl, z1, z2⟩)), Or.inr (Or.inr (Or.inl ⟨Or.inr rfl, z1, z2⟩))⟩, Or.inr (Or.inr (Or.inr ⟨rfl, rfl⟩))⟩
  have hp0 : ∀ (f : Nat) (o : Int), mkP pW 1001 0 f o → f = 1001 ∨ (90 ≤ f ∧ f ≤ 93) := fun f o z => by
    rcases z with z | z
    · omega
    · unfold pW at z
      omega
  refine aj_callI (av := []) (st := [.inr (.inr (some (1001, 0)))]) (f := 1001) (o := 0) cal_X10_init rfl lk_12_9 ins_X10_init (cp_X10_init _ _ _ _ hp0 hS0 (fun _ _ _ => rfl) (fun _ _ _ => rfl) nT_X nd1) ⟨by decide, by decide, by decide, by decide⟩ (Nat.le_of_ble_eq_true rfl) (ax_dec2 (i := .invokespecial 9) (n := 3) ok_L_law rfl) (fun r M' hq => ?_)
  obtain ⟨rfl, P1, g1, r1, n1, rfl, hx⟩ := hq
  change ax_J _ _ _ _ _ _ _ _ _ 7 [some (.inr (.inr (some (90, 0)))), none, none, none] [.inr (.inr (some (1001, 0)))] (P1, g1, r1, n1)
  have hPa : ∀ f o, mkP pW 1001 0 f o ↔ (pW f o ∨ (f = 1001 ∧ o = 0)) := fun f o => ⟨Or.symm, Or.symm⟩
  have hm : P1 1001 0 := (hx.1 1001 0).mpr (Or.inl (Or.inl (Or.inl (Or.inl ⟨rfl, rfl⟩))))
  have hpW1 : ∀ f o, pW f o → P1 f o := fun f o z => (hx.1 f o).mpr (Or.inl (Or.inl (Or.inl (Or.inr z))))
  have hb : ∀ (f : Nat) (o : Int), P1 f o → f = 1001 ∨ (90 ≤ f ∧ f ≤ 93) ∨ fX f o ∨ f = 4 ∨ f = 402 ∨ f = 6 ∨ (600 ≤ f ∧ f ≤ 604) := fun f o z => by
    rcases (hx.1 f o).mp z with ((w | w) | w) | w
    · have := hp0 f o w
      omega
    · exact Or.inr (Or.inr (Or.inl w))
    · omega
    · omega
  have hc : ∀ (f : Nat) (o : Int), P1 f o → ¬ (f = 1 ∨ f = 50 ∨ (94 ≤ f ∧ f ≤ 199) ∨ f = 999 ∨ f = 1050) := fun f o z => by
    have := hb f o z
    unfold fX at this
    omega
  have nd9 := hx.2.2.2.2.2
  refine aj_nameD (f := 1) (o := 0) (by decide) rfl hm (fun z => hc _ _ z (by omega)) hpW1 hraw (fun z => hc _ _ z (by omega)) nd9 ?_ (by rw [hx.2.1 1 0 (by omega), hx.2.1 (1 + 1000) 0 (by omega)]; rfl) ?_ (fun v hv => by cases hv) ?_
  · intro k9 h8 h9
    have hk9 : k9 = 2 ∨ k9 = 3 := by
      have e9 : ∀ q : Nat, q < 10 → ax_isA 1 q = true → q = 2 ∨ q = 3 := by decide
      exact e9 k9 h9 h8
    have hr := hx.2.2.2.2.1.1
    rcases hk9 with rfl | rfl
    · exact ⟨hr.2.2.1, (hx.1 702 0).mpr (Or.inl (Or.inl (Or.inr (by unfold fX; omega))))⟩
    · exact ⟨hr.2.2.2, (hx.1 703 0).mpr (Or.inl (Or.inl (Or.inr (by unfold fX; omega))))⟩
  · intro v hv
    simp only [List.mem_cons, Option.some.injEq, List.not_mem_nil, or_false, reduceCtorEq, false_or] at hv
    subst hv
    exact ⟨rfl, (dn_i (by decide)).mpr (Or.inr ⟨hpW1 90 0 (Or.inl ⟨rfl, rfl⟩), by omega⟩)⟩
  have nd2 : ax_nd (dpP (dN 1 0) (rnP P1 1 0), rnG g1 1 0, dpR (dN 1 0) (rnR r1 1 0), n1) := nd_nm nd9 hm
  obtain ⟨PA, hPA⟩ : ∃ x, x = dpP (dN 1 0) (rnP P1 1 0) := ⟨_, rfl⟩
  obtain ⟨gA, hgA⟩ : ∃ x, x = rnG g1 1 0 := ⟨_, rfl⟩
  obtain ⟨rA, hrA⟩ : ∃ x, x = dpR (dN 1 0) (rnR r1 1 0) := ⟨_, rfl⟩
  rw [← hPA, ← hgA, ← hrA] at nd2 ⊢
  have hPi : ∀ f o, PA f o ↔ ((f = 1 ∧ o = 0) ∨ (P1 f o ∧ ¬ (f = 1001 ∧ o = 0))) := fun f o => by rw [hPA]; exact dn_i (by decide)
  have hcA : ∀ (f : Nat) (o : Int), PA f o → ¬ (f = 50 ∨ (94 ≤ f ∧ f ≤ 199) ∨ f = 999 ∨ f = 1050) := fun f o z => by
    rcases (hPi f o).mp z with y | y
    · omega
    · have := hc f o y.1
      omega
  have hpWA : ∀ f o, pW f o → PA f o := fun f o z => (hPi f o).mpr (Or.inr ⟨hpW1 f o z, fun y => hraw (by rw [← y.1, ← y.2]; exact z)⟩)
  have hgz : ∀ (f : Nat) (j : Int), (100 ≤ f ∧ f ≤ 158) ∨ f = 1050 → gA f 0 j = 0 := fun f j z => by
    rw [hgA, rnG_n (by omega)]
    exact hx.2.2.2.1.2.2.2 f 0 j (by omega)
  have hrz : ∀ (f : Nat) (j : Int), (100 ≤ f ∧ f ≤ 158) ∨ f = 1050 → rA f 0 j = none := fun f j z => by
    rw [hrA]
    exact dpR_0 (by rw [rnR_n (by omega)]; exact hx.2.2.2.2.1.2.2.2 f 0 j (by omega))
  have hnz : ∀ (f : Nat), ¬ (f = 6 ∨ (600 ≤ f ∧ f ≤ 604) ∨ f = 1006) → n1 f 0 = nT f 0 := fun f z => hx.2.1 f 0 (by omega)
  change ax_J _ _ _ _ _ _ _ _ _ 7 [some (.inr (.inr (some (90, 0)))), none, none, none] [.inr (.inr (some (1, 0)))] (PA, gA, rA, n1)
  refine aj_run (C := True) (pc' := 8) (la' := [some (.inr (.inr (some (90, 0)))), some (.inr (.inr (some (1, 0)))), none, none]) (st' := []) (M' := (PA, gA, rA, n1)) ok_L_law true 1 rfl trivial ?_
  refine aj_new (ci := 11) (f := 1050) (o := 0) rfl rfl (by decide) (by decide) (ax_T5 (i := 160) (by decide +kernel) rfl) (ax_T5 (i := 74) (by decide +kernel) rfl) (ax_T1 (i := 13) (by decide +kernel) rfl) (fun z => hcA _ _ z (by omega)) nd2 ⟨by decide, by decide⟩ (ax_dec2 (i := .new 10) (n := 3) ok_L_law rfl) ?_
  change ax_J _ _ _ _ _ _ _ _ _ 11 [some (.inr (.inr (some (90, 0)))), some (.inr (.inr (some (1, 0)))), none, none] [.inr (.inr (some (1050, 0)))] (mkP PA 1050 0, mkG gA 1050 0, mkR rA 1050 0, mkN n1 1050 0 11)
  rw [mkG_e (g := gA) (fun j => hgz 1050 j (Or.inr rfl)), mkR_e (r := rA) (fun j => hrz 1050 j (Or.inr rfl)), mkN_e (n := n1) (show n1 1050 0 = 11 from hnz 1050 (by omega))]
  have nd3 : ax_nd (mkP PA 1050 0, gA, rA, n1) := nd_p nd2 (fun j => hrz 1050 j (Or.inr rfl))
  refine aj_run (C := True) (pc' := 12) (la' := [some (.inr (.inr (some (90, 0)))), some (.inr (.inr (some (1, 0)))), none, none]) (st' := [.inr (.inr (some (1050, 0))), .inr (.inr (some (1050, 0)))]) (M' := (mkP PA 1050 0, gA, rA, n1)) ok_L_law true 1 rfl trivial ?_
  refine aj_callI (av := []) (st := [.inr (.inr (some (1050, 0)))]) (f := 1050) (o := 0) cal_X11_init rfl lk_12_12 ins_X11_init (cp_X11_init _ _ _ _ (fun f z1 z2 => mkP_n (fun y => by omega) (fun y => hcA _ _ y (by omega))) nd3 ⟨fun f j z1 z2 => hgz f j (Or.inl ⟨z1, z2⟩), fun f j z1 z2 => hrz f j (Or.inl ⟨z1, z2⟩), trivial⟩ (show n1 103 0 = 7 from hnz 103 (by omega)) (show n1 104 0 = 7 from hnz 104 (by omega)) (show n1 105 0 = 7 from hnz 105 (by omega)) (show n1 106 0 = 7 from hnz 106 (by omega)) (show n1 107 0 = 7 from hnz 107 (by omega)) (show n1 108 0 = 160 from hnz 108 (by omega)) (show n1 112 0 = 2880 from hnz 112 (by omega)) (show n1 113 0 = 18 from hnz 113 (by omega)) (show n1 118 0 = 50 from hnz 118 (by omega)) (show n1 119 0 = 13 from hnz 119 (by omega)) (show n1 120 0 = 170 from hnz 120 (by omega)) (show n1 124 0 = 8 from hnz 124 (by omega)) (show n1 127 0 = 170 from hnz 127 (by omega)) (show n1 128 0 = 6 from hnz 128 (by omega)) (show n1 129 0 = 7 from hnz 129 (by omega)) (show n1 130 0 = 7 from hnz 130 (by omega)) (show n1 131 0 = 7 from hnz 131 (by omega)) (show n1 132 0 = 7 from hnz 132 (by omega)) (show n1 133 0 = 7 from hnz 133 (by omega)) (show n1 134 0 = 7 from hnz 134 (by omega)) (show n1 135 0 = 7 from hnz 135 (by omega)) (show n1 136 0 = 7 from hnz 136 (by omega)) (show n1 137 0 = 7 from hnz 137 (by omega)) (show n1 138 0 = 7 from hnz 138 (by omega)) (show n1 143 0 = 7 from hnz 143 (by omega)) (show n1 144 0 = 7 from hnz 144 (by omega)) (show n1 145 0 = 7 from hnz 145 (by omega)) (show n1 151 0 = 7 from hnz 151 (by omega)) (show n1 152 0 = 7 from hnz 152 (by omega)) (show n1 153 0 = 7 from hnz 153 (by omega)) (show n1 154 0 = 7 from hnz 154 (by omega)) (show n1 155 0 = 4 from hnz 155 (by omega)) (show n1 156 0 = 4 from hnz 156 (by omega)) (show n1 157 0 = 160 from hnz 157 (by omega)) (show n1 158 0 = 40 from hnz 158 (by omega))) ⟨by decide, by decide, by decide, by decide⟩ (Nat.le_of_ble_eq_true rfl) (ax_dec2 (i := .invokespecial 12) (n := 3) ok_L_law rfl) (fun r M' hq => ?_)
  obtain ⟨rfl, gm, rfl, m1, m2, m3, m4, m5⟩ := hq
  change ax_J _ _ _ _ _ _ _ _ _ 15 [some (.inr (.inr (some (90, 0)))), some (.inr (.inr (some (1, 0)))), none, none] [.inr (.inr (some (1050, 0)))] (mdP (mkP PA 1050 0), gm, mdR rA, n1)
  have hmi : ∀ f o, mdP (mkP PA 1050 0) f o ↔ (((f = 1050 ∧ o = 0) ∨ PA f o) ∨ (mL f ∧ o = 0)) := fun f o => mdP_i
  have hm50 : mdP (mkP PA 1050 0) 1050 0 := (hmi _ _).mpr (Or.inl (Or.inl ⟨rfl, rfl⟩))
  have hcM : ∀ (f : Nat) (o : Int), mdP (mkP PA 1050 0) f o → ¬ (f = 50 ∨ f = 999) := fun f o z => by
    rcases (hmi f o).mp z with (y | y) | y
    · omega
    · have := hcA f o y
      omega
    · have := mL_b y.1
      omega
  have hpWM : ∀ f o, pW f o → mdP (mkP PA 1050 0) f o := fun f o z => (hmi f o).mpr (Or.inl (Or.inr (hpWA f o z)))
  have ndM : ax_nd (mdP (mkP PA 1050 0), gm, mdR rA, n1) := nd_md nd3 (fun f j z1 z2 => hrz f j (Or.inl ⟨z1, z2⟩))
  refine aj_nameD (f := 50) (o := 0) (by decide) rfl hm50 (fun z => hcM _ _ z (by omega)) hpWM (fun z => by unfold pW at z; omega) (fun z => hcM _ _ z (by omega)) ndM md_A (by rw [hnz 50 (by omega), hnz (50 + 1000) (by omega)]; rfl) ?_ (fun v hv => by cases hv) ?_
  · intro v hv
    simp only [List.mem_cons, Option.some.injEq, List.not_mem_nil, or_false, reduceCtorEq, false_or] at hv
    rcases hv with rfl | rfl
    · exact ⟨rfl, (dn_i (by decide)).mpr (Or.inr ⟨hpWM 90 0 (Or.inl ⟨rfl, rfl⟩), by omega⟩)⟩
    · exact ⟨rfl, (dn_i (by decide)).mpr (Or.inr ⟨(hmi 1 0).mpr (Or.inl (Or.inr ((hPi 1 0).mpr (Or.inl ⟨rfl, rfl⟩)))), by omega⟩)⟩
  have nd4 : ax_nd (dpP (dN 50 0) (rnP (mdP (mkP PA 1050 0)) 50 0), rnG gm 50 0, dpR (dN 50 0) (rnR (mdR rA) 50 0), n1) := nd_nm ndM hm50
  have hP2 : ∀ f o, dpP (dN 50 0) (rnP (mdP (mkP PA 1050 0)) 50 0) f o ↔ (((f = 50 ∧ o = 0) ∨ (f = 1 ∧ o = 0) ∨ (mL f ∧ o = 0)) ∨ (P1 f o ∧ ¬ (f = 1001 ∧ o = 0))) := fun f o => by
    rw [dn_i (by decide), hmi f o, hPi f o]
    constructor
    · rintro (y | ⟨(y | y | y) | y, z⟩)
      · exact Or.inl (Or.inl y)
      · exact absurd y z
      · exact Or.inl (Or.inr (Or.inl y))
      · exact Or.inr y
      · exact Or.inl (Or.inr (Or.inr y))
    · rintro ((y | y | y) | y)
      · exact Or.inl y
      · exact Or.inr ⟨Or.inl (Or.inr (Or.inl y)), by omega⟩
      · have := mL_b y.1
        exact Or.inr ⟨Or.inr y, by omega⟩
      · exact Or.inr ⟨Or.inl (Or.inr (Or.inr y)), fun z => hc f o y.1 (by omega)⟩
  have hI := lw_first hPa hx hgA hrA m1 m2 m3 m4 m5 rfl (fun f o j q z1 z2 z3 z4 => dpR_k (D := dN 50 0) (r := rnR (mdR rA) 50 0) (by rw [rnR_n (by omega), mdR_n z2]; exact z3) (dN_f.mpr (by omega))) hP2 nd4
  refine aj_run (C := True) (pc' := 18) (la' := [some (.inr (.inr (some (90, 0)))), some (.inr (.inr (some (1, 0)))), some (.inr (.inr (some (50, 0)))), some (.inl 0)]) (st' := []) (M' := (dpP (dN 50 0) (rnP (mdP (mkP PA 1050 0)) 50 0), rnG gm 50 0, dpR (dN 50 0) (rnR (mdR rA) 50 0), n1)) ok_L_law true 3 rfl trivial ?_
  refine aj_wide (kc' := 300) (ks' := 20000) (by decide) (by decide) ?_
  exact lw_loop hL hI
