/-! ===== the class is made ===== -/
def nX (n : Nat → Int → Int) : Prop := (n 1002 0 = 2 ∧ n 2 0 = 2 ∧ n 200 0 = 7 ∧ n 209 0 = 896 ∧ n 210 0 = 128 ∧ n 214 0 = 81 ∧ n 215 0 = 81 ∧ n 216 0 = 6) ∧ (n 1003 0 = 8 ∧ n 3 0 = 8 ∧ cTL n) ∧ (n 702 0 = 6 ∧ n 703 0 = 4) ∧ ∀ s, 0 ≤ s → s < 4 → n 1004 s = 5 ∧ n 4 s = 5 ∧ n 402 s = 40
/-- made: all but the rule -/
def fX (f : Nat) (o : Int) : Prop := ((f = 2 ∨ f = 200 ∨ f = 209 ∨ f = 210 ∨ f = 214 ∨ f = 215 ∨ f = 216 ∨ f = 3 ∨ f = 302 ∨ f = 303 ∨ f = 304 ∨ f = 305 ∨ f = 308 ∨ f = 309 ∨ f = 310 ∨ f = 311 ∨ f = 702 ∨ f = 703) ∧ o = 0)
def mdC (h : Nat → Int → Int → Int) : Prop := (h 112 0 0 = -2 ∧ h 112 0 160 = -1 ∧ h 112 0 320 = 4) ∧ h 113 0 0 = 1 ∧ h 113 0 1 = 1 ∧ h 113 0 2 = 1
/-- what the class's constructor leaves: P' g' r' n' behind all nought -/
def cX10 (P : Nat → Int → Prop) (n : Nat → Int → Int) (P' : Nat → Int → Prop) (g' : Nat → Int → Int → Int) (r' : Nat → Int → Int → Option (Nat × Int)) (n' : Nat → Int → Int) : Prop :=
  (∀ (f : Nat) (o : Int), P' f o ↔ ((P f o ∨ fX f o) ∨ ((f = 4 ∨ f = 402) ∧ 0 ≤ o ∧ o < 4)) ∨ ((f = 6 ∨ (600 ≤ f ∧ f ≤ 604)) ∧ o = 0)) ∧
  (∀ f o, ¬ (((f = 6 ∨ (600 ≤ f ∧ f ≤ 604)) ∧ o = 0) ∨ f = 1006) → n' f o = n f o) ∧
  (∀ h, mdC h → cRu g' n' 0 (fun p nm => wVl h (3 * 0 + p) nm) ∧ ∀ p, 0 ≤ p → p ≤ 2 → wRow1 h (3 * 0 + p)) ∧
  ((g' 2 0 2 = 10 ∧ g' 2 0 11 = 1 ∧ g' 1001 0 6 = -1 ∧ g' 1001 0 4 = 1 ∧ g' 3 0 0 = 0) ∧ (g' 2 0 1 = 0 ∧ g' 2 0 3 = 0 ∧ g' 1001 0 5 = 0) ∧ (∀ s, 0 ≤ s → s < 4 → g' 4 s 0 = -1 ∧ g' 4 s 1 = 0) ∧ ∀ (f : Nat) (o j : Int), (f = 402 ∨ (99 < f ∧ f < 300) ∨ f = 1050) → g' f o j = 0) ∧
  ((r' 1001 0 0 = some (2, 0) ∧ r' 1001 0 1 = some (3, 0) ∧ r' 1001 0 2 = some (702, 0) ∧ r' 1001 0 3 = some (703, 0)) ∧ (r' 2 0 4 = some (6, 0) ∧ r' 702 0 0 = some (6, 0)) ∧ (∀ s, 0 ≤ s → s < 4 → r' 703 0 s = some (4, s)) ∧ ∀ (f : Nat) (o j : Int), ((99 < f ∧ f < 200) ∨ f = 1050) → r' f o j = none) ∧ ax_nd (P', g', r', n')
/-- of a list of facts behind the loops -/
theorem txt_e0 {B : Int → Int} {m : Int} (hm : m = 31) (hB : ∀ i, 0 ≤ i → i < 31 → B i = kB 0 i) : rSZ (tT B m) (tV B m) (tkP B m) (tkN B m) = rSZ (tT (kB 0) 31) (tV (kB 0) 31) (tkP (kB 0) 31) (tkN (kB 0) 31) ∧ rRo (tT B m) (tV B m) (tkP B m) (tkN B m) = rRo (tT (kB 0) 31) (tV (kB 0) 31) (tkP (kB 0) 31) (tkN (kB 0) 31) := by
  subst hm
  rw [tT_c (by decide) hB, show tkP B 31 = tkP (kB 0) 31 from funext (tkP_c (by decide) hB), tkN_c (by decide) hB]
  have hV : ∀ i, tT (kB 0) 31 i ≠ 0 → tV B 31 i = tV (kB 0) 31 i := fun i z => tV_c (by decide) hB (by rw [tT_c (by decide) hB]; exact z)
  exact ⟨rSZ_v hV, rRo_v hV⟩
theorem ax_fi_1_0 : ∀ (ci : Nat) (C : String) (T : u_T) (N : Nat), ax_ok 1001 ci = true → vwCl[ci]? = some (C, T, N) → (T 0).2.2.2 = true ∧ (T 0).1 = ax_nm 110 := by
  intro ci C T N h1 h2
  have z : ci = 10 := by simpa [ax_ok] using h1
  subst z; cases h2; exact ⟨rfl, rfl⟩
theorem ax_fi_1_1 : ∀ (ci : Nat) (C : String) (T : u_T) (N : Nat), ax_ok 1001 ci = true → vwCl[ci]? = some (C, T, N) → (T 1).2.2.2 = true ∧ (T 1).1 = ax_nm 110 := by
  intro ci C T N h1 h2
  have z : ci = 10 := by simpa [ax_ok] using h1
  subst z; cases h2; exact ⟨rfl, rfl⟩
theorem ax_fi_1_2 : ∀ (ci : Nat) (C : String) (T : u_T) (N : Nat), ax_ok 1001 ci = true → vwCl[ci]? = some (C, T, N) → (T 2).2.2.2 = true ∧ (T 2).1 = ax_nm 110 := by
  intro ci C T N h1 h2
  have z : ci = 10 := by simpa [ax_ok] using h1
  subst z; cases h2; exact ⟨rfl, rfl⟩
theorem ax_fi_1_3 : ∀ (ci : Nat) (C : String) (T : u_T) (N : Nat), ax_ok 1001 ci = true → vwCl[ci]? = some (C, T, N) → (T 3).2.2.2 = true ∧ (T 3).1 = ax_nm 110 := by
  intro ci C T N h1 h2
  have z : ci = 10 := by simpa [ax_ok] using h1
  subst z; cases h2; exact ⟨rfl, rfl⟩
set_option maxRecDepth 100000 in
set_option maxHeartbeats 4000000 in
theorem cp_X10_init (P : Nat → Int → Prop) (g : Nat → Int → Int → Int) (r0 : Nat → Int → Int → Option (Nat × Int)) (n : Nat → Int → Int) (hp : ∀ (f : Nat) (o : Int), P f o → f = 1001 ∨ (90 ≤ f ∧ f ≤ 93)) (hS : cStr P) (hg0 : ∀ f o j, g f o j = 0) (hr0 : ∀ f o j, r0 f o j = none) (hX : nX n) (hnd : ax_nd (P, g, r0, n)) : ax_S yX10_init cX10_init 2 none 41 32 3185 [.inr (.inr (some (1001, 0)))] (P, g, r0, n) (fun r M' => r = none ∧ ∃ P' g' r' n', M' = (P', g', r', n') ∧ cX10 P n P' g' r' n') := by
  obtain ⟨hX1, hX2, hX3, hX4⟩ := hX
  refine ax_S_of (own := 110) (by decide) rfl (fun _ => rfl) rfl (Nat.le_of_ble_eq_true rfl) ?_
  change ax_J _ _ _ _ _ _ _ _ _ _ [some (.inr (.inr (some (1001, 0)))), none] _ _
  refine aj_run (C := True) (pc' := 1) (la' := [some (.inr (.inr (some (1001, 0)))), none]) (st' := [.inr (.inr (some (1001, 0)))]) (M' := (P, g, r0, n)) ok_X10_init true 1 rfl trivial ?_
  refine aj_objI lk_10_1 ins_obj code_obj (by decide) (by decide) (ax_dec2 (i := .invokespecial 1) (n := 3) ok_X10_init rfl) ?_
  have hraw2 : ¬ P 1002 0 := fun z9 => absurd (hp _ _ z9) (by omega)
  have hbl2 : ∀ f9 : Nat, 200 ≤ f9 → f9 ≤ 299 → ¬ P f9 0 := fun f9 h8 h9 z9 => absurd (hp _ _ z9) (by omega)
  have hfin2 : ¬ P 2 0 := fun z9 => absurd (hp _ _ z9) (by omega)
  have hzr2 : ∀ (f9 : Nat) (j9 : Int), (200 ≤ f9 ∧ f9 ≤ 299) ∨ f9 = 1002 → r0 f9 0 j9 = none := fun f9 j9 _ => hr0 f9 0 j9
  have hzg2 : ∀ (f9 : Nat) (j9 : Int), (200 ≤ f9 ∧ f9 ≤ 299) ∨ f9 = 1002 → g f9 0 j9 = 0 := fun f9 j9 _ => hg0 f9 0 j9
  refine aj_run (C := True) (pc' := 5) (la' := [some (.inr (.inr (some (1001, 0)))), none]) (st' := [.inr (.inr (some (1001, 0)))]) (M' := (P, g, r0, n)) ok_X10_init true 1 rfl trivial ?_
  refine aj_new (ci := 2) (f := 1002) (o := 0) rfl rfl (by decide) (by decide) (ax_T1 (i := 29) (by decide +kernel) rfl) (ax_T1 (i := 30) (by decide +kernel) rfl) (ax_T1 (i := 2) (by decide +kernel) rfl) hraw2 hnd ⟨by decide, by decide⟩ (ax_dec2 (i := .new 7) (n := 3) ok_X10_init rfl) ?_
  change ax_J _ _ _ _ _ _ _ _ _ 8 [some (.inr (.inr (some (1001, 0)))), none] [.inr (.inr (some (1002, 0))), .inr (.inr (some (1001, 0)))] (mkP P 1002 0, mkG g 1002 0, mkR r0 1002 0, mkN n 1002 0 2)
  have nd1 : ax_nd (mkP P 1002 0, mkG g 1002 0, mkR r0 1002 0, mkN n 1002 0 2) := nd_mk hnd
  rw [mkG_e (g := g) (f := 1002) (o := 0) (fun j => hzg2 1002 j (Or.inr rfl)), mkR_e (r := r0) (f := 1002) (o := 0) (fun j => hzr2 1002 j (Or.inr rfl)), mkN_e (n := n) (f := 1002) (o := 0) (x := 2) hX1.1]
  have nd2 : ax_nd (mkP P 1002 0, g, r0, n) := by have z := nd1; rw [mkG_e (g := g) (f := 1002) (o := 0) (fun j => hzg2 1002 j (Or.inr rfl)), mkR_e (r := r0) (f := 1002) (o := 0) (fun j => hzr2 1002 j (Or.inr rfl)), mkN_e (n := n) (f := 1002) (o := 0) (x := 2) hX1.1] at z; exact z
  change ax_J _ _ _ _ _ _ _ _ _ 8 [some (.inr (.inr (some (1001, 0)))), none] [.inr (.inr (some (1002, 0))), .inr (.inr (some (1001, 0)))] (mkP P 1002 0, g, r0, n)
  refine aj_run (C := True) (pc' := 9) (la' := [some (.inr (.inr (some (1001, 0)))), none]) (st' := [.inr (.inr (some (1002, 0))), .inr (.inr (some (1002, 0))), .inr (.inr (some (1001, 0)))]) (M' := (mkP P 1002 0, g, r0, n)) ok_X10_init true 1 rfl trivial ?_
  refine aj_callIN (y := yX2_init) (host := "AntsTurn") (idx := 9) (av := []) (st := [.inr (.inr (some (1002, 0))), .inr (.inr (some (1001, 0)))]) (f := 1002) (o := 0) cal_X2_init rfl (by decide) ins_X2_init (cp_X2_init _ _ _ _ (fun f9 h8 h9 => mkP_n (fun z9 => absurd z9.1 (by omega)) (hbl2 f9 h8 (by omega))) nd2 ⟨fun f9 j9 h8 h9 => hzg2 f9 j9 (by omega), fun f9 j9 h8 h9 => hzr2 f9 j9 (by omega), trivial⟩ hX1.2.2.1 hX1.2.2.2.1 hX1.2.2.2.2.1 hX1.2.2.2.2.2.1 hX1.2.2.2.2.2.2.1 hX1.2.2.2.2.2.2.2) ⟨by decide, by decide, by first | decide | (show _ ≤ 32; omega), by first | decide | (show _ ≤ 3185; omega)⟩ (Nat.le_of_ble_eq_true rfl) (ax_dec2 (i := .invokespecial 9) (n := 3) ok_X10_init rfl) (fun r M' hq => ?_)
  obtain ⟨rfl, rfl⟩ := hq
  have hndm : ax_nd (mkP (mkP (mkP (mkP (mkP (mkP (mkP P 1002 0) 200 0) 209 0) 210 0) 214 0) 215 0) 216 0, ax_u3 (ax_u3 g 1002 0 2 10) 1002 0 11 1, ax_u3 (ax_u3 (ax_u3 (ax_u3 (ax_u3 (ax_u3 r0 1002 0 0 (some (200, 0))) 1002 0 9 (some (209, 0))) 1002 0 10 (some (210, 0))) 1002 0 14 (some (214, 0))) 1002 0 15 (some (215, 0))) 1002 0 16 (some (216, 0)), n) := pl_nd (nd_p hnd (fun j9 => hzr2 1002 j9 (Or.inr rfl))) hzr2
  have hnrm : ax_nr (mkP (mkP (mkP (mkP (mkP (mkP (mkP P 1002 0) 200 0) 209 0) 210 0) 214 0) 215 0) 216 0, ax_u3 (ax_u3 g 1002 0 2 10) 1002 0 11 1, ax_u3 (ax_u3 (ax_u3 (ax_u3 (ax_u3 (ax_u3 r0 1002 0 0 (some (200, 0))) 1002 0 9 (some (209, 0))) 1002 0 10 (some (210, 0))) 1002 0 14 (some (214, 0))) 1002 0 15 (some (215, 0))) 1002 0 16 (some (216, 0)), n) 1002 0 := pl_nr hnd hraw2 hzr2
  change ax_J _ _ _ _ _ _ _ _ _ 12 [some (.inr (.inr (some (1001, 0)))), none] [.inr (.inr (some (1002, 0))), .inr (.inr (some (1001, 0)))] (mkP (mkP (mkP (mkP (mkP (mkP (mkP P 1002 0) 200 0) 209 0) 210 0) 214 0) 215 0) 216 0, ax_u3 (ax_u3 g 1002 0 2 10) 1002 0 11 1, ax_u3 (ax_u3 (ax_u3 (ax_u3 (ax_u3 (ax_u3 r0 1002 0 0 (some (200, 0))) 1002 0 9 (some (209, 0))) 1002 0 10 (some (210, 0))) 1002 0 14 (some (214, 0))) 1002 0 15 (some (215, 0))) 1002 0 16 (some (216, 0)), n)
  refine aj_name (f := 2) (o := 0) (by decide) rfl pl_m.1 (fun z9 => by rcases z9 with z9 | z9 | z9 | z9 | z9 | z9 | z9 | z9 <;> first | omega | exact hfin2 z9) (fun z9 => absurd (hp _ _ z9) (by omega)) hndm hnrm (by decide) ?_ (by intro v9 h9; simp at h9; first | (subst h9; rfl) | (rcases h9 with h9 | h9 <;> subst h9 <;> rfl)) (by intro v9 h9; simp at h9; first | (subst h9; rfl) | (rcases h9 with h9 | h9 <;> subst h9 <;> rfl)) ?_
  · intro k9 h8 h9
    have hk9 : k9 = 0 ∨ k9 = 9 ∨ k9 = 10 ∨ k9 = 14 ∨ k9 = 15 ∨ k9 = 16 := by
      have e9 : ∀ q : Nat, q < 17 → ax_isA 2 q = true → q = 0 ∨ q = 9 ∨ q = 10 ∨ q = 14 ∨ q = 15 ∨ q = 16 := by decide
      exact e9 k9 h9 h8
    rcases hk9 with rfl | rfl | rfl | rfl | rfl | rfl
    · exact ⟨(pl_k (r := r0)).1, (pl_m (P := P)).2.1⟩
    · exact ⟨(pl_k (r := r0)).2.1, (pl_m (P := P)).2.2.1⟩
    · exact ⟨(pl_k (r := r0)).2.2.1, (pl_m (P := P)).2.2.2.1⟩
    · exact ⟨(pl_k (r := r0)).2.2.2.1, (pl_m (P := P)).2.2.2.2.1⟩
    · exact ⟨(pl_k (r := r0)).2.2.2.2.1, (pl_m (P := P)).2.2.2.2.2.1⟩
    · exact ⟨(pl_k (r := r0)).2.2.2.2.2.1, (pl_m (P := P)).2.2.2.2.2.2⟩
  obtain ⟨P2, g2, r2, e2, hP2, hga2, hg2, hr2, nd2⟩ := of_pl (P := P) (g := g) (r := r0) (n := n) hnd hraw2 hzr2 (fun j9 => hzg2 1002 j9 (Or.inr rfl)) (hX1.2.1.trans hX1.1.symm)
  rw [e2]
  change ax_J _ _ _ _ _ _ _ _ _ 12 [some (.inr (.inr (some (1001, 0)))), none] [.inr (.inr (some (2, 0))), .inr (.inr (some (1001, 0)))] (P2, g2, r2, n)
  refine aj_putR (f := 1001) (k := 0) (g := 2) (o := 0) (u := 0) (st := []) (ax_lk_ok (q := (1, 0)) rfl) rfl rfl (Or.inr ⟨by decide, ax_fi_1_0⟩) (fun z9 => by revert z9; decide) (ax_dec2 (i := .putfield 10) (n := 3) ok_X10_init rfl) ?_
  change ax_J _ _ _ _ _ _ _ _ _ 15 [some (.inr (.inr (some (1001, 0)))), none] [] (P2, g2, ax_u3 r2 1001 0 0 (some (2, 0)), n)
  have nd3 : ax_nd (P2, g2, ax_u3 r2 1001 0 0 (some (2, 0)), n) := nd_u nd2 ((hP2 2 0).mpr (Or.inr ⟨Or.inl rfl, rfl⟩))
  have hr3a : (ax_u3 r2 1001 0 0 (some (2, 0))) 1001 0 0 = some (2, 0) := ax_u3_s
  have hr3 : ∀ (f : Nat) (o j : Int), f ≠ 2 → f ≠ 1002 → f ≠ 1001 → (ax_u3 r2 1001 0 0 (some (2, 0))) f o j = none := fun f o j a1 a2 a3 => (ax_u3_n (by omega)).trans ((hr2 f o j (by omega)).trans (hr0 f o j))
  have nd3 : ax_nd (P2, g2, ax_u3 r2 1001 0 0 (some (2, 0)), n) := nd3
  generalize (ax_u3 r2 1001 0 0 (some (2, 0))) = r3 at hr3a hr3 nd3 ⊢
  have hg3 : ∀ (f : Nat) (o j : Int), f ≠ 2 → f ≠ 1002 → g2 f o j = 0 := fun f o j a1 a2 => (hg2 f o j (by omega)).trans (hg0 f o j)
  have hp2 : ∀ (f : Nat) (o : Int), P2 f o → (f = 1001 ∨ (90 ≤ f ∧ f ≤ 93)) ∨ f = 2 ∨ (200 ≤ f ∧ f ≤ 216) := fun f o z => by rcases (hP2 f o).mp z with y | y; have := hp f o y; omega; omega
  have hraw3 : ¬ P2 1003 0 := fun z9 => absurd (hp2 _ _ z9) (by omega)
  have hbl3 : ∀ f9 : Nat, 300 ≤ f9 → f9 ≤ 399 → ¬ P2 f9 0 := fun f9 h8 h9 z9 => absurd (hp2 _ _ z9) (by omega)
  have hfin3 : ¬ P2 3 0 := fun z9 => absurd (hp2 _ _ z9) (by omega)
  have hzr3 : ∀ (f9 : Nat) (j9 : Int), (300 ≤ f9 ∧ f9 ≤ 399) ∨ f9 = 1003 → r3 f9 0 j9 = none := fun f9 j9 _ => hr3 f9 0 j9 (by omega) (by omega) (by omega)
  have hzg3 : ∀ (f9 : Nat) (j9 : Int), (300 ≤ f9 ∧ f9 ≤ 399) ∨ f9 = 1003 → g2 f9 0 j9 = 0 := fun f9 j9 _ => hg3 f9 0 j9 (by omega) (by omega)
  change ax_J _ _ _ _ _ _ _ _ _ 15 [some (.inr (.inr (some (1001, 0)))), none] [] (P2, g2, r3, n)
  refine aj_run (C := True) (pc' := 16) (la' := [some (.inr (.inr (some (1001, 0)))), none]) (st' := [.inr (.inr (some (1001, 0)))]) (M' := (P2, g2, r3, n)) ok_X10_init true 1 rfl trivial ?_
  refine aj_new (ci := 8) (f := 1003) (o := 0) rfl rfl (by decide) (by decide) (ax_T1 (i := 100) (by decide +kernel) rfl) (ax_T1 (i := 101) (by decide +kernel) rfl) (ax_T1 (i := 3) (by decide +kernel) rfl) hraw3 nd3 ⟨by decide, by decide⟩ (ax_dec2 (i := .new 16) (n := 3) ok_X10_init rfl) ?_
  change ax_J _ _ _ _ _ _ _ _ _ 19 [some (.inr (.inr (some (1001, 0)))), none] [.inr (.inr (some (1003, 0))), .inr (.inr (some (1001, 0)))] (mkP P2 1003 0, mkG g2 1003 0, mkR r3 1003 0, mkN n 1003 0 8)
  have nd4 : ax_nd (mkP P2 1003 0, mkG g2 1003 0, mkR r3 1003 0, mkN n 1003 0 8) := nd_mk nd3
  rw [mkG_e (g := g2) (f := 1003) (o := 0) (fun j => hzg3 1003 j (Or.inr rfl)), mkR_e (r := r3) (f := 1003) (o := 0) (fun j => hzr3 1003 j (Or.inr rfl)), mkN_e (n := n) (f := 1003) (o := 0) (x := 8) hX2.1]
  have nd5 : ax_nd (mkP P2 1003 0, g2, r3, n) := by have z := nd4; rw [mkG_e (g := g2) (f := 1003) (o := 0) (fun j => hzg3 1003 j (Or.inr rfl)), mkR_e (r := r3) (f := 1003) (o := 0) (fun j => hzr3 1003 j (Or.inr rfl)), mkN_e (n := n) (f := 1003) (o := 0) (x := 8) hX2.1] at z; exact z
  change ax_J _ _ _ _ _ _ _ _ _ 19 [some (.inr (.inr (some (1001, 0)))), none] [.inr (.inr (some (1003, 0))), .inr (.inr (some (1001, 0)))] (mkP P2 1003 0, g2, r3, n)
  refine aj_run (C := True) (pc' := 20) (la' := [some (.inr (.inr (some (1001, 0)))), none]) (st' := [.inr (.inr (some (1003, 0))), .inr (.inr (some (1003, 0))), .inr (.inr (some (1001, 0)))]) (M' := (mkP P2 1003 0, g2, r3, n)) ok_X10_init true 1 rfl trivial ?_
  refine aj_callIN (y := yX8_init) (host := "AntsTurn") (idx := 18) (av := []) (st := [.inr (.inr (some (1003, 0))), .inr (.inr (some (1001, 0)))]) (f := 1003) (o := 0) cal_X8_init rfl (by decide) ins_X8_init (cp_X8_init _ _ _ _ (fun f9 h8 h9 => mkP_n (fun z9 => absurd z9.1 (by omega)) (hbl3 f9 h8 (by omega))) nd5 ⟨fun f9 j9 h8 h9 => hzg3 f9 j9 (by omega), fun f9 j9 h8 h9 => hzr3 f9 j9 (by omega), trivial⟩ hX2.2.2.1 hX2.2.2.2.1 hX2.2.2.2.2.1 hX2.2.2.2.2.2.1 hX2.2.2.2.2.2.2.1 hX2.2.2.2.2.2.2.2.1 hX2.2.2.2.2.2.2.2.2.1 hX2.2.2.2.2.2.2.2.2.2) ⟨by decide, by decide, by first | decide | (show _ ≤ 32; omega), by first | decide | (show _ ≤ 3185; omega)⟩ (Nat.le_of_ble_eq_true rfl) (ax_dec2 (i := .invokespecial 18) (n := 3) ok_X10_init rfl) (fun r M' hq => ?_)
  obtain ⟨rfl, rfl⟩ := hq
  have hndm : ax_nd (mkP (mkP (mkP (mkP (mkP (mkP (mkP (mkP (mkP P2 1003 0) 302 0) 303 0) 304 0) 305 0) 308 0) 309 0) 310 0) 311 0, g2, ax_u3 (ax_u3 (ax_u3 (ax_u3 (ax_u3 (ax_u3 (ax_u3 (ax_u3 r3 1003 0 2 (some (302, 0))) 1003 0 3 (some (303, 0))) 1003 0 4 (some (304, 0))) 1003 0 5 (some (305, 0))) 1003 0 8 (some (308, 0))) 1003 0 9 (some (309, 0))) 1003 0 10 (some (310, 0))) 1003 0 11 (some (311, 0)), n) := tp_nd (nd_p nd3 (fun j9 => hzr3 1003 j9 (Or.inr rfl))) hzr3
  have hnrm : ax_nr (mkP (mkP (mkP (mkP (mkP (mkP (mkP (mkP (mkP P2 1003 0) 302 0) 303 0) 304 0) 305 0) 308 0) 309 0) 310 0) 311 0, g2, ax_u3 (ax_u3 (ax_u3 (ax_u3 (ax_u3 (ax_u3 (ax_u3 (ax_u3 r3 1003 0 2 (some (302, 0))) 1003 0 3 (some (303, 0))) 1003 0 4 (some (304, 0))) 1003 0 5 (some (305, 0))) 1003 0 8 (some (308, 0))) 1003 0 9 (some (309, 0))) 1003 0 10 (some (310, 0))) 1003 0 11 (some (311, 0)), n) 1003 0 := tp_nr nd3 hraw3 hzr3
  change ax_J _ _ _ _ _ _ _ _ _ 23 [some (.inr (.inr (some (1001, 0)))), none] [.inr (.inr (some (1003, 0))), .inr (.inr (some (1001, 0)))] (mkP (mkP (mkP (mkP (mkP (mkP (mkP (mkP (mkP P2 1003 0) 302 0) 303 0) 304 0) 305 0) 308 0) 309 0) 310 0) 311 0, g2, ax_u3 (ax_u3 (ax_u3 (ax_u3 (ax_u3 (ax_u3 (ax_u3 (ax_u3 r3 1003 0 2 (some (302, 0))) 1003 0 3 (some (303, 0))) 1003 0 4 (some (304, 0))) 1003 0 5 (some (305, 0))) 1003 0 8 (some (308, 0))) 1003 0 9 (some (309, 0))) 1003 0 10 (some (310, 0))) 1003 0 11 (some (311, 0)), n)
  refine aj_name (f := 3) (o := 0) (by decide) rfl tp_m.1 (fun z9 => by rcases z9 with z9 | z9 | z9 | z9 | z9 | z9 | z9 | z9 | z9 | z9 <;> first | omega | exact hfin3 z9) (fun z9 => absurd (hp _ _ z9) (by omega)) hndm hnrm (by decide) ?_ (by intro v9 h9; simp at h9; first | (subst h9; rfl) | (rcases h9 with h9 | h9 <;> subst h9 <;> rfl)) (by intro v9 h9; simp at h9; first | (subst h9; rfl) | (rcases h9 with h9 | h9 <;> subst h9 <;> rfl)) ?_
  · intro k9 h8 h9
    have hk9 : k9 = 2 ∨ k9 = 3 ∨ k9 = 4 ∨ k9 = 5 ∨ k9 = 8 ∨ k9 = 9 ∨ k9 = 10 ∨ k9 = 11 := by
      have e9 : ∀ q : Nat, q < 13 → ax_isA 3 q = true → q = 2 ∨ q = 3 ∨ q = 4 ∨ q = 5 ∨ q = 8 ∨ q = 9 ∨ q = 10 ∨ q = 11 := by decide
      exact e9 k9 h9 h8
    rcases hk9 with rfl | rfl | rfl | rfl | rfl | rfl | rfl | rfl
    · exact ⟨(tp_k (r := r3)).1, (tp_m (P := P2)).2.1⟩
    · exact ⟨(tp_k (r := r3)).2.1, (tp_m (P := P2)).2.2.1⟩
    · exact ⟨(tp_k (r := r3)).2.2.1, (tp_m (P := P2)).2.2.2.1⟩
    · exact ⟨(tp_k (r := r3)).2.2.2.1, (tp_m (P := P2)).2.2.2.2.1⟩
    · exact ⟨(tp_k (r := r3)).2.2.2.2.1, (tp_m (P := P2)).2.2.2.2.2.1⟩
    · exact ⟨(tp_k (r := r3)).2.2.2.2.2.1, (tp_m (P := P2)).2.2.2.2.2.2.1⟩
    · exact ⟨(tp_k (r := r3)).2.2.2.2.2.2.1, (tp_m (P := P2)).2.2.2.2.2.2.2.1⟩
    · exact ⟨(tp_k (r := r3)).2.2.2.2.2.2.2.1, (tp_m (P := P2)).2.2.2.2.2.2.2.2⟩
  obtain ⟨P4, g4, r4, e4, hP4, hga4, hg4, hr4, nd4⟩ := of_tp (P := P2) (g := g2) (r := r3) (n := n) nd3 hraw3 hzr3 (fun j9 => hzg3 1003 j9 (Or.inr rfl)) (hX2.2.1.trans hX2.1.symm)
  rw [e4]
  change ax_J _ _ _ _ _ _ _ _ _ 23 [some (.inr (.inr (some (1001, 0)))), none] [.inr (.inr (some (3, 0))), .inr (.inr (some (1001, 0)))] (P4, g4, r4, n)
  refine aj_putR (f := 1001) (k := 1) (g := 3) (o := 0) (u := 0) (st := []) (ax_lk_ok (q := (1, 1)) rfl) rfl rfl (Or.inr ⟨by decide, ax_fi_1_1⟩) (fun z9 => by revert z9; decide) (ax_dec2 (i := .putfield 19) (n := 3) ok_X10_init rfl) ?_
  change ax_J _ _ _ _ _ _ _ _ _ 26 [some (.inr (.inr (some (1001, 0)))), none] [] (P4, g4, ax_u3 r4 1001 0 1 (some (3, 0)), n)
  have nd6 : ax_nd (P4, g4, ax_u3 r4 1001 0 1 (some (3, 0)), n) := nd_u nd4 ((hP4 3 0).mpr (Or.inr ⟨Or.inl rfl, rfl⟩))
  have hr5a : (ax_u3 r4 1001 0 1 (some (3, 0))) 1001 0 0 = some (2, 0) ∧ (ax_u3 r4 1001 0 1 (some (3, 0))) 1001 0 1 = some (3, 0) := ⟨(ax_u3_n (by omega)).trans ((hr4 1001 0 0 (by omega)).trans hr3a), ax_u3_s⟩
  have hr5 : ∀ (f : Nat) (o j : Int), f ≠ 2 → f ≠ 1002 → f ≠ 1001 → f ≠ 3 → f ≠ 1003 → (ax_u3 r4 1001 0 1 (some (3, 0))) f o j = none := fun f o j a1 a2 a3 a4 a5 => (ax_u3_n (by omega)).trans ((hr4 f o j (by omega)).trans (hr3 f o j a1 a2 a3))
  have nd5 : ax_nd (P4, g4, ax_u3 r4 1001 0 1 (some (3, 0)), n) := nd6
  generalize (ax_u3 r4 1001 0 1 (some (3, 0))) = r5 at hr5a hr5 nd5 ⊢
  have hp4 : ∀ (f : Nat) (o : Int), P4 f o → (f = 1001 ∨ (90 ≤ f ∧ f ≤ 93)) ∨ (f = 2 ∨ (200 ≤ f ∧ f ≤ 216)) ∨ f = 3 ∨ (302 ≤ f ∧ f ≤ 311) := fun f o z => by rcases (hP4 f o).mp z with y | y; have := hp2 f o y; omega; omega
  have hg5 : ∀ (f : Nat) (o j : Int), f ≠ 2 → f ≠ 1002 → f ≠ 1003 → g4 f o j = 0 := fun f o j a1 a2 a3 => by
    by_cases c : f = 3 ∧ o = 0
    · rw [c.1, c.2]; exact hga4 j
    · exact (hg4 f o j (by omega)).trans (hg3 f o j a1 a2)
  have hg5a : g4 2 0 2 = 10 ∧ g4 2 0 11 = 1 ∧ ∀ j, j ≠ 2 → j ≠ 11 → g4 2 0 j = 0 := ⟨(hg4 2 0 2 (by omega)).trans hga2.1, (hg4 2 0 11 (by omega)).trans hga2.2.1, fun j a1 a2 => (hg4 2 0 j (by omega)).trans (hga2.2.2 j a1 a2)⟩
  change ax_J _ _ _ _ _ _ _ _ _ 26 [some (.inr (.inr (some (1001, 0)))), none] [] (P4, g4, r5, n)
  refine aj_run (C := True) (pc' := 29) (la' := [some (.inr (.inr (some (1001, 0)))), none]) (st' := [.inl 6, .inr (.inr (some (1001, 0)))]) (M' := (P4, g4, r5, n)) ok_X10_init true 2 rfl trivial ?_
  refine aj_newQ (f := 702) (o := 0) (x := 6) (E := "AntsTurn$Rule") rfl rfl (by decide) rfl (fun _ _ _ h9 => h9.2.2.2.2.2.2.2.1) (by decide) (fun z9 => absurd (hp4 _ _ z9) (by omega)) nd5 (ax_T1 (i := 148) (by decide +kernel) rfl) ⟨by decide, by decide⟩ (ax_dec2 (i := .anewarray 23) (n := 3) ok_X10_init rfl) ?_
  change ax_J _ _ _ _ _ _ _ _ _ 32 [some (.inr (.inr (some (1001, 0)))), none] [.inr (.inr (some (702, 0))), .inr (.inr (some (1001, 0)))] (mkP P4 702 0, mkG g4 702 0, mkR r5 702 0, mkN n 702 0 6)
  have nd7 : ax_nd (mkP P4 702 0, mkG g4 702 0, mkR r5 702 0, mkN n 702 0 6) := nd_mk nd5
  rw [mkG_e (g := g4) (f := 702) (o := 0) (fun j => hg5 702 0 j (by omega) (by omega) (by omega)), mkR_e (r := r5) (f := 702) (o := 0) (fun j => hr5 702 0 j (by omega) (by omega) (by omega) (by omega) (by omega)), mkN_e (n := n) (f := 702) (o := 0) (x := 6) hX3.1]
  have nd8 : ax_nd (mkP P4 702 0, g4, r5, n) := by have z := nd7; rw [mkG_e (g := g4) (f := 702) (o := 0) (fun j => hg5 702 0 j (by omega) (by omega) (by omega)), mkR_e (r := r5) (f := 702) (o := 0) (fun j => hr5 702 0 j (by omega) (by omega) (by omega) (by omega) (by omega)), mkN_e (n := n) (f := 702) (o := 0) (x := 6) hX3.1] at z; exact z
  change ax_J _ _ _ _ _ _ _ _ _ 32 [some (.inr (.inr (some (1001, 0)))), none] [.inr (.inr (some (702, 0))), .inr (.inr (some (1001, 0)))] (mkP P4 702 0, g4, r5, n)
  refine aj_putR (f := 1001) (k := 2) (g := 702) (o := 0) (u := 0) (st := []) (ax_lk_ok (q := (1, 2)) rfl) rfl rfl (Or.inr ⟨by decide, ax_fi_1_2⟩) (fun z9 => by revert z9; decide) (ax_dec2 (i := .putfield 25) (n := 3) ok_X10_init rfl) ?_
  change ax_J _ _ _ _ _ _ _ _ _ 35 [some (.inr (.inr (some (1001, 0)))), none] [] (mkP P4 702 0, g4, ax_u3 r5 1001 0 2 (some (702, 0)), n)
  have nd9 : ax_nd (mkP P4 702 0, g4, ax_u3 r5 1001 0 2 (some (702, 0)), n) := nd_u nd8 (Or.inl ⟨rfl, rfl⟩)
  refine aj_run (C := True) (pc' := 37) (la' := [some (.inr (.inr (some (1001, 0)))), none]) (st' := [.inl 4, .inr (.inr (some (1001, 0)))]) (M' := (mkP P4 702 0, g4, ax_u3 r5 1001 0 2 (some (702, 0)), n)) ok_X10_init true 2 rfl trivial ?_
  refine aj_newQ (f := 703) (o := 0) (x := 4) (E := "AntsTurn$Sheet") rfl rfl (by decide) rfl (fun _ _ _ h9 => h9.2.2.2.2.2.2.2.2.1) (by decide) (mkP_n (fun z9 => absurd z9.1 (by decide)) (fun z9 => absurd (hp4 _ _ z9) (by omega))) nd9 (ax_T1 (i := 150) (by decide +kernel) rfl) ⟨by decide, by decide⟩ (ax_dec2 (i := .anewarray 29) (n := 3) ok_X10_init rfl) ?_
  change ax_J _ _ _ _ _ _ _ _ _ 40 [some (.inr (.inr (some (1001, 0)))), none] [.inr (.inr (some (703, 0))), .inr (.inr (some (1001, 0)))] (mkP (mkP P4 702 0) 703 0, mkG g4 703 0, mkR (ax_u3 r5 1001 0 2 (some (702, 0))) 703 0, mkN n 703 0 4)
  have nd10 : ax_nd (mkP (mkP P4 702 0) 703 0, mkG g4 703 0, mkR (ax_u3 r5 1001 0 2 (some (702, 0))) 703 0, mkN n 703 0 4) := nd_mk nd9
  rw [mkG_e (g := g4) (f := 703) (o := 0) (fun j => hg5 703 0 j (by omega) (by omega) (by omega)), mkR_e (r := ax_u3 r5 1001 0 2 (some (702, 0))) (f := 703) (o := 0) (fun j => (ax_u3_n (by omega)).trans (hr5 703 0 j (by omega) (by omega) (by omega) (by omega) (by omega))), mkN_e (n := n) (f := 703) (o := 0) (x := 4) hX3.2]
  have nd11 : ax_nd (mkP (mkP P4 702 0) 703 0, g4, ax_u3 r5 1001 0 2 (some (702, 0)), n) := by have z := nd10; rw [mkG_e (g := g4) (f := 703) (o := 0) (fun j => hg5 703 0 j (by omega) (by omega) (by omega)), mkR_e (r := ax_u3 r5 1001 0 2 (some (702, 0))) (f := 703) (o := 0) (fun j => (ax_u3_n (by omega)).trans (hr5 703 0 j (by omega) (by omega) (by omega) (by omega) (by omega))), mkN_e (n := n) (f := 703) (o := 0) (x := 4) hX3.2] at z; exact z
  change ax_J _ _ _ _ _ _ _ _ _ 40 [some (.inr (.inr (some (1001, 0)))), none] [.inr (.inr (some (703, 0))), .inr (.inr (some (1001, 0)))] (mkP (mkP P4 702 0) 703 0, g4, ax_u3 r5 1001 0 2 (some (702, 0)), n)
  refine aj_putR (f := 1001) (k := 3) (g := 703) (o := 0) (u := 0) (st := []) (ax_lk_ok (q := (1, 3)) rfl) rfl rfl (Or.inr ⟨by decide, ax_fi_1_3⟩) (fun z9 => by revert z9; decide) (ax_dec2 (i := .putfield 31) (n := 3) ok_X10_init rfl) ?_
  change ax_J _ _ _ _ _ _ _ _ _ 43 [some (.inr (.inr (some (1001, 0)))), none] [] (mkP (mkP P4 702 0) 703 0, g4, ax_u3 (ax_u3 r5 1001 0 2 (some (702, 0))) 1001 0 3 (some (703, 0)), n)
  have nd12 : ax_nd (mkP (mkP P4 702 0) 703 0, g4, ax_u3 (ax_u3 r5 1001 0 2 (some (702, 0))) 1001 0 3 (some (703, 0)), n) := nd_u nd11 (Or.inl ⟨rfl, rfl⟩)
  refine aj_run (C := True) (pc' := 48) (la' := [some (.inr (.inr (some (1001, 0)))), none]) (st' := []) (M' := (mkP (mkP P4 702 0) 703 0, ax_u3 g4 1001 0 6 (-1), ax_u3 (ax_u3 r5 1001 0 2 (some (702, 0))) 1001 0 3 (some (703, 0)), n)) ok_X10_init true 3 rfl trivial ?_
  have hrA : ((ax_u3 (ax_u3 r5 1001 0 2 (some (702, 0))) 1001 0 3 (some (703, 0))) 1001 0 0 = some (2, 0) ∧ (ax_u3 (ax_u3 r5 1001 0 2 (some (702, 0))) 1001 0 3 (some (703, 0))) 1001 0 1 = some (3, 0) ∧ (ax_u3 (ax_u3 r5 1001 0 2 (some (702, 0))) 1001 0 3 (some (703, 0))) 1001 0 2 = some (702, 0) ∧ (ax_u3 (ax_u3 r5 1001 0 2 (some (702, 0))) 1001 0 3 (some (703, 0))) 1001 0 3 = some (703, 0)) ∧ ∀ (f : Nat) (o j : Int), f ≠ 2 → f ≠ 1002 → f ≠ 1001 → f ≠ 3 → f ≠ 1003 → (ax_u3 (ax_u3 r5 1001 0 2 (some (702, 0))) 1001 0 3 (some (703, 0))) f o j = none := ⟨⟨by rw [ax_u3_n (by omega), ax_u3_n (by omega)]; exact hr5a.1, by rw [ax_u3_n (by omega), ax_u3_n (by omega)]; exact hr5a.2, by rw [ax_u3_n (by omega), ax_u3_s], ax_u3_s⟩, fun f o j a1 a2 a3 a4 a5 => by rw [ax_u3_n (by omega), ax_u3_n (by omega)]; exact hr5 f o j a1 a2 a3 a4 a5⟩
  have hgA : ((ax_u3 g4 1001 0 6 (-1)) 2 0 2 = 10 ∧ (ax_u3 g4 1001 0 6 (-1)) 2 0 11 = 1 ∧ (∀ j, j ≠ 2 → j ≠ 11 → (ax_u3 g4 1001 0 6 (-1)) 2 0 j = 0) ∧ (ax_u3 g4 1001 0 6 (-1)) 1001 0 6 = -1) ∧ ∀ (f : Nat) (o j : Int), f ≠ 2 → f ≠ 1002 → f ≠ 1003 → ¬ (f = 1001 ∧ o = 0 ∧ j = 6) → (ax_u3 g4 1001 0 6 (-1)) f o j = 0 := ⟨⟨by rw [ax_u3_n (by omega)]; exact hg5a.1, by rw [ax_u3_n (by omega)]; exact hg5a.2.1, fun j a1 a2 => by rw [ax_u3_n (by omega)]; exact hg5a.2.2 j a1 a2, ax_u3_s⟩, fun f o j a1 a2 a3 a4 => by rw [ax_u3_n (by omega)]; exact hg5 f o j a1 a2 a3⟩
  have hPA : ∀ (f : Nat) (o : Int), (mkP (mkP P4 702 0) 703 0) f o ↔ (P f o ∨ fX f o) := fun f o => by
    unfold fX
    constructor
    · rintro (z | z | z)
      · exact Or.inr (by omega)
      · exact Or.inr (by omega)
      · rcases (hP4 f o).mp z with y | y
        · rcases (hP2 f o).mp y with x | x
          · exact Or.inl x
          · exact Or.inr (by omega)
        · exact Or.inr (by omega)
    · rintro (z | z)
      · exact Or.inr (Or.inr ((hP4 f o).mpr (Or.inl ((hP2 f o).mpr (Or.inl z)))))
      · by_cases c1 : f = 702 ∨ f = 703
        · rcases c1 with c1 | c1
          · exact Or.inr (Or.inl ⟨c1, z.2⟩)
          · exact Or.inl ⟨c1, z.2⟩
        · refine Or.inr (Or.inr ((hP4 f o).mpr ?_))
          by_cases c2 : f = 3 ∨ 299 < f
          · exact Or.inr (by omega)
          · exact Or.inl ((hP2 f o).mpr (Or.inr (by omega)))
  have ndA : ax_nd (mkP (mkP P4 702 0) 703 0, ax_u3 g4 1001 0 6 (-1), ax_u3 (ax_u3 r5 1001 0 2 (some (702, 0))) 1001 0 3 (some (703, 0)), n) := nd12
  generalize (mkP (mkP P4 702 0) 703 0) = PAq at hPA ndA ⊢
  generalize (ax_u3 g4 1001 0 6 (-1)) = gAq at hgA ndA ⊢
  generalize (ax_u3 (ax_u3 r5 1001 0 2 (some (702, 0))) 1001 0 3 (some (703, 0))) = rAq at hrA ndA ⊢
  have hpA : ∀ (f : Nat) (o : Int), PAq f o → f = 1001 ∨ (90 ≤ f ∧ f ≤ 93) ∨ f = 2 ∨ (200 ≤ f ∧ f ≤ 216) ∨ f = 3 ∨ (302 ≤ f ∧ f ≤ 311) ∨ f = 702 ∨ f = 703 := fun f o z => by
    rcases (hPA f o).mp z with y | y
    · have := hp f o y
      omega
    · unfold fX at y
      omega
  change ax_J _ _ _ _ _ _ _ _ _ 48 [some (.inr (.inr (some (1001, 0)))), none] [] (PAq, gAq, rAq, n)
  refine aj_run (C := True) (pc' := 50) (la' := [some (.inr (.inr (some (1001, 0)))), some (.inl 0)]) (st' := []) (M' := (PAq, gAq, rAq, n)) ok_X10_init true 2 rfl trivial ?_
  refine aj_kc (kc' := 18 + 2 * (0 : Int).toNat) (ks' := 2365 + 43 * (0 : Int).toNat) rfl rfl ?_
  refine aj_loopK (fun xL => 18 + 2 * xL.1.toNat) (fun xL => 2365 + 43 * xL.1.toNat) (σ := (Int) × (Nat → Int → Prop) × (Nat → Int → Int → Int) × (Nat → Int → Int → Option (Nat × Int))) (fun xL => (0 ≤ xL.1 ∧ xL.1 ≤ 4) ∧ (∀ (f : Nat) (o : Int), xL.2.1 f o ↔ (PAq f o ∨ ((f = 4 ∨ f = 402) ∧ 0 ≤ o ∧ o < xL.1))) ∧ ((∀ s, 0 ≤ s → s < xL.1 → xL.2.2.1 4 s 0 = -1 ∧ xL.2.2.1 4 s 1 = 0) ∧ (∀ (f : Nat) (o j : Int), f ≠ 4 → f ≠ 1004 → xL.2.2.1 f o j = gAq f o j) ∧ ∀ o j, xL.1 ≤ o → xL.2.2.1 1004 o j = 0) ∧ ((∀ s, 0 ≤ s → s < xL.1 → xL.2.2.2 703 0 s = some (4, s)) ∧ (∀ (f : Nat) (o j : Int), f ≠ 4 → f ≠ 1004 → f ≠ 703 → xL.2.2.2 f o j = rAq f o j) ∧ ∀ o j, xL.1 ≤ o → xL.2.2.2 1004 o j = none) ∧ ax_nd (xL.2.1, xL.2.2.1, xL.2.2.2, n)) (fun xL => (4 - xL.1).toNat) (fun xL => [some (.inr (.inr (some (1001, 0)))), some (.inl xL.1)]) (fun xL => []) (fun xL => (xL.2.1, xL.2.2.1, xL.2.2.2, n)) ?_ (0, PAq, gAq, rAq) ?_
  rotate_left
  · (try dsimp only); exact ⟨by omega, fun f o => ⟨Or.inl, fun z => z.elim id (fun y => by omega)⟩, ⟨fun s z1 z2 => by omega, fun _ _ _ _ _ => rfl, fun o j _ => hgA.2 1004 o j (by omega) (by omega) (by omega) (by omega)⟩, ⟨fun s z1 z2 => by omega, fun _ _ _ _ _ _ => rfl, fun o j _ => hrA.2 1004 o j (by omega) (by omega) (by omega) (by omega) (by omega)⟩, ndA⟩
  rintro ⟨i, P1, g1, r1⟩ hI ih50
  try dsimp only at hI ih50
  obtain ⟨i1, i2, i3, i4, i5⟩ := hI
  change ax_J _ _ _ _ _ _ _ _ _ 50 [some (.inr (.inr (some (1001, 0)))), some (.inl i)] [] (P1, g1, r1, n)
  refine aj_run (C := True) (pc' := 52) (la' := [some (.inr (.inr (some (1001, 0)))), some (.inl i)]) (st' := [.inl 4, .inl i]) (M' := (P1, g1, r1, n)) ok_X10_init true 2 rfl trivial ?_
  refine aj_icmp_ge (tgt := 74) (ax_dec2 (i := .if_icmp .ge 22) (n := 3) ok_X10_init rfl) (by decide) (fun c1 => ?_) (fun c1 => ?_)
  · have hi4 : i = 4 := by omega
    subst hi4
    refine aj_kc (kc' := 26) (ks' := 2537) rfl rfl ?_
    have hR0 : (r1 1001 0 0 = some (2, 0) ∧ P1 2 0) ∧ (r1 1001 0 1 = some (3, 0) ∧ P1 3 0) ∧ (r1 1001 0 2 = some (702, 0) ∧ P1 702 0) ∧ r1 1001 0 3 = some (703, 0) := by
      have hf : ∀ f : Nat, f = 2 ∨ f = 3 ∨ f = 702 → P1 f 0 := fun f z => (i2 f 0).mpr (Or.inl ((hPA f 0).mpr (Or.inr (by unfold fX; omega))))
      exact ⟨⟨(i4.2.1 1001 0 0 (by omega) (by omega) (by omega)).trans hrA.1.1, hf 2 (by omega)⟩, ⟨(i4.2.1 1001 0 1 (by omega) (by omega) (by omega)).trans hrA.1.2.1, hf 3 (by omega)⟩, ⟨(i4.2.1 1001 0 2 (by omega) (by omega) (by omega)).trans hrA.1.2.2.1, hf 702 (by omega)⟩, (i4.2.1 1001 0 3 (by omega) (by omega) (by omega)).trans hrA.1.2.2.2⟩
    have hS1 : cStr P1 := ⟨fun k z1 z2 => ⟨(i2 _ _).mpr (Or.inl ((hPA _ _).mpr (Or.inl (hS.1 k z1 z2).1))), (i2 _ _).mpr (Or.inl ((hPA _ _).mpr (Or.inl (hS.1 k z1 z2).2)))⟩, (i2 _ _).mpr (Or.inl ((hPA _ _).mpr (Or.inl hS.2)))⟩
    have hkL : kL 0 = 31 := rfl
    have hB3 : ∀ j, g1 3 0 j = 0 := fun j => (i3.2.1 3 0 j (by omega) (by omega)).trans (hgA.2 3 0 j (by omega) (by omega) (by omega) (by omega))
    refine aj_run (C := True) (pc' := 76) (la' := [some (.inr (.inr (some (1001, 0)))), some (.inl 0)]) (st' := []) (M' := (P1, g1, r1, n)) ok_X10_init true 2 rfl trivial ?_
    refine aj_loop (σ := (Int) × (Nat → Int → Int → Int)) (fun xL => (0 ≤ xL.1 ∧ xL.1 ≤ 31) ∧ xL.2 3 0 0 = xL.1 ∧ (∀ k, 0 ≤ k → k < xL.1 → xL.2 302 0 k = kB 0 k) ∧ ∀ (f : Nat) (o j : Int), ¬ (f = 302 ∧ o = 0) → ¬ (f = 3 ∧ o = 0 ∧ j = 0) → xL.2 f o j = g1 f o j) (fun xL => (31 - xL.1).toNat) (fun xL => [some (.inr (.inr (some (1001, 0)))), some (.inl xL.1)]) (fun xL => []) (fun xL => (P1, xL.2, r1, n)) ?_ (0, g1) ?_
    rotate_left
    · (try dsimp only); exact ⟨by omega, hB3 0, fun k z1 z2 => by omega, fun _ _ _ _ _ => rfl⟩
    rintro ⟨i, g2⟩ hI ih76
    try dsimp only at hI ih76
    obtain ⟨j1, j2, j3, j4⟩ := hI
    change ax_J _ _ _ _ _ _ _ _ _ 76 [some (.inr (.inr (some (1001, 0)))), some (.inl i)] [] (P1, g2, r1, n)
    refine aj_run (C := True) (pc' := 77) (la' := [some (.inr (.inr (some (1001, 0)))), some (.inl i)]) (st' := [.inl i]) (M' := (P1, g2, r1, n)) ok_X10_init true 1 rfl trivial ?_
    refine aj_ldcS (k := 0) rfl rfl rfl (hS1.1 0 (by decide) (by decide)).1 (ax_dec2 (i := .ldc 40) (n := 2) ok_X10_init rfl) ?_
    refine aj_callK (av := []) (st := [.inl i]) (o := 0) cal_J0_length_8abf5 lk_10_42 ins_J0_length_8abf5 sel_J0_length_8abf5 ⟨by decide, by decide⟩ (cp_len 0 _ _ _ _ ⟨by decide, by decide⟩ (hS1.1 0 (by decide) (by decide)).2) ⟨by decide, by decide, by first | decide | (show _ ≤ 32; omega), by first | decide | (show _ ≤ 3185; omega)⟩ (Nat.le_of_ble_eq_true rfl) (ax_dec2 (i := .invokevirtual 42) (n := 3) ok_X10_init rfl) (fun r M' hq => ?_)
    obtain ⟨rfl, rfl⟩ := hq
    change ax_J _ _ _ _ _ _ _ _ _ 82 [some (.inr (.inr (some (1001, 0)))), some (.inl i)] [.inl (kL 0), .inl i] (P1, g2, r1, n)
    refine aj_icmp_ge (tgt := 105) (ax_dec2 (i := .if_icmp .ge 23) (n := 3) ok_X10_init rfl) (by decide) (fun c2 => ?_) (fun c2 => ?_)
    · have hi31 : i = 31 := by omega
      subst hi31
      obtain ⟨eZ, eR⟩ := txt_e0 (B := g2 302 0) (m := g2 3 0 0) j2 j3
      have ft := ft_read (p := tkP (kB 0) 31) (N := tkN (kB 0) 31)
      have hp6 : ∀ (f : Nat) (o : Int), P1 f o → f ≠ 6 ∧ ¬ (600 ≤ f ∧ f ≤ 604) ∧ f ≠ 1006 := fun f o z => by
        rcases (i2 f o).mp z with y | y
        · have := hpA f o y
          omega
        · omega
      have hnd6 : ax_nd (P1, g2, r1, n) := i5
      refine aj_run (C := True) (pc' := 106) (la' := [some (.inr (.inr (some (1001, 0)))), some (.inl 31)]) (st' := [.inr (.inr (some (1001, 0)))]) (M' := (P1, g2, r1, n)) ok_X10_init true 1 rfl trivial ?_
      refine aj_getR (f := 1001) (k := 0) (g := 2) (o := 0) (u := 0) (ax_lk_ok (q := (1, 0)) rfl) rfl rfl hR0.1.1 hR0.1.2 (ax_dec2 (i := .getfield 10) (n := 3) ok_X10_init rfl) ?_
      refine aj_run (C := True) (pc' := 110) (la' := [some (.inr (.inr (some (1001, 0)))), some (.inl 31)]) (st' := [.inr (.inr (some (1001, 0))), .inr (.inr (some (2, 0)))]) (M' := (P1, g2, r1, n)) ok_X10_init true 1 rfl trivial ?_
      refine aj_getR (f := 1001) (k := 1) (g := 3) (o := 0) (u := 0) (ax_lk_ok (q := (1, 1)) rfl) rfl rfl hR0.2.1.1 hR0.2.1.2 (ax_dec2 (i := .getfield 19) (n := 3) ok_X10_init rfl) ?_
      refine aj_callV (av := []) (st := [.inr (.inr (some (2, 0)))]) (f := 3) (o := 0) (ci := 8) cal_X8_read lk_10_56 ins_X8_read rfl sel_X8_read rfl (fun c9 h9 _ => by simpa [ax_ok] using h9) (cp_read 0 _ _ _ _ hX2.2.2 ⟨by omega, by omega⟩ hS1 ⟨fun z9 => (hp6 _ _ z9).1 rfl, fun k9 h8 h9 z9 => (hp6 _ _ z9).2.1 ⟨h8, h9⟩⟩ (fun f9 o9 z9 => (hp6 _ _ z9).2.2) hnd6) ⟨by decide, by decide, by first | decide | (show _ ≤ 32; omega), by first | decide | (show _ ≤ 3185; omega)⟩ (Nat.le_of_ble_eq_true rfl) (ax_dec2 (i := .invokevirtual 56) (n := 3) ok_X10_init rfl) (fun r M' hq => ?_)
      obtain ⟨hz, -⟩ | ⟨hz, rfl, P8, g8, r8, n8, rfl, hru⟩ := hq
      · exact absurd (by rw [eZ]; exact ft.1) hz
      rw [eZ, eR] at hru
      rw [eZ] at hz
      have hru1 := hru.1
      have hru2 := hru.2.1.2
      have hru3 := hru.2.2.1.2.2
      have hru4 := hru.2.2.2.1
      have nd8 := hru.2.2.2.2
      have p6 : P8 6 0 := (hru1 6 _).mpr (Or.inr ⟨Or.inl rfl, rfl⟩)
      have hn702 : n8 702 0 = 6 := (hru2 702 0 (by omega)).trans hX3.1
      have hR8 : (r8 1001 0 0 = some (2, 0) ∧ P8 2 0) ∧ (r8 1001 0 1 = some (3, 0) ∧ P8 3 0) ∧ (r8 1001 0 2 = some (702, 0) ∧ P8 702 0) ∧ r8 1001 0 3 = some (703, 0) := ⟨⟨(hru4 1001 0 0 (by omega)).trans hR0.1.1, (hru1 2 0).mpr (Or.inl hR0.1.2)⟩, ⟨(hru4 1001 0 1 (by omega)).trans hR0.2.1.1, (hru1 3 0).mpr (Or.inl hR0.2.1.2)⟩, ⟨(hru4 1001 0 2 (by omega)).trans hR0.2.2.1.1, (hru1 702 0).mpr (Or.inl hR0.2.2.1.2)⟩, (hru4 1001 0 3 (by omega)).trans hR0.2.2.2⟩
      change ax_J _ _ _ _ _ _ _ _ _ 116 [some (.inr (.inr (some (1001, 0)))), some (.inl 31)] [.inr (.inr (some (6, 0))), .inr (.inr (some (2, 0)))] (P8, g8, r8, n8)
      refine aj_putR (f := 2) (k := 4) (g := 6) (o := 0) (u := 0) (st := []) (ax_lk_ok (q := (2, 4)) rfl) rfl rfl (Or.inl ax_nf_2_4) (fun z9 => by revert z9; decide) (ax_dec2 (i := .putfield 60) (n := 3) ok_X10_init rfl) ?_
      change ax_J _ _ _ _ _ _ _ _ _ 119 [some (.inr (.inr (some (1001, 0)))), some (.inl 31)] [] (P8, g8, ax_u3 r8 2 0 4 (some (6, 0)), n8)
      have nd13 : ax_nd (P8, g8, ax_u3 r8 2 0 4 (some (6, 0)), n8) := nd_u nd8 p6
      refine aj_run (C := True) (pc' := 120) (la' := [some (.inr (.inr (some (1001, 0)))), some (.inl 31)]) (st' := [.inr (.inr (some (1001, 0)))]) (M' := (P8, g8, ax_u3 r8 2 0 4 (some (6, 0)), n8)) ok_X10_init true 1 rfl trivial ?_
      refine aj_getR (f := 1001) (k := 1) (g := 3) (o := 0) (u := 0) (ax_lk_ok (q := (1, 1)) rfl) rfl rfl (show ax_u3 r8 2 0 4 (some (6, 0)) 1001 0 1 = _ from (ax_u3_n (by omega)).trans hR8.2.1.1) hR8.2.1.2 (ax_dec2 (i := .getfield 19) (n := 3) ok_X10_init rfl) ?_
      refine aj_run (C := True) (pc' := 128) (la' := [some (.inr (.inr (some (1001, 0)))), some (.inl 31)]) (st' := [.inr (.inr (some (1001, 0)))]) (M' := (P8, ax_u3 g8 3 0 0 0, ax_u3 r8 2 0 4 (some (6, 0)), n8)) ok_X10_init true 3 rfl trivial ?_
      refine aj_getR (f := 1001) (k := 2) (g := 702) (o := 0) (u := 0) (ax_lk_ok (q := (1, 2)) rfl) rfl rfl (show ax_u3 r8 2 0 4 (some (6, 0)) 1001 0 2 = _ from (ax_u3_n (by omega)).trans hR8.2.2.1.1) hR8.2.2.1.2 (ax_dec2 (i := .getfield 25) (n := 3) ok_X10_init rfl) ?_
      refine aj_run (C := True) (pc' := 133) (la' := [some (.inr (.inr (some (1001, 0)))), some (.inl 31)]) (st' := [.inr (.inr (some (1001, 0))), .inl 0, .inr (.inr (some (702, 0)))]) (M' := (P8, ax_u3 g8 3 0 0 0, ax_u3 r8 2 0 4 (some (6, 0)), n8)) ok_X10_init true 2 rfl trivial ?_
      refine aj_getR (f := 1001) (k := 0) (g := 2) (o := 0) (u := 0) (ax_lk_ok (q := (1, 0)) rfl) rfl rfl (show ax_u3 r8 2 0 4 (some (6, 0)) 1001 0 0 = _ from (ax_u3_n (by omega)).trans hR8.1.1) hR8.1.2 (ax_dec2 (i := .getfield 10) (n := 3) ok_X10_init rfl) ?_
      refine aj_getR (f := 2) (k := 4) (g := 6) (o := 0) (u := 0) (ax_lk_ok (q := (2, 4)) rfl) rfl rfl (show ax_u3 r8 2 0 4 (some (6, 0)) 2 0 4 = _ from ax_u3_s) p6 (ax_dec2 (i := .getfield 60) (n := 3) ok_X10_init rfl) ?_
      refine aj_aast (f := 702) (g := 6) (ci := 4) (E := "AntsTurn$Rule") rfl rfl rfl rfl (fun c9 h9 _ => by simpa [ax_ok] using h9) rfl (Or.inl rfl) ⟨by omega, by show 0 < n8 702 0; omega⟩ (ax_dec2 (i := .aastore) (n := 1) ok_X10_init rfl) ?_
      change ax_J _ _ _ _ _ _ _ _ _ 140 [some (.inr (.inr (some (1001, 0)))), some (.inl 31)] [] (P8, ax_u3 g8 3 0 0 0, ax_u3 (ax_u3 r8 2 0 4 (some (6, 0))) 702 0 0 (some (6, 0)), n8)
      have nd14 : ax_nd (P8, ax_u3 g8 3 0 0 0, ax_u3 (ax_u3 r8 2 0 4 (some (6, 0))) 702 0 0 (some (6, 0)), n8) := nd_u nd13 p6
      refine aj_run (C := True) (pc' := 145) (la' := [some (.inr (.inr (some (1001, 0)))), some (.inl 31)]) (st' := []) (M' := (P8, ax_u3 (ax_u3 g8 3 0 0 0) 1001 0 4 1, ax_u3 (ax_u3 r8 2 0 4 (some (6, 0))) 702 0 0 (some (6, 0)), n8)) ok_X10_init true 3 rfl trivial ?_
      have hgF : ∀ (f : Nat) (o j : Int), ¬ (f = 3 ∧ o = 0 ∧ j = 0) → ¬ (f = 1001 ∧ o = 0 ∧ j = 4) → (ax_u3 (ax_u3 g8 3 0 0 0) 1001 0 4 1) f o j = g8 f o j := fun f o j a1 a2 => by rw [ax_u3_n (by omega), ax_u3_n (by omega)]
      have hg8 : ∀ (f : Nat) (o j : Int), ¬ (((f = 6 ∨ (600 ≤ f ∧ f ≤ 604)) ∧ o = 0) ∨ f = 1006 ∨ TRx f o j) → f ≠ 302 → ¬ (f = 3 ∧ o = 0 ∧ j = 0) → g8 f o j = g1 f o j := fun f o j a1 a2 a3 => (hru3 f o j a1).trans (j4 f o j (by omega) a3)
      have hgA8 : ∀ (f : Nat) (o j : Int), ¬ (((f = 6 ∨ (600 ≤ f ∧ f ≤ 604)) ∧ o = 0) ∨ f = 1006 ∨ TRx f o j) → f ≠ 302 → f ≠ 3 → f ≠ 4 → f ≠ 1004 → ¬ (f = 1001 ∧ o = 0 ∧ j = 4) → (ax_u3 (ax_u3 g8 3 0 0 0) 1001 0 4 1) f o j = gAq f o j := fun f o j a1 a2 a3 a4 a5 a6 => (hgF f o j (by omega) a6).trans ((hg8 f o j a1 a2 (by omega)).trans (i3.2.1 f o j a4 a5))
      have hrF : ∀ (f : Nat) (o j : Int), ¬ (f = 2 ∧ o = 0 ∧ j = 4) → ¬ (f = 702 ∧ o = 0 ∧ j = 0) → (ax_u3 (ax_u3 r8 2 0 4 (some (6, 0))) 702 0 0 (some (6, 0))) f o j = r8 f o j := fun f o j a1 a2 => by rw [ax_u3_n (by omega), ax_u3_n (by omega)]
      have hfin9 : cX10 P n P8 (ax_u3 (ax_u3 g8 3 0 0 0) 1001 0 4 1) (ax_u3 (ax_u3 r8 2 0 4 (some (6, 0))) 702 0 0 (some (6, 0))) n8 := by
        refine ⟨fun f o => ?_, fun f o z => hru2 f o (by omega), fun h hm => ?_, ⟨⟨?_, ?_, ?_, ?_, ?_⟩, ⟨?_, ?_, ?_⟩, fun s z1 z2 => ?_, fun f o j z => ?_⟩, ⟨⟨?_, ?_, ?_, ?_⟩, ⟨?_, ?_⟩, fun s z1 z2 => ?_, fun f o j z => ?_⟩, nd14⟩
        · rw [hru1 f o, i2 f o, hPA f o]
        · have hpd := ft_pd (p := tkP (kB 0) 31) (N := tkN (kB 0) 31) hm.1.1 hm.1.2.1 hm.1.2.2 hm.2.1 hm.2.2.1 hm.2.2.2
          exact rul_ok (tT_N (by decide)) (tkN_in (by decide)).1.1 hz hru (fun f j a1 a2 => hgF f 0 j (by omega) (by omega)) hpd
        · rw [hgA8 2 0 2 (by unfold TRx; omega) (by omega) (by omega) (by omega) (by omega) (by omega)]; exact hgA.1.1
        · rw [hgA8 2 0 11 (by unfold TRx; omega) (by omega) (by omega) (by omega) (by omega) (by omega)]; exact hgA.1.2.1
        · rw [hgA8 1001 0 6 (by unfold TRx; omega) (by omega) (by omega) (by omega) (by omega) (by omega)]; exact hgA.1.2.2.2
        · exact ax_u3_s
        · exact (ax_u3_n (by omega)).trans ax_u3_s
        · rw [hgA8 2 0 1 (by unfold TRx; omega) (by omega) (by omega) (by omega) (by omega) (by omega)]; exact hgA.1.2.2.1 1 (by omega) (by omega)
        · rw [hgA8 2 0 3 (by unfold TRx; omega) (by omega) (by omega) (by omega) (by omega) (by omega)]; exact hgA.1.2.2.1 3 (by omega) (by omega)
        · rw [hgA8 1001 0 5 (by unfold TRx; omega) (by omega) (by omega) (by omega) (by omega) (by omega)]; exact hgA.2 1001 0 5 (by omega) (by omega) (by omega) (by omega)
        · rw [hgF 4 s 0 (by omega) (by omega), hgF 4 s 1 (by omega) (by omega), hg8 4 s 0 (by unfold TRx; omega) (by omega) (by omega), hg8 4 s 1 (by unfold TRx; omega) (by omega) (by omega)]
          exact i3.1 s z1 z2
        · rw [hgA8 f o j (by unfold TRx; omega) (by omega) (by omega) (by omega) (by omega) (by omega)]
          exact hgA.2 f o j (by omega) (by omega) (by omega) (by omega)
        · rw [hrF 1001 0 0 (by omega) (by omega)]; exact hR8.1.1
        · rw [hrF 1001 0 1 (by omega) (by omega)]; exact hR8.2.1.1
        · rw [hrF 1001 0 2 (by omega) (by omega)]; exact hR8.2.2.1.1
        · rw [hrF 1001 0 3 (by omega) (by omega)]; exact hR8.2.2.2
        · exact (ax_u3_n (by omega)).trans ax_u3_s
        · exact ax_u3_s
        · rw [hrF 703 0 s (by omega) (by omega), hru4 703 0 s (by omega)]; exact i4.1 s z1 z2
        · rw [hrF f o j (by omega) (by omega), hru4 f o j (by omega), i4.2.1 f o j (by omega) (by omega) (by omega)]
          exact hrA.2 f o j (by omega) (by omega) (by omega) (by omega) (by omega)
      refine aj_ret (r := none) (ax_dec2 (i := .return_) (n := 1) ok_X10_init rfl) ⟨?_, ?_, by first | decide | omega, by first | decide | omega⟩ rfl
      · exact ⟨rfl, P8, _, _, n8, rfl, hfin9⟩
      · exact trivial
    · refine aj_run (C := True) (pc' := 86) (la' := [some (.inr (.inr (some (1001, 0)))), some (.inl i)]) (st' := [.inr (.inr (some (1001, 0)))]) (M' := (P1, g2, r1, n)) ok_X10_init true 1 rfl trivial ?_
      refine aj_getR (f := 1001) (k := 1) (g := 3) (o := 0) (u := 0) (ax_lk_ok (q := (1, 1)) rfl) rfl rfl hR0.2.1.1 hR0.2.1.2 (ax_dec2 (i := .getfield 19) (n := 3) ok_X10_init rfl) ?_
      refine aj_ldcS (k := 0) rfl rfl rfl (hS1.1 0 (by decide) (by decide)).1 (ax_dec2 (i := .ldc 40) (n := 2) ok_X10_init rfl) ?_
      refine aj_run (C := True) (pc' := 92) (la' := [some (.inr (.inr (some (1001, 0)))), some (.inl i)]) (st' := [.inl i, .inr (.inr (some (91, 0))), .inr (.inr (some (3, 0)))]) (M' := (P1, g2, r1, n)) ok_X10_init true 1 rfl trivial ?_
      refine aj_callK (av := [.inl i]) (st := [.inr (.inr (some (3, 0)))]) (o := 0) cal_J0_charAt_5068e lk_10_48 ins_J0_charAt_5068e sel_J0_charAt_5068e ⟨by decide, by decide⟩ (cp_chr 0 i _ _ _ _ ⟨by decide, by decide⟩ (hS1.1 0 (by decide) (by decide)).2 hS1.2 ⟨by omega, by omega⟩) ⟨by decide, by decide, by first | decide | (show _ ≤ 32; omega), by first | decide | (show _ ≤ 3185; omega)⟩ (Nat.le_of_ble_eq_true rfl) (ax_dec2 (i := .invokevirtual 48) (n := 3) ok_X10_init rfl) (fun r M' hq => ?_)
      obtain ⟨rfl, rfl⟩ := hq
      change ax_J _ _ _ _ _ _ _ _ _ 95 [some (.inr (.inr (some (1001, 0)))), some (.inl i)] [.inl (kB 0 i), .inr (.inr (some (3, 0)))] (P1, g2, r1, n)
      refine aj_callV (av := [.inl (kB 0 i)]) (st := []) (f := 3) (o := 0) (ci := 8) cal_X8_put lk_10_52 ins_X8_put rfl sel_X8_put rfl (fun c9 h9 _ => by simpa [ax_ok] using h9) (cp_put (kB 0 i) _ _ _ _ hX2.2.2.1 (by omega)) ⟨by decide, by decide, by first | decide | (show _ ≤ 32; omega), by first | decide | (show _ ≤ 3185; omega)⟩ (Nat.le_of_ble_eq_true rfl) (ax_dec2 (i := .invokevirtual 52) (n := 3) ok_X10_init rfl) (fun r M' hq => ?_)
      obtain ⟨rfl, rfl⟩ := hq
      rw [if_pos (show g2 3 0 0 < 160 by omega)]
      change ax_J _ _ _ _ _ _ _ _ _ 98 [some (.inr (.inr (some (1001, 0)))), some (.inl i)] [.inl (bI (g2 3 0 0 < 160))] (P1, ax_u3 (ax_u3 g2 302 0 (g2 3 0 0) (kB 0 i)) 3 0 0 (g2 3 0 0 + 1), r1, n)
      refine aj_run (C := (-2147483648 ≤ i + 1 ∧ i + 1 ≤ 2147483647) ∧ True) (pc' := 76) (la' := [some (.inr (.inr (some (1001, 0)))), some (.inl (i + 1))]) (st' := []) (M' := (P1, ax_u3 (ax_u3 g2 302 0 (g2 3 0 0) (kB 0 i)) 3 0 0 (g2 3 0 0 + 1), r1, n)) ok_X10_init true 3 rfl (by refine ⟨?_, trivial⟩ <;> (omega)) ?_
      refine ih76 (i + 1, ax_u3 (ax_u3 g2 302 0 (g2 3 0 0) (kB 0 i)) 3 0 0 (g2 3 0 0 + 1)) ?_ ?_
      · (try dsimp only); exact ⟨by omega, by rw [ax_u3_s, j2], fun k z1 z2 => by
      rw [ax_u3_n (by omega)]
      by_cases c : k = i
      · rw [c, ← j2, ax_u3_s]
      · rw [ax_u3_n (by omega)]; exact j3 k z1 (by omega), fun f o j a1 a2 => by rw [ax_u3_n (by omega), ax_u3_n (by omega)]; exact j4 f o j a1 a2⟩
      · omega
  · have hR3 : r1 1001 0 3 = some (703, 0) ∧ P1 703 0 := ⟨(i4.2.1 1001 0 3 (by omega) (by omega) (by omega)).trans hrA.1.2.2.2, (i2 703 0).mpr (Or.inl ((hPA 703 0).mpr (Or.inr (by unfold fX; omega))))⟩
    have hraw4 : ¬ P1 1004 i := fun z9 => by rcases (i2 _ _).mp z9 with y | y; exact absurd (hpA _ _ y) (by omega); omega
    have hbl4 : ∀ f9 : Nat, 400 ≤ f9 → f9 ≤ 499 → ¬ P1 f9 i := fun f9 h8 h9 z9 => by rcases (i2 _ _).mp z9 with y | y; exact absurd (hpA _ _ y) (by omega); omega
    have hfin4 : ¬ P1 4 i := fun z9 => by rcases (i2 _ _).mp z9 with y | y; exact absurd (hpA _ _ y) (by omega); omega
    have hzr4 : ∀ (f9 : Nat) (j9 : Int), (400 ≤ f9 ∧ f9 ≤ 499) ∨ f9 = 1004 → r1 f9 i j9 = none := fun f9 j9 h9 => by
      by_cases c : f9 = 1004
      · rw [c]; exact i4.2.2 i j9 (by omega)
      · exact (i4.2.1 f9 i j9 (by omega) c (by omega)).trans (hrA.2 f9 i j9 (by omega) (by omega) (by omega) (by omega) (by omega))
    have hzg4 : ∀ (f9 : Nat) (j9 : Int), (400 ≤ f9 ∧ f9 ≤ 499) ∨ f9 = 1004 → g1 f9 i j9 = 0 := fun f9 j9 h9 => by
      by_cases c : f9 = 1004
      · rw [c]; exact i3.2.2 i j9 (by omega)
      · exact (i3.2.1 f9 i j9 (by omega) c).trans (hgA.2 f9 i j9 (by omega) (by omega) (by omega) (by omega))
    refine aj_run (C := True) (pc' := 56) (la' := [some (.inr (.inr (some (1001, 0)))), some (.inl i)]) (st' := [.inr (.inr (some (1001, 0)))]) (M' := (P1, g1, r1, n)) ok_X10_init true 1 rfl trivial ?_
    refine aj_getR (f := 1001) (k := 3) (g := 703) (o := 0) (u := 0) (ax_lk_ok (q := (1, 3)) rfl) rfl rfl hR3.1 hR3.2 (ax_dec2 (i := .getfield 31) (n := 3) ok_X10_init rfl) ?_
    refine aj_run (C := True) (pc' := 60) (la' := [some (.inr (.inr (some (1001, 0)))), some (.inl i)]) (st' := [.inl i, .inr (.inr (some (703, 0)))]) (M' := (P1, g1, r1, n)) ok_X10_init true 1 rfl trivial ?_
    refine aj_new (ci := 5) (f := 1004) (o := i) rfl rfl (by decide) (by decide) (ax_T1 (i := 150) (by decide +kernel) rfl) (ax_T1 (i := 152) (by decide +kernel) rfl) (ax_T1 (i := 4) (by decide +kernel) rfl) hraw4 i5 ⟨by show _ ≤ 32; omega, by show _ ≤ 3185; omega⟩ (ax_dec2 (i := .new 29) (n := 3) ok_X10_init rfl) ?_
    change ax_J _ _ _ _ _ _ _ _ _ 63 [some (.inr (.inr (some (1001, 0)))), some (.inl i)] [.inr (.inr (some (1004, i))), .inl i, .inr (.inr (some (703, 0)))] (mkP P1 1004 i, mkG g1 1004 i, mkR r1 1004 i, mkN n 1004 i 5)
    have nd15 : ax_nd (mkP P1 1004 i, mkG g1 1004 i, mkR r1 1004 i, mkN n 1004 i 5) := nd_mk i5
    rw [mkG_e (g := g1) (f := 1004) (o := i) (fun j => hzg4 1004 j (Or.inr rfl)), mkR_e (r := r1) (f := 1004) (o := i) (fun j => hzr4 1004 j (Or.inr rfl)), mkN_e (n := n) (f := 1004) (o := i) (x := 5) (hX4 i (by omega) (by omega)).1]
    have nd16 : ax_nd (mkP P1 1004 i, g1, r1, n) := by have z := nd15; rw [mkG_e (g := g1) (f := 1004) (o := i) (fun j => hzg4 1004 j (Or.inr rfl)), mkR_e (r := r1) (f := 1004) (o := i) (fun j => hzr4 1004 j (Or.inr rfl)), mkN_e (n := n) (f := 1004) (o := i) (x := 5) (hX4 i (by omega) (by omega)).1] at z; exact z
    change ax_J _ _ _ _ _ _ _ _ _ 63 [some (.inr (.inr (some (1001, 0)))), some (.inl i)] [.inr (.inr (some (1004, i))), .inl i, .inr (.inr (some (703, 0)))] (mkP P1 1004 i, g1, r1, n)
    refine aj_run (C := True) (pc' := 64) (la' := [some (.inr (.inr (some (1001, 0)))), some (.inl i)]) (st' := [.inr (.inr (some (1004, i))), .inr (.inr (some (1004, i))), .inl i, .inr (.inr (some (703, 0)))]) (M' := (mkP P1 1004 i, g1, r1, n)) ok_X10_init true 1 rfl trivial ?_
    refine aj_callIN (y := yX5_init) (host := "AntsTurn") (idx := 39) (av := []) (st := [.inr (.inr (some (1004, i))), .inl i, .inr (.inr (some (703, 0)))]) (f := 1004) (o := i) cal_X5_init rfl (by decide) ins_X5_init (cp_X5_init i _ _ _ _ (fun f9 h8 h9 => mkP_n (fun z9 => absurd z9.1 (by omega)) (hbl4 f9 h8 (by omega))) nd16 ⟨fun f9 j9 h8 h9 => hzg4 f9 j9 (by omega), fun f9 j9 h8 h9 => hzr4 f9 j9 (by omega), trivial⟩ (hX4 i (by omega) (by omega)).2.2) ⟨by decide, by decide, by first | decide | (show _ ≤ 32; omega), by first | decide | (show _ ≤ 3185; omega)⟩ (Nat.le_of_ble_eq_true rfl) (ax_dec2 (i := .invokespecial 39) (n := 3) ok_X10_init rfl) (fun r M' hq => ?_)
    obtain ⟨rfl, rfl⟩ := hq
    have hndm : ax_nd (mkP (mkP P1 1004 i) 402 i, ax_u3 g1 1004 i 0 (-1), ax_u3 r1 1004 i 2 (some (402, i)), n) := sh_nd (nd_p i5 (fun j9 => hzr4 1004 j9 (Or.inr rfl))) hzr4
    have hnrm : ax_nr (mkP (mkP P1 1004 i) 402 i, ax_u3 g1 1004 i 0 (-1), ax_u3 r1 1004 i 2 (some (402, i)), n) 1004 i := sh_nr i5 hraw4 hzr4
    change ax_J _ _ _ _ _ _ _ _ _ 67 [some (.inr (.inr (some (1001, 0)))), some (.inl i)] [.inr (.inr (some (1004, i))), .inl i, .inr (.inr (some (703, 0)))] (mkP (mkP P1 1004 i) 402 i, ax_u3 g1 1004 i 0 (-1), ax_u3 r1 1004 i 2 (some (402, i)), n)
    refine aj_name (f := 4) (o := i) (by decide) rfl sh_m.1 (fun z9 => by rcases z9 with z9 | z9 | z9 <;> first | omega | exact hfin4 z9) (fun z9 => absurd (hp _ _ z9) (by omega)) hndm hnrm (by decide) ?_ (by intro v9 h9; simp at h9; first | (subst h9; rfl) | (rcases h9 with h9 | h9 <;> subst h9 <;> rfl)) (by intro v9 h9; simp at h9; first | (subst h9; rfl) | (rcases h9 with h9 | h9 <;> subst h9 <;> rfl)) ?_
    · intro k9 h8 h9
      have hk9 : k9 = 2 := by
        have e9 : ∀ q : Nat, q < 3 → ax_isA 4 q = true → q = 2 := by decide
        exact e9 k9 h9 h8
      subst hk9
      · exact ⟨(sh_k (r := r1) (o := i)).1, (sh_m (P := P1) (o := i)).2⟩
    obtain ⟨P5, g5, r5, e5, hP5, hga5, hg5, hr5, nd5⟩ := of_sh (P := P1) (g := g1) (r := r1) (n := n) (o := i) i5 hraw4 hzr4 (fun j9 => hzg4 1004 j9 (Or.inr rfl)) ((hX4 i (by omega) (by omega)).2.1.trans (hX4 i (by omega) (by omega)).1.symm)
    rw [e5]
    change ax_J _ _ _ _ _ _ _ _ _ 67 [some (.inr (.inr (some (1001, 0)))), some (.inl i)] [.inr (.inr (some (4, i))), .inl i, .inr (.inr (some (703, 0)))] (P5, g5, r5, n)
    have hg5x := hg5
    have hr5x := hr5
    have hn703 : n 703 0 = 4 := hX3.2
    refine aj_aast (f := 703) (g := 4) (ci := 5) (E := "AntsTurn$Sheet") rfl rfl rfl rfl (fun c9 h9 _ => by simpa [ax_ok] using h9) rfl (Or.inl rfl) ⟨by omega, by show i < n 703 0; omega⟩ (ax_dec2 (i := .aastore) (n := 1) ok_X10_init rfl) ?_
    change ax_J _ _ _ _ _ _ _ _ _ 68 [some (.inr (.inr (some (1001, 0)))), some (.inl i)] [] (P5, g5, ax_u3 r5 703 0 i (some (4, i)), n)
    have nd17 : ax_nd (P5, g5, ax_u3 r5 703 0 i (some (4, i)), n) := nd_u nd5 ((hP5 4 i).mpr (Or.inr ⟨Or.inl rfl, rfl⟩))
    refine aj_run (C := (-2147483648 ≤ i + 1 ∧ i + 1 ≤ 2147483647) ∧ True) (pc' := 50) (la' := [some (.inr (.inr (some (1001, 0)))), some (.inl (i + 1))]) (st' := []) (M' := (P5, g5, ax_u3 r5 703 0 i (some (4, i)), n)) ok_X10_init true 2 rfl (by refine ⟨?_, trivial⟩ <;> (omega)) ?_
    refine aj_kc (kc' := 18 + 2 * (i + 1).toNat) (ks' := 2365 + 43 * (i + 1).toNat) (by omega) (by omega) ?_
    refine ih50 (i + 1, P5, g5, ax_u3 r5 703 0 i (some (4, i))) ?_ ?_
    · (try dsimp only); exact ⟨by omega, fun f o => by
      rw [hP5 f o, i2 f o]
      constructor
      · rintro ((z | z) | z)
        · exact Or.inl z
        · exact Or.inr (by omega)
        · exact Or.inr (by omega)
      · rintro (z | z)
        · exact Or.inl (Or.inl z)
        · by_cases c : o = i
          · exact Or.inr (by omega)
          · exact Or.inl (Or.inr (by omega)), ⟨fun s z1 z2 => by
      by_cases c : s = i
      · rw [c]; exact hga5
      · rw [hg5x 4 s 0 (by omega), hg5x 4 s 1 (by omega)]; exact i3.1 s z1 (by omega), fun f o j a1 a2 => (hg5x f o j (by omega)).trans (i3.2.1 f o j a1 a2), fun o j z => (hg5x 1004 o j (by omega)).trans (i3.2.2 o j (by omega))⟩, ⟨fun s z1 z2 => by
      by_cases c : s = i
      · rw [c, ax_u3_s]
      · rw [ax_u3_n (by omega), hr5x 703 0 s (by omega)]; exact i4.1 s z1 (by omega), fun f o j a1 a2 a3 => (ax_u3_n (by omega)).trans ((hr5x f o j (by omega)).trans (i4.2.1 f o j a1 a2 a3)), fun o j z => (ax_u3_n (by omega)).trans ((hr5x 1004 o j (by omega)).trans (i4.2.2 o j (by omega)))⟩, nd17⟩
    · omega

