/-! ===== a rule is made; the tape is read ===== -/
def rlP (P : Nat → Int → Prop) (t : Int) : Nat → Int → Prop := mkP (mkP (mkP (mkP (mkP P 600 t) 601 t) 602 t) 603 t) 604 t
def rlR (r0 : Nat → Int → Int → Option (Nat × Int)) (t : Int) : Nat → Int → Int → Option (Nat × Int) := ax_u3 (mkR (ax_u3 (mkR (ax_u3 (mkR (ax_u3 (mkR (ax_u3 (mkR r0 600 t) 1006 t 0 (some (600, t))) 601 t) 1006 t 1 (some (601, t))) 602 t) 1006 t 2 (some (602, t))) 603 t) 1006 t 3 (some (603, t))) 604 t) 1006 t 4 (some (604, t))
def rlN (n : Nat → Int → Int) (t m : Int) : Nat → Int → Int := mkN (mkN (mkN (mkN (mkN n 600 t m) 601 t m) 602 t m) 603 t 3) 604 t m
section NR
variable {P : Nat → Int → Prop} {g : Nat → Int → Int → Int} {r : Nat → Int → Int → Option (Nat × Int)} {n : Nat → Int → Int} {F : Nat} {o : Int}
theorem nr_0 (hnd : ax_nd (P, g, r, n)) (hp : ¬ P F o) (h9 : F ≠ 999) : ax_nr (P, g, r, n) F o := by
  intro f o' j hm hq
  rcases hnd f o' j _ hm hq with y | y
  · exact hp y
  · cases y
    exact h9 rfl
theorem nr_mk {f : Nat} {o' x : Int} (h : ax_nr (P, g, r, n) F o) : ax_nr (mkP P f o', mkG g f o', mkR r f o', mkN n f o' x) F o := by
  intro f2 o2 j hm hq
  have hq : mkR r f o' f2 o2 j = some (F, o) := hq
  by_cases c : f2 = f ∧ o2 = o'
  · rw [c.1, c.2, mkR_s] at hq
    cases hq
  · rw [mkR_n c] at hq
    exact h f2 o2 j (hm.resolve_left c) hq
theorem nr_u {f : Nat} {o' j : Int} {q : Nat × Int} (h : ax_nr (P, g, r, n) F o) (hq : q ≠ (F, o)) : ax_nr (P, g, ax_u3 r f o' j (some q), n) F o := by
  intro f2 o2 j2 hm hw
  have hw : ax_u3 r f o' j (some q) f2 o2 j2 = some (F, o) := hw
  by_cases c : f2 = f ∧ o2 = o' ∧ j2 = j
  · rw [c.1, c.2.1, c.2.2, ax_u3_s] at hw
    exact hq (Option.some.inj hw)
  · rw [ax_u3_n c] at hw
    exact h f2 o2 j2 hm hw
theorem nr_g {g' : Nat → Int → Int → Int} {n' : Nat → Int → Int} (h : ax_nr (P, g, r, n) F o) : ax_nr (P, g', r, n') F o := h
end NR
theorem nd_rl {P : Nat → Int → Prop} {g g' : Nat → Int → Int → Int} {r : Nat → Int → Int → Option (Nat × Int)} {n : Nat → Int → Int} {t m : Int} (h : ax_nd (P, g, r, n)) : ax_nd (rlP P t, g', rlR r t, rlN n t m) := nd_g (nd_u (nd_mk (x := m) (f := 604) (o := t) (nd_u (nd_mk (x := 3) (f := 603) (o := t) (nd_u (nd_mk (x := m) (f := 602) (o := t) (nd_u (nd_mk (x := m) (f := 601) (o := t) (nd_u (nd_mk (x := m) (f := 600) (o := t) (h)) (Or.inl ⟨rfl, rfl⟩))) (Or.inl ⟨rfl, rfl⟩))) (Or.inl ⟨rfl, rfl⟩))) (Or.inl ⟨rfl, rfl⟩))) (Or.inl ⟨rfl, rfl⟩))
theorem nr_rl {P : Nat → Int → Prop} {g g' : Nat → Int → Int → Int} {r : Nat → Int → Int → Option (Nat × Int)} {n : Nat → Int → Int} {t m o : Int} (h : ax_nr (P, g, r, n) 1006 o) : ax_nr (rlP P t, g', rlR r t, rlN n t m) 1006 o := nr_g (nr_u (nr_mk (x := m) (f := 604) (o' := t) (nr_u (nr_mk (x := 3) (f := 603) (o' := t) (nr_u (nr_mk (x := m) (f := 602) (o' := t) (nr_u (nr_mk (x := m) (f := 601) (o' := t) (nr_u (nr_mk (x := m) (f := 600) (o' := t) (h)) (by simp))) (by simp))) (by simp))) (by simp))) (by simp))
theorem rlP_i {P : Nat → Int → Prop} {t : Int} {f : Nat} {o : Int} : rlP P t f o ↔ (P f o ∨ ((600 ≤ f ∧ f ≤ 604) ∧ o = t)) := by
  unfold rlP mkP
  constructor
  · rintro (h | h | h | h | h | h)
    · exact Or.inr ⟨by omega, h.2⟩
    · exact Or.inr ⟨by omega, h.2⟩
    · exact Or.inr ⟨by omega, h.2⟩
    · exact Or.inr ⟨by omega, h.2⟩
    · exact Or.inr ⟨by omega, h.2⟩
    · exact Or.inl h
  · rintro (h | ⟨h, rfl⟩)
    · exact Or.inr (Or.inr (Or.inr (Or.inr (Or.inr h))))
    · have : f = 600 ∨ f = 601 ∨ f = 602 ∨ f = 603 ∨ f = 604 := by omega
      rcases this with e | e | e | e | e
      · exact Or.inr (Or.inr (Or.inr (Or.inr (Or.inl ⟨e, rfl⟩))))
      · exact Or.inr (Or.inr (Or.inr (Or.inl ⟨e, rfl⟩)))
      · exact Or.inr (Or.inr (Or.inl ⟨e, rfl⟩))
      · exact Or.inr (Or.inl ⟨e, rfl⟩)
      · exact Or.inl ⟨e, rfl⟩
theorem rlR_o {r : Nat → Int → Int → Option (Nat × Int)} {t : Int} {f : Nat} {o j : Int} (h : ¬ (((600 ≤ f ∧ f ≤ 604) ∧ o = t) ∨ f = 1006)) : rlR r t f o j = r f o j := by
  unfold rlR
  rw [ax_u3_n (by omega), mkR_n (by omega), ax_u3_n (by omega), mkR_n (by omega), ax_u3_n (by omega), mkR_n (by omega), ax_u3_n (by omega), mkR_n (by omega), ax_u3_n (by omega), mkR_n (by omega)]
theorem rlR_k {r : Nat → Int → Int → Option (Nat × Int)} {t : Int} : rlR r t 1006 t 0 = some (600, t) ∧ rlR r t 1006 t 1 = some (601, t) ∧ rlR r t 1006 t 2 = some (602, t) ∧ rlR r t 1006 t 3 = some (603, t) ∧ rlR r t 1006 t 4 = some (604, t) := by
  unfold rlR
  refine ⟨?_, ?_, ?_, ?_, ?_⟩ <;> simp [ax_u3, mkR]
theorem rlN_o {n : Nat → Int → Int} {t m : Int} {f : Nat} {o : Int} (h : ¬ ((600 ≤ f ∧ f ≤ 604) ∧ o = t)) : rlN n t m f o = n f o := by
  unfold rlN
  rw [mkN_n (by omega), mkN_n (by omega), mkN_n (by omega), mkN_n (by omega), mkN_n (by omega)]
theorem rlN_k {n : Nat → Int → Int} {t m : Int} : rlN n t m 600 t = m ∧ rlN n t m 601 t = m ∧ rlN n t m 602 t = m ∧ rlN n t m 603 t = 3 ∧ rlN n t m 604 t = m := by
  unfold rlN
  refine ⟨?_, ?_, ?_, ?_, ?_⟩ <;> simp [mkN]
theorem ax_fi_6_0 : ∀ (ci : Nat) (C : String) (T : u_T) (N : Nat), ax_ok 1006 ci = true → vwCl[ci]? = some (C, T, N) → (T 0).2.2.2 = true ∧ (T 0).1 = ax_nm 104 := by
  intro ci C T N h1 h2
  have z : ci = 4 := by simpa [ax_ok] using h1
  subst z; cases h2; exact ⟨rfl, rfl⟩
theorem ax_fi_6_1 : ∀ (ci : Nat) (C : String) (T : u_T) (N : Nat), ax_ok 1006 ci = true → vwCl[ci]? = some (C, T, N) → (T 1).2.2.2 = true ∧ (T 1).1 = ax_nm 104 := by
  intro ci C T N h1 h2
  have z : ci = 4 := by simpa [ax_ok] using h1
  subst z; cases h2; exact ⟨rfl, rfl⟩
theorem ax_fi_6_2 : ∀ (ci : Nat) (C : String) (T : u_T) (N : Nat), ax_ok 1006 ci = true → vwCl[ci]? = some (C, T, N) → (T 2).2.2.2 = true ∧ (T 2).1 = ax_nm 104 := by
  intro ci C T N h1 h2
  have z : ci = 4 := by simpa [ax_ok] using h1
  subst z; cases h2; exact ⟨rfl, rfl⟩
theorem ax_fi_6_3 : ∀ (ci : Nat) (C : String) (T : u_T) (N : Nat), ax_ok 1006 ci = true → vwCl[ci]? = some (C, T, N) → (T 3).2.2.2 = true ∧ (T 3).1 = ax_nm 104 := by
  intro ci C T N h1 h2
  have z : ci = 4 := by simpa [ax_ok] using h1
  subst z; cases h2; exact ⟨rfl, rfl⟩
theorem ax_fi_6_4 : ∀ (ci : Nat) (C : String) (T : u_T) (N : Nat), ax_ok 1006 ci = true → vwCl[ci]? = some (C, T, N) → (T 4).2.2.2 = true ∧ (T 4).1 = ax_nm 104 := by
  intro ci C T N h1 h2
  have z : ci = 4 := by simpa [ax_ok] using h1
  subst z; cases h2; exact ⟨rfl, rfl⟩
set_option maxRecDepth 100000 in
set_option maxHeartbeats 4000000 in
theorem cp_X4_init (t m : Int) (P : Nat → Int → Prop) (g : Nat → Int → Int → Int) (r0 : Nat → Int → Int → Option (Nat × Int)) (n : Nat → Int → Int) (hn : cTL n) (hm : 0 ≤ m ∧ m ≤ 160) (hfr : ∀ k : Nat, 600 ≤ k → k ≤ 604 → ¬ P k t) (hnd : ax_nd (P, g, r0, n)) : ax_S yX4_init cX4_init 6 none 2 5 643 [.inr (.inr (some (1006, t))), .inr (.inr (some (308, 0))), .inr (.inr (some (309, 0))), .inr (.inr (some (310, 0))), .inr (.inr (some (311, 0))), .inl m] (P, g, r0, n) (fun r M' => r = none ∧ ∃ g', M' = (rlP P t, g', rlR r0 t, rlN n t m) ∧ (∀ j, 0 ≤ j → j < m → g' 600 t j = g 308 0 j ∧ g' 601 t j = g 309 0 j ∧ g' 602 t j = g 310 0 j) ∧ (∀ j, 0 ≤ j → j < 3 → g' 603 t j = g 311 0 j) ∧ ∀ f o j, ¬ ((600 ≤ f ∧ f ≤ 604) ∧ o = t) → g' f o j = g f o j) := by
  obtain ⟨n302, n303, n304, n305, n308, n309, n310, n311⟩ := id hn
  refine ax_S_of (own := 104) (by decide) rfl (fun _ => rfl) rfl (Nat.le_of_ble_eq_true rfl) ?_
  change ax_J _ _ _ _ _ _ _ _ _ _ [some (.inr (.inr (some (1006, t)))), some (.inr (.inr (some (308, 0)))), some (.inr (.inr (some (309, 0)))), some (.inr (.inr (some (310, 0)))), some (.inr (.inr (some (311, 0)))), some (.inl m)] _ _
  refine aj_run (C := True) (pc' := 1) (la' := [some (.inr (.inr (some (1006, t)))), some (.inr (.inr (some (308, 0)))), some (.inr (.inr (some (309, 0)))), some (.inr (.inr (some (310, 0)))), some (.inr (.inr (some (311, 0)))), some (.inl m)]) (st' := [.inr (.inr (some (1006, t)))]) (M' := (P, g, r0, n)) ok_X4_init true 1 rfl trivial ?_
  refine aj_objI lk_4_3 ins_obj code_obj (by decide) (by decide) (ax_dec2 (i := .invokespecial 3) (n := 3) ok_X4_init rfl) ?_
  refine aj_run (C := True) (pc' := 8) (la' := [some (.inr (.inr (some (1006, t)))), some (.inr (.inr (some (308, 0)))), some (.inr (.inr (some (309, 0)))), some (.inr (.inr (some (310, 0)))), some (.inr (.inr (some (311, 0)))), some (.inl m)]) (st' := [.inl m, .inr (.inr (some (308, 0))), .inr (.inr (some (1006, t)))]) (M' := (P, g, r0, n)) ok_X4_init true 3 rfl trivial ?_
  have hl600 : n 308 0 = 160 := by (repeat rw [mkN_n (by omega)]); exact n308
  have hf600 : ¬ P 600 t := by (repeat refine mkP_n (by omega) ?_); exact hfr 600 (by decide) (by decide)
  refine aj_callS (av := [.inr (.inr (some (308, 0))), .inl m]) (st := [.inr (.inr (some (1006, t)))]) cal_J7_copyOf_59c91 lk_4_9 stc_J7_copyOf_59c91 (cp_copyOf_600 t m _ _ _ _ hl600 (by omega) hf600 hnd) ⟨by decide, by decide, by decide, by decide⟩ (Nat.le_of_ble_eq_true rfl) (ax_dec2 (i := .invokestatic 9) (n := 3) ok_X4_init rfl) (fun r M' hq => ?_)
  obtain ⟨rfl, g600, rfl, a600, b600⟩ := hq
  change ax_J _ _ _ _ _ _ _ _ _ 11 [some (.inr (.inr (some (1006, t)))), some (.inr (.inr (some (308, 0)))), some (.inr (.inr (some (309, 0)))), some (.inr (.inr (some (310, 0)))), some (.inr (.inr (some (311, 0)))), some (.inl m)] [.inr (.inr (some (600, t))), .inr (.inr (some (1006, t)))] (mkP P 600 t, g600, mkR r0 600 t, mkN n 600 t m)
  have nd1 : ax_nd (mkP P 600 t, g600, mkR r0 600 t, mkN n 600 t m) := nd_g (g := mkG g 600 t) (nd_mk hnd)
  refine aj_putR (f := 1006) (k := 0) (g := 600) (o := t) (u := t) (st := []) (ax_lk_ok (q := (6, 0)) rfl) rfl rfl (Or.inr ⟨by decide, ax_fi_6_0⟩) (fun z9 => by revert z9; decide) (ax_dec2 (i := .putfield 15) (n := 3) ok_X4_init rfl) ?_
  change ax_J _ _ _ _ _ _ _ _ _ 14 [some (.inr (.inr (some (1006, t)))), some (.inr (.inr (some (308, 0)))), some (.inr (.inr (some (309, 0)))), some (.inr (.inr (some (310, 0)))), some (.inr (.inr (some (311, 0)))), some (.inl m)] [] (mkP P 600 t, g600, ax_u3 (mkR r0 600 t) 1006 t 0 (some (600, t)), mkN n 600 t m)
  have nd2 : ax_nd (mkP P 600 t, g600, ax_u3 (mkR r0 600 t) 1006 t 0 (some (600, t)), mkN n 600 t m) := nd_u nd1 (Or.inl ⟨rfl, rfl⟩)
  refine aj_run (C := True) (pc' := 18) (la' := [some (.inr (.inr (some (1006, t)))), some (.inr (.inr (some (308, 0)))), some (.inr (.inr (some (309, 0)))), some (.inr (.inr (some (310, 0)))), some (.inr (.inr (some (311, 0)))), some (.inl m)]) (st' := [.inl m, .inr (.inr (some (309, 0))), .inr (.inr (some (1006, t)))]) (M' := (mkP P 600 t, g600, ax_u3 (mkR r0 600 t) 1006 t 0 (some (600, t)), mkN n 600 t m)) ok_X4_init true 3 rfl trivial ?_
  have hl601 : (mkN n 600 t m) 309 0 = 160 := by (repeat rw [mkN_n (by omega)]); exact n309
  have hf601 : ¬ (mkP P 600 t) 601 t := by (repeat refine mkP_n (by omega) ?_); exact hfr 601 (by decide) (by decide)
  refine aj_callS (av := [.inr (.inr (some (309, 0))), .inl m]) (st := [.inr (.inr (some (1006, t)))]) cal_J7_copyOf_59c91 lk_4_9 stc_J7_copyOf_59c91 (cp_copyOf_601 t m _ _ _ _ hl601 (by omega) hf601 nd2) ⟨by decide, by decide, by decide, by decide⟩ (Nat.le_of_ble_eq_true rfl) (ax_dec2 (i := .invokestatic 9) (n := 3) ok_X4_init rfl) (fun r M' hq => ?_)
  obtain ⟨rfl, g601, rfl, a601, b601⟩ := hq
  change ax_J _ _ _ _ _ _ _ _ _ 21 [some (.inr (.inr (some (1006, t)))), some (.inr (.inr (some (308, 0)))), some (.inr (.inr (some (309, 0)))), some (.inr (.inr (some (310, 0)))), some (.inr (.inr (some (311, 0)))), some (.inl m)] [.inr (.inr (some (601, t))), .inr (.inr (some (1006, t)))] (mkP (mkP P 600 t) 601 t, g601, mkR (ax_u3 (mkR r0 600 t) 1006 t 0 (some (600, t))) 601 t, mkN (mkN n 600 t m) 601 t m)
  have nd3 : ax_nd (mkP (mkP P 600 t) 601 t, g601, mkR (ax_u3 (mkR r0 600 t) 1006 t 0 (some (600, t))) 601 t, mkN (mkN n 600 t m) 601 t m) := nd_g (g := mkG g600 601 t) (nd_mk nd2)
  refine aj_putR (f := 1006) (k := 1) (g := 601) (o := t) (u := t) (st := []) (ax_lk_ok (q := (6, 1)) rfl) rfl rfl (Or.inr ⟨by decide, ax_fi_6_1⟩) (fun z9 => by revert z9; decide) (ax_dec2 (i := .putfield 21) (n := 3) ok_X4_init rfl) ?_
  change ax_J _ _ _ _ _ _ _ _ _ 24 [some (.inr (.inr (some (1006, t)))), some (.inr (.inr (some (308, 0)))), some (.inr (.inr (some (309, 0)))), some (.inr (.inr (some (310, 0)))), some (.inr (.inr (some (311, 0)))), some (.inl m)] [] (mkP (mkP P 600 t) 601 t, g601, ax_u3 (mkR (ax_u3 (mkR r0 600 t) 1006 t 0 (some (600, t))) 601 t) 1006 t 1 (some (601, t)), mkN (mkN n 600 t m) 601 t m)
  have nd4 : ax_nd (mkP (mkP P 600 t) 601 t, g601, ax_u3 (mkR (ax_u3 (mkR r0 600 t) 1006 t 0 (some (600, t))) 601 t) 1006 t 1 (some (601, t)), mkN (mkN n 600 t m) 601 t m) := nd_u nd3 (Or.inl ⟨rfl, rfl⟩)
  refine aj_run (C := True) (pc' := 28) (la' := [some (.inr (.inr (some (1006, t)))), some (.inr (.inr (some (308, 0)))), some (.inr (.inr (some (309, 0)))), some (.inr (.inr (some (310, 0)))), some (.inr (.inr (some (311, 0)))), some (.inl m)]) (st' := [.inl m, .inr (.inr (some (310, 0))), .inr (.inr (some (1006, t)))]) (M' := (mkP (mkP P 600 t) 601 t, g601, ax_u3 (mkR (ax_u3 (mkR r0 600 t) 1006 t 0 (some (600, t))) 601 t) 1006 t 1 (some (601, t)), mkN (mkN n 600 t m) 601 t m)) ok_X4_init true 3 rfl trivial ?_
  have hl602 : (mkN (mkN n 600 t m) 601 t m) 310 0 = 160 := by (repeat rw [mkN_n (by omega)]); exact n310
  have hf602 : ¬ (mkP (mkP P 600 t) 601 t) 602 t := by (repeat refine mkP_n (by omega) ?_); exact hfr 602 (by decide) (by decide)
  refine aj_callS (av := [.inr (.inr (some (310, 0))), .inl m]) (st := [.inr (.inr (some (1006, t)))]) cal_J7_copyOf_59c91 lk_4_9 stc_J7_copyOf_59c91 (cp_copyOf_602 t m _ _ _ _ hl602 (by omega) hf602 nd4) ⟨by decide, by decide, by decide, by decide⟩ (Nat.le_of_ble_eq_true rfl) (ax_dec2 (i := .invokestatic 9) (n := 3) ok_X4_init rfl) (fun r M' hq => ?_)
  obtain ⟨rfl, g602, rfl, a602, b602⟩ := hq
  change ax_J _ _ _ _ _ _ _ _ _ 31 [some (.inr (.inr (some (1006, t)))), some (.inr (.inr (some (308, 0)))), some (.inr (.inr (some (309, 0)))), some (.inr (.inr (some (310, 0)))), some (.inr (.inr (some (311, 0)))), some (.inl m)] [.inr (.inr (some (602, t))), .inr (.inr (some (1006, t)))] (mkP (mkP (mkP P 600 t) 601 t) 602 t, g602, mkR (ax_u3 (mkR (ax_u3 (mkR r0 600 t) 1006 t 0 (some (600, t))) 601 t) 1006 t 1 (some (601, t))) 602 t, mkN (mkN (mkN n 600 t m) 601 t m) 602 t m)
  have nd5 : ax_nd (mkP (mkP (mkP P 600 t) 601 t) 602 t, g602, mkR (ax_u3 (mkR (ax_u3 (mkR r0 600 t) 1006 t 0 (some (600, t))) 601 t) 1006 t 1 (some (601, t))) 602 t, mkN (mkN (mkN n 600 t m) 601 t m) 602 t m) := nd_g (g := mkG g601 602 t) (nd_mk nd4)
  refine aj_putR (f := 1006) (k := 2) (g := 602) (o := t) (u := t) (st := []) (ax_lk_ok (q := (6, 2)) rfl) rfl rfl (Or.inr ⟨by decide, ax_fi_6_2⟩) (fun z9 => by revert z9; decide) (ax_dec2 (i := .putfield 24) (n := 3) ok_X4_init rfl) ?_
  change ax_J _ _ _ _ _ _ _ _ _ 34 [some (.inr (.inr (some (1006, t)))), some (.inr (.inr (some (308, 0)))), some (.inr (.inr (some (309, 0)))), some (.inr (.inr (some (310, 0)))), some (.inr (.inr (some (311, 0)))), some (.inl m)] [] (mkP (mkP (mkP P 600 t) 601 t) 602 t, g602, ax_u3 (mkR (ax_u3 (mkR (ax_u3 (mkR r0 600 t) 1006 t 0 (some (600, t))) 601 t) 1006 t 1 (some (601, t))) 602 t) 1006 t 2 (some (602, t)), mkN (mkN (mkN n 600 t m) 601 t m) 602 t m)
  have nd6 : ax_nd (mkP (mkP (mkP P 600 t) 601 t) 602 t, g602, ax_u3 (mkR (ax_u3 (mkR (ax_u3 (mkR r0 600 t) 1006 t 0 (some (600, t))) 601 t) 1006 t 1 (some (601, t))) 602 t) 1006 t 2 (some (602, t)), mkN (mkN (mkN n 600 t m) 601 t m) 602 t m) := nd_u nd5 (Or.inl ⟨rfl, rfl⟩)
  refine aj_run (C := True) (pc' := 38) (la' := [some (.inr (.inr (some (1006, t)))), some (.inr (.inr (some (308, 0)))), some (.inr (.inr (some (309, 0)))), some (.inr (.inr (some (310, 0)))), some (.inr (.inr (some (311, 0)))), some (.inl m)]) (st' := [.inl 3, .inr (.inr (some (311, 0))), .inr (.inr (some (1006, t)))]) (M' := (mkP (mkP (mkP P 600 t) 601 t) 602 t, g602, ax_u3 (mkR (ax_u3 (mkR (ax_u3 (mkR r0 600 t) 1006 t 0 (some (600, t))) 601 t) 1006 t 1 (some (601, t))) 602 t) 1006 t 2 (some (602, t)), mkN (mkN (mkN n 600 t m) 601 t m) 602 t m)) ok_X4_init true 3 rfl trivial ?_
  have hl603 : (mkN (mkN (mkN n 600 t m) 601 t m) 602 t m) 311 0 = 3 := by (repeat rw [mkN_n (by omega)]); exact n311
  have hf603 : ¬ (mkP (mkP (mkP P 600 t) 601 t) 602 t) 603 t := by (repeat refine mkP_n (by omega) ?_); exact hfr 603 (by decide) (by decide)
  refine aj_callS (av := [.inr (.inr (some (311, 0))), .inl 3]) (st := [.inr (.inr (some (1006, t)))]) cal_J7_copyOf_59c91 lk_4_9 stc_J7_copyOf_59c91 (cp_copyOf_603 t 3 _ _ _ _ hl603 (by omega) hf603 nd6) ⟨by decide, by decide, by decide, by decide⟩ (Nat.le_of_ble_eq_true rfl) (ax_dec2 (i := .invokestatic 9) (n := 3) ok_X4_init rfl) (fun r M' hq => ?_)
  obtain ⟨rfl, g603, rfl, a603, b603⟩ := hq
  change ax_J _ _ _ _ _ _ _ _ _ 41 [some (.inr (.inr (some (1006, t)))), some (.inr (.inr (some (308, 0)))), some (.inr (.inr (some (309, 0)))), some (.inr (.inr (some (310, 0)))), some (.inr (.inr (some (311, 0)))), some (.inl m)] [.inr (.inr (some (603, t))), .inr (.inr (some (1006, t)))] (mkP (mkP (mkP (mkP P 600 t) 601 t) 602 t) 603 t, g603, mkR (ax_u3 (mkR (ax_u3 (mkR (ax_u3 (mkR r0 600 t) 1006 t 0 (some (600, t))) 601 t) 1006 t 1 (some (601, t))) 602 t) 1006 t 2 (some (602, t))) 603 t, mkN (mkN (mkN (mkN n 600 t m) 601 t m) 602 t m) 603 t 3)
  have nd7 : ax_nd (mkP (mkP (mkP (mkP P 600 t) 601 t) 602 t) 603 t, g603, mkR (ax_u3 (mkR (ax_u3 (mkR (ax_u3 (mkR r0 600 t) 1006 t 0 (some (600, t))) 601 t) 1006 t 1 (some (601, t))) 602 t) 1006 t 2 (some (602, t))) 603 t, mkN (mkN (mkN (mkN n 600 t m) 601 t m) 602 t m) 603 t 3) := nd_g (g := mkG g602 603 t) (nd_mk nd6)
  refine aj_putR (f := 1006) (k := 3) (g := 603) (o := t) (u := t) (st := []) (ax_lk_ok (q := (6, 3)) rfl) rfl rfl (Or.inr ⟨by decide, ax_fi_6_3⟩) (fun z9 => by revert z9; decide) (ax_dec2 (i := .putfield 27) (n := 3) ok_X4_init rfl) ?_
  change ax_J _ _ _ _ _ _ _ _ _ 44 [some (.inr (.inr (some (1006, t)))), some (.inr (.inr (some (308, 0)))), some (.inr (.inr (some (309, 0)))), some (.inr (.inr (some (310, 0)))), some (.inr (.inr (some (311, 0)))), some (.inl m)] [] (mkP (mkP (mkP (mkP P 600 t) 601 t) 602 t) 603 t, g603, ax_u3 (mkR (ax_u3 (mkR (ax_u3 (mkR (ax_u3 (mkR r0 600 t) 1006 t 0 (some (600, t))) 601 t) 1006 t 1 (some (601, t))) 602 t) 1006 t 2 (some (602, t))) 603 t) 1006 t 3 (some (603, t)), mkN (mkN (mkN (mkN n 600 t m) 601 t m) 602 t m) 603 t 3)
  have nd8 : ax_nd (mkP (mkP (mkP (mkP P 600 t) 601 t) 602 t) 603 t, g603, ax_u3 (mkR (ax_u3 (mkR (ax_u3 (mkR (ax_u3 (mkR r0 600 t) 1006 t 0 (some (600, t))) 601 t) 1006 t 1 (some (601, t))) 602 t) 1006 t 2 (some (602, t))) 603 t) 1006 t 3 (some (603, t)), mkN (mkN (mkN (mkN n 600 t m) 601 t m) 602 t m) 603 t 3) := nd_u nd7 (Or.inl ⟨rfl, rfl⟩)
  refine aj_run (C := True) (pc' := 47) (la' := [some (.inr (.inr (some (1006, t)))), some (.inr (.inr (some (308, 0)))), some (.inr (.inr (some (309, 0)))), some (.inr (.inr (some (310, 0)))), some (.inr (.inr (some (311, 0)))), some (.inl m)]) (st' := [.inl m, .inr (.inr (some (1006, t)))]) (M' := (mkP (mkP (mkP (mkP P 600 t) 601 t) 602 t) 603 t, g603, ax_u3 (mkR (ax_u3 (mkR (ax_u3 (mkR (ax_u3 (mkR r0 600 t) 1006 t 0 (some (600, t))) 601 t) 1006 t 1 (some (601, t))) 602 t) 1006 t 2 (some (602, t))) 603 t) 1006 t 3 (some (603, t)), mkN (mkN (mkN (mkN n 600 t m) 601 t m) 602 t m) 603 t 3)) ok_X4_init true 2 rfl trivial ?_
  refine aj_newA (f := 604) (o := t) (x := m) rfl rfl (by decide) (Or.inl ⟨rfl, rfl⟩) (by omega) (by (repeat refine mkP_n (by omega) ?_); exact hfr 604 (by decide) (by decide)) nd8 (ax_T1 (i := 99) (by decide +kernel) rfl) ⟨by decide, by show 0 + 160 + 160 + 160 + 3 + m.toNat ≤ 643; omega⟩ (ax_dec2 (i := .newarray .int) (n := 2) ok_X4_init rfl) ?_
  change ax_J _ _ _ _ _ _ _ _ _ 49 [some (.inr (.inr (some (1006, t)))), some (.inr (.inr (some (308, 0)))), some (.inr (.inr (some (309, 0)))), some (.inr (.inr (some (310, 0)))), some (.inr (.inr (some (311, 0)))), some (.inl m)] [.inr (.inr (some (604, t))), .inr (.inr (some (1006, t)))] (mkP (mkP (mkP (mkP (mkP P 600 t) 601 t) 602 t) 603 t) 604 t, mkG g603 604 t, mkR (ax_u3 (mkR (ax_u3 (mkR (ax_u3 (mkR (ax_u3 (mkR r0 600 t) 1006 t 0 (some (600, t))) 601 t) 1006 t 1 (some (601, t))) 602 t) 1006 t 2 (some (602, t))) 603 t) 1006 t 3 (some (603, t))) 604 t, mkN (mkN (mkN (mkN (mkN n 600 t m) 601 t m) 602 t m) 603 t 3) 604 t m)
  have nd9 : ax_nd (mkP (mkP (mkP (mkP (mkP P 600 t) 601 t) 602 t) 603 t) 604 t, mkG g603 604 t, mkR (ax_u3 (mkR (ax_u3 (mkR (ax_u3 (mkR (ax_u3 (mkR r0 600 t) 1006 t 0 (some (600, t))) 601 t) 1006 t 1 (some (601, t))) 602 t) 1006 t 2 (some (602, t))) 603 t) 1006 t 3 (some (603, t))) 604 t, mkN (mkN (mkN (mkN (mkN n 600 t m) 601 t m) 602 t m) 603 t 3) 604 t m) := nd_mk nd8
  refine aj_putR (f := 1006) (k := 4) (g := 604) (o := t) (u := t) (st := []) (ax_lk_ok (q := (6, 4)) rfl) rfl rfl (Or.inr ⟨by decide, ax_fi_6_4⟩) (fun z9 => by revert z9; decide) (ax_dec2 (i := .putfield 30) (n := 3) ok_X4_init rfl) ?_
  change ax_J _ _ _ _ _ _ _ _ _ 52 [some (.inr (.inr (some (1006, t)))), some (.inr (.inr (some (308, 0)))), some (.inr (.inr (some (309, 0)))), some (.inr (.inr (some (310, 0)))), some (.inr (.inr (some (311, 0)))), some (.inl m)] [] (mkP (mkP (mkP (mkP (mkP P 600 t) 601 t) 602 t) 603 t) 604 t, mkG g603 604 t, ax_u3 (mkR (ax_u3 (mkR (ax_u3 (mkR (ax_u3 (mkR (ax_u3 (mkR r0 600 t) 1006 t 0 (some (600, t))) 601 t) 1006 t 1 (some (601, t))) 602 t) 1006 t 2 (some (602, t))) 603 t) 1006 t 3 (some (603, t))) 604 t) 1006 t 4 (some (604, t)), mkN (mkN (mkN (mkN (mkN n 600 t m) 601 t m) 602 t m) 603 t 3) 604 t m)
  have nd10 : ax_nd (mkP (mkP (mkP (mkP (mkP P 600 t) 601 t) 602 t) 603 t) 604 t, mkG g603 604 t, ax_u3 (mkR (ax_u3 (mkR (ax_u3 (mkR (ax_u3 (mkR (ax_u3 (mkR r0 600 t) 1006 t 0 (some (600, t))) 601 t) 1006 t 1 (some (601, t))) 602 t) 1006 t 2 (some (602, t))) 603 t) 1006 t 3 (some (603, t))) 604 t) 1006 t 4 (some (604, t)), mkN (mkN (mkN (mkN (mkN n 600 t m) 601 t m) 602 t m) 603 t 3) 604 t m) := nd_u nd9 (Or.inl ⟨rfl, rfl⟩)
  refine aj_ret (r := none) (ax_dec2 (i := .return_) (n := 1) ok_X4_init rfl) ⟨?_, ?_, by decide, by first | decide | (show 0 + 160 + 160 + 160 + 3 + m.toNat ≤ 643; omega)⟩ rfl
  · exact ⟨rfl, _, rfl, fun j z1 z2 => ⟨by rw [mkG_n (by omega), b603 _ _ _ (by omega), b602 _ _ _ (by omega), b601 _ _ _ (by omega), a600 j z1 z2], by rw [mkG_n (by omega), b603 _ _ _ (by omega), b602 _ _ _ (by omega), a601 j z1 z2, b600 _ _ _ (by omega)], by rw [mkG_n (by omega), b603 _ _ _ (by omega), a602 j z1 z2, b601 _ _ _ (by omega), b600 _ _ _ (by omega)]⟩, fun j z1 z2 => by rw [mkG_n (by omega), a603 j z1 z2, b602 _ _ _ (by omega), b601 _ _ _ (by omega), b600 _ _ _ (by omega)], fun f o j z => by rw [mkG_n (by omega), b603 _ _ _ (by omega), b602 _ _ _ (by omega), b601 _ _ _ (by omega), b600 _ _ _ (by omega)]⟩
  · exact trivial

