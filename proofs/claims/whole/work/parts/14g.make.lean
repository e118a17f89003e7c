/-! ===== things that are made ===== -/
def mkP (P : Nat → Int → Prop) (f : Nat) (o : Int) : Nat → Int → Prop := fun f' o' => (f' = f ∧ o' = o) ∨ P f' o'
def mkG (g : Nat → Int → Int → Int) (f : Nat) (o : Int) : Nat → Int → Int → Int := fun f' o' j => if f' = f ∧ o' = o then 0 else g f' o' j
def mkR (r : Nat → Int → Int → Option (Nat × Int)) (f : Nat) (o : Int) : Nat → Int → Int → Option (Nat × Int) := fun f' o' j => if f' = f ∧ o' = o then none else r f' o' j
def mkN (n : Nat → Int → Int) (f : Nat) (o x : Int) : Nat → Int → Int := fun f' o' => if f' = f ∧ o' = o then x else n f' o'
theorem mkP_n {P : Nat → Int → Prop} {f f' : Nat} {o o' : Int} (h : ¬ (f' = f ∧ o' = o)) (hp : ¬ P f' o') : ¬ mkP P f o f' o' := fun z => z.elim h hp
theorem mkG_n {g : Nat → Int → Int → Int} {f f' : Nat} {o o' j : Int} (h : ¬ (f' = f ∧ o' = o)) : mkG g f o f' o' j = g f' o' j := if_neg h
theorem mkG_s {g : Nat → Int → Int → Int} {f : Nat} {o j : Int} : mkG g f o f o j = 0 := if_pos ⟨rfl, rfl⟩
theorem mkR_n {r : Nat → Int → Int → Option (Nat × Int)} {f f' : Nat} {o o' j : Int} (h : ¬ (f' = f ∧ o' = o)) : mkR r f o f' o' j = r f' o' j := if_neg h
theorem mkR_s {r : Nat → Int → Int → Option (Nat × Int)} {f : Nat} {o j : Int} : mkR r f o f o j = none := if_pos ⟨rfl, rfl⟩
theorem mkN_n {n : Nat → Int → Int} {f f' : Nat} {o o' x : Int} (h : ¬ (f' = f ∧ o' = o)) : mkN n f o x f' o' = n f' o' := if_neg h
theorem mkN_s {n : Nat → Int → Int} {f : Nat} {o x : Int} : mkN n f o x f o = x := if_pos ⟨rfl, rfl⟩
theorem nd_mk {P : Nat → Int → Prop} {g : Nat → Int → Int → Int} {r : Nat → Int → Int → Option (Nat × Int)} {n : Nat → Int → Int} {f : Nat} {o x : Int} (h : ax_nd (P, g, r, n)) : ax_nd (mkP P f o, mkG g f o, mkR r f o, mkN n f o x) := ax_nd_mk (M := (P, g, r, n)) (ci := x) h
theorem nd_u {P : Nat → Int → Prop} {g : Nat → Int → Int → Int} {r : Nat → Int → Int → Option (Nat × Int)} {n : Nat → Int → Int} {f : Nat} {o j : Int} {q : Nat × Int} (h : ax_nd (P, g, r, n)) (hq : P q.1 q.2) : ax_nd (P, g, ax_u3 r f o j (some q), n) := ax_nd_uR (M := (P, g, r, n)) h hq
theorem nd_g {P : Nat → Int → Prop} {g g' : Nat → Int → Int → Int} {r : Nat → Int → Int → Option (Nat × Int)} {n : Nat → Int → Int} (h : ax_nd (P, g, r, n)) : ax_nd (P, g', r, n) := h
theorem ax_fi_5_0 : ∀ (ci : Nat) (C : String) (T : u_T) (N : Nat), ax_ok 1005 ci = true → vwCl[ci]? = some (C, T, N) → (T 0).2.2.2 = true ∧ (T 0).1 = ax_nm 100 := by
  intro ci C T N h1 h2
  have z : ci = 0 ∨ ci = 1 ∨ ci = 3 ∨ ci = 6 ∨ ci = 7 ∨ ci = 9 := by simpa [ax_ok] using h1
  rcases z with rfl | rfl | rfl | rfl | rfl | rfl <;> (cases h2; exact ⟨rfl, rfl⟩)
theorem ax_fi_5_1 : ∀ (ci : Nat) (C : String) (T : u_T) (N : Nat), ax_ok 1005 ci = true → vwCl[ci]? = some (C, T, N) → (T 1).2.2.2 = true ∧ (T 1).1 = ax_nm 100 := by
  intro ci C T N h1 h2
  have z : ci = 0 ∨ ci = 1 ∨ ci = 3 ∨ ci = 6 ∨ ci = 7 ∨ ci = 9 := by simpa [ax_ok] using h1
  rcases z with rfl | rfl | rfl | rfl | rfl | rfl <;> (cases h2; exact ⟨rfl, rfl⟩)
set_option maxRecDepth 100000 in
set_option maxHeartbeats 4000000 in
theorem cp_X0_init (o : Int) (P : Nat → Int → Prop) (g : Nat → Int → Int → Int) (r0 : Nat → Int → Int → Option (Nat × Int)) (n : Nat → Int → Int) (hfr : ¬ P 500 o ∧ ¬ P 501 o) (hnd : ax_nd (P, g, r0, n)) : ax_S yX0_init cX0_init 1 none 1 2 8 [.inr (.inr (some (1005, o)))] (P, g, r0, n) (fun r M' => r = none ∧ M' = (mkP (mkP P 500 o) 501 o, mkG (mkG g 500 o) 501 o, ax_u3 (mkR (ax_u3 (mkR r0 500 o) 1005 o 0 (some (500, o))) 501 o) 1005 o 1 (some (501, o)), mkN (mkN n 500 o 4) 501 o 4)) := by
  refine ax_S_of (own := 100) (by decide) rfl (fun _ => rfl) rfl (Nat.le_of_ble_eq_true rfl) ?_
  change ax_J _ _ _ _ _ _ _ _ _ _ [some (.inr (.inr (some (1005, o))))] _ _
  refine aj_run (C := True) (pc' := 1) (la' := [some (.inr (.inr (some (1005, o))))]) (st' := [.inr (.inr (some (1005, o)))]) (M' := (P, g, r0, n)) ok_X0_init true 1 rfl trivial ?_
  refine aj_objI lk_0_3 ins_obj code_obj (by decide) (by decide) (ax_dec2 (i := .invokespecial 3) (n := 3) ok_X0_init rfl) ?_
  refine aj_run (C := True) (pc' := 6) (la' := [some (.inr (.inr (some (1005, o))))]) (st' := [.inl 4, .inr (.inr (some (1005, o)))]) (M' := (P, g, r0, n)) ok_X0_init true 2 rfl trivial ?_
  refine aj_newA (f := 500) (o := o) (x := 4) rfl rfl (by decide) (Or.inl ⟨rfl, rfl⟩) (by decide) hfr.1 hnd (ax_T1 (i := 99) (by decide +kernel) rfl) ⟨by decide, by decide⟩ (ax_dec2 (i := .newarray .int) (n := 2) ok_X0_init rfl) ?_
  change ax_J _ _ _ _ _ _ _ _ _ 8 [some (.inr (.inr (some (1005, o))))] [.inr (.inr (some (500, o))), .inr (.inr (some (1005, o)))] (mkP P 500 o, mkG g 500 o, mkR r0 500 o, mkN n 500 o 4)
  have nd1 : ax_nd (mkP P 500 o, mkG g 500 o, mkR r0 500 o, mkN n 500 o 4) := nd_mk hnd
  refine aj_putR (f := 1005) (k := 0) (g := 500) (o := o) (u := o) (st := []) (ax_lk_ok (q := (5, 0)) rfl) rfl rfl (Or.inr ⟨by decide, ax_fi_5_0⟩) (fun z9 => by revert z9; decide) (ax_dec2 (i := .putfield 9) (n := 3) ok_X0_init rfl) ?_
  change ax_J _ _ _ _ _ _ _ _ _ 11 [some (.inr (.inr (some (1005, o))))] [] (mkP P 500 o, mkG g 500 o, ax_u3 (mkR r0 500 o) 1005 o 0 (some (500, o)), mkN n 500 o 4)
  have nd2 : ax_nd (mkP P 500 o, mkG g 500 o, ax_u3 (mkR r0 500 o) 1005 o 0 (some (500, o)), mkN n 500 o 4) := nd_u nd1 (Or.inl ⟨rfl, rfl⟩)
  refine aj_run (C := True) (pc' := 13) (la' := [some (.inr (.inr (some (1005, o))))]) (st' := [.inl 4, .inr (.inr (some (1005, o)))]) (M' := (mkP P 500 o, mkG g 500 o, ax_u3 (mkR r0 500 o) 1005 o 0 (some (500, o)), mkN n 500 o 4)) ok_X0_init true 2 rfl trivial ?_
  refine aj_newA (f := 501) (o := o) (x := 4) rfl rfl (by decide) (Or.inl ⟨rfl, rfl⟩) (by decide) (mkP_n (fun z9 => absurd z9.1 (by decide)) hfr.2) nd2 (ax_T1 (i := 99) (by decide +kernel) rfl) ⟨by decide, by decide⟩ (ax_dec2 (i := .newarray .int) (n := 2) ok_X0_init rfl) ?_
  change ax_J _ _ _ _ _ _ _ _ _ 15 [some (.inr (.inr (some (1005, o))))] [.inr (.inr (some (501, o))), .inr (.inr (some (1005, o)))] (mkP (mkP P 500 o) 501 o, mkG (mkG g 500 o) 501 o, mkR (ax_u3 (mkR r0 500 o) 1005 o 0 (some (500, o))) 501 o, mkN (mkN n 500 o 4) 501 o 4)
  have nd3 : ax_nd (mkP (mkP P 500 o) 501 o, mkG (mkG g 500 o) 501 o, mkR (ax_u3 (mkR r0 500 o) 1005 o 0 (some (500, o))) 501 o, mkN (mkN n 500 o 4) 501 o 4) := nd_mk nd2
  refine aj_putR (f := 1005) (k := 1) (g := 501) (o := o) (u := o) (st := []) (ax_lk_ok (q := (5, 1)) rfl) rfl rfl (Or.inr ⟨by decide, ax_fi_5_1⟩) (fun z9 => by revert z9; decide) (ax_dec2 (i := .putfield 15) (n := 3) ok_X0_init rfl) ?_
  change ax_J _ _ _ _ _ _ _ _ _ 18 [some (.inr (.inr (some (1005, o))))] [] (mkP (mkP P 500 o) 501 o, mkG (mkG g 500 o) 501 o, ax_u3 (mkR (ax_u3 (mkR r0 500 o) 1005 o 0 (some (500, o))) 501 o) 1005 o 1 (some (501, o)), mkN (mkN n 500 o 4) 501 o 4)
  have nd4 : ax_nd (mkP (mkP P 500 o) 501 o, mkG (mkG g 500 o) 501 o, ax_u3 (mkR (ax_u3 (mkR r0 500 o) 1005 o 0 (some (500, o))) 501 o) 1005 o 1 (some (501, o)), mkN (mkN n 500 o 4) 501 o 4) := nd_u nd3 (Or.inl ⟨rfl, rfl⟩)
  refine aj_ret (r := none) (ax_dec2 (i := .return_) (n := 1) ok_X0_init rfl) ⟨?_, ?_, by decide, by decide⟩ rfl
  · exact ⟨rfl, rfl⟩
  · exact trivial

set_option maxRecDepth 100000 in
set_option maxHeartbeats 4000000 in
theorem cp_X7_init (o : Int) (P : Nat → Int → Prop) (g : Nat → Int → Int → Int) (r0 : Nat → Int → Int → Option (Nat × Int)) (n : Nat → Int → Int) (hfr : ¬ P 500 o ∧ ¬ P 501 o) (hnd : ax_nd (P, g, r0, n)) : ax_S yX7_init cX7_init 1 none 2 2 8 [.inr (.inr (some (1005, o)))] (P, g, r0, n) (fun r M' => r = none ∧ M' = (mkP (mkP P 500 o) 501 o, mkG (mkG g 500 o) 501 o, ax_u3 (mkR (ax_u3 (mkR r0 500 o) 1005 o 0 (some (500, o))) 501 o) 1005 o 1 (some (501, o)), mkN (mkN n 500 o 4) 501 o 4)) := by
  refine ax_S_of (own := 107) (by decide) rfl (fun _ => rfl) rfl (Nat.le_of_ble_eq_true rfl) ?_
  change ax_J _ _ _ _ _ _ _ _ _ _ [some (.inr (.inr (some (1005, o))))] _ _
  refine aj_run (C := True) (pc' := 1) (la' := [some (.inr (.inr (some (1005, o))))]) (st' := [.inr (.inr (some (1005, o)))]) (M' := (P, g, r0, n)) ok_X7_init true 1 rfl trivial ?_
  refine aj_callIN (y := yX0_init) (host := "AntsTurn") (idx := 1) (av := []) (st := []) (f := 1005) (o := o) cal_X0_init rfl (by decide) ins_X0_init (cp_X0_init o _ _ _ _ hfr hnd) ⟨by decide, by decide, by decide, by decide⟩ (Nat.le_of_ble_eq_true rfl) (ax_dec2 (i := .invokespecial 1) (n := 3) ok_X7_init rfl) (fun r M' hq => ?_)
  obtain ⟨rfl, rfl⟩ := hq
  change ax_J _ _ _ _ _ _ _ _ _ 4 [some (.inr (.inr (some (1005, o))))] [] (mkP (mkP P 500 o) 501 o, mkG (mkG g 500 o) 501 o, ax_u3 (mkR (ax_u3 (mkR r0 500 o) 1005 o 0 (some (500, o))) 501 o) 1005 o 1 (some (501, o)), mkN (mkN n 500 o 4) 501 o 4)
  refine aj_ret (r := none) (ax_dec2 (i := .return_) (n := 1) ok_X7_init rfl) ⟨?_, ?_, by decide, by decide⟩ rfl
  · exact ⟨rfl, rfl⟩
  · exact trivial

set_option maxRecDepth 100000 in
set_option maxHeartbeats 4000000 in
theorem cp_X6_init (o : Int) (P : Nat → Int → Prop) (g : Nat → Int → Int → Int) (r0 : Nat → Int → Int → Option (Nat × Int)) (n : Nat → Int → Int) (hfr : ¬ P 500 o ∧ ¬ P 501 o) (hnd : ax_nd (P, g, r0, n)) : ax_S yX6_init cX6_init 1 none 2 2 8 [.inr (.inr (some (1005, o)))] (P, g, r0, n) (fun r M' => r = none ∧ M' = (mkP (mkP P 500 o) 501 o, mkG (mkG g 500 o) 501 o, ax_u3 (mkR (ax_u3 (mkR r0 500 o) 1005 o 0 (some (500, o))) 501 o) 1005 o 1 (some (501, o)), mkN (mkN n 500 o 4) 501 o 4)) := by
  refine ax_S_of (own := 106) (by decide) rfl (fun _ => rfl) rfl (Nat.le_of_ble_eq_true rfl) ?_
  change ax_J _ _ _ _ _ _ _ _ _ _ [some (.inr (.inr (some (1005, o))))] _ _
  refine aj_run (C := True) (pc' := 1) (la' := [some (.inr (.inr (some (1005, o))))]) (st' := [.inr (.inr (some (1005, o)))]) (M' := (P, g, r0, n)) ok_X6_init true 1 rfl trivial ?_
  refine aj_callIN (y := yX0_init) (host := "AntsTurn") (idx := 3) (av := []) (st := []) (f := 1005) (o := o) cal_X0_init rfl (by decide) ins_X0_init (cp_X0_init o _ _ _ _ hfr hnd) ⟨by decide, by decide, by decide, by decide⟩ (Nat.le_of_ble_eq_true rfl) (ax_dec2 (i := .invokespecial 3) (n := 3) ok_X6_init rfl) (fun r M' hq => ?_)
  obtain ⟨rfl, rfl⟩ := hq
  change ax_J _ _ _ _ _ _ _ _ _ 4 [some (.inr (.inr (some (1005, o))))] [] (mkP (mkP P 500 o) 501 o, mkG (mkG g 500 o) 501 o, ax_u3 (mkR (ax_u3 (mkR r0 500 o) 1005 o 0 (some (500, o))) 501 o) 1005 o 1 (some (501, o)), mkN (mkN n 500 o 4) 501 o 4)
  refine aj_ret (r := none) (ax_dec2 (i := .return_) (n := 1) ok_X6_init rfl) ⟨?_, ?_, by decide, by decide⟩ rfl
  · exact ⟨rfl, rfl⟩
  · exact trivial

set_option maxRecDepth 100000 in
set_option maxHeartbeats 4000000 in
theorem cp_X9_init (o : Int) (P : Nat → Int → Prop) (g : Nat → Int → Int → Int) (r0 : Nat → Int → Int → Option (Nat × Int)) (n : Nat → Int → Int) (hfr : ¬ P 500 o ∧ ¬ P 501 o) (hnd : ax_nd (P, g, r0, n)) : ax_S yX9_init cX9_init 1 none 3 2 8 [.inr (.inr (some (1005, o)))] (P, g, r0, n) (fun r M' => r = none ∧ M' = (mkP (mkP P 500 o) 501 o, mkG (mkG g 500 o) 501 o, ax_u3 (mkR (ax_u3 (mkR r0 500 o) 1005 o 0 (some (500, o))) 501 o) 1005 o 1 (some (501, o)), mkN (mkN n 500 o 4) 501 o 4)) := by
  refine ax_S_of (own := 109) (by decide) rfl (fun _ => rfl) rfl (Nat.le_of_ble_eq_true rfl) ?_
  change ax_J _ _ _ _ _ _ _ _ _ _ [some (.inr (.inr (some (1005, o))))] _ _
  refine aj_run (C := True) (pc' := 1) (la' := [some (.inr (.inr (some (1005, o))))]) (st' := [.inr (.inr (some (1005, o)))]) (M' := (P, g, r0, n)) ok_X9_init true 1 rfl trivial ?_
  refine aj_callIN (y := yX7_init) (host := "AntsTurn") (idx := 3) (av := []) (st := []) (f := 1005) (o := o) cal_X7_init rfl (by decide) ins_X7_init (cp_X7_init o _ _ _ _ hfr hnd) ⟨by decide, by decide, by decide, by decide⟩ (Nat.le_of_ble_eq_true rfl) (ax_dec2 (i := .invokespecial 3) (n := 3) ok_X9_init rfl) (fun r M' hq => ?_)
  obtain ⟨rfl, rfl⟩ := hq
  change ax_J _ _ _ _ _ _ _ _ _ 4 [some (.inr (.inr (some (1005, o))))] [] (mkP (mkP P 500 o) 501 o, mkG (mkG g 500 o) 501 o, ax_u3 (mkR (ax_u3 (mkR r0 500 o) 1005 o 0 (some (500, o))) 501 o) 1005 o 1 (some (501, o)), mkN (mkN n 500 o 4) 501 o 4)
  refine aj_ret (r := none) (ax_dec2 (i := .return_) (n := 1) ok_X9_init rfl) ⟨?_, ?_, by decide, by decide⟩ rfl
  · exact ⟨rfl, rfl⟩
  · exact trivial

set_option maxRecDepth 100000 in
set_option maxHeartbeats 4000000 in
theorem cp_X3_init (o : Int) (P : Nat → Int → Prop) (g : Nat → Int → Int → Int) (r0 : Nat → Int → Int → Option (Nat × Int)) (n : Nat → Int → Int) (hfr : ¬ P 500 o ∧ ¬ P 501 o) (hnd : ax_nd (P, g, r0, n)) : ax_S yX3_init cX3_init 1 none 3 2 8 [.inr (.inr (some (1005, o)))] (P, g, r0, n) (fun r M' => r = none ∧ M' = (mkP (mkP P 500 o) 501 o, mkG (mkG g 500 o) 501 o, ax_u3 (mkR (ax_u3 (mkR r0 500 o) 1005 o 0 (some (500, o))) 501 o) 1005 o 1 (some (501, o)), mkN (mkN n 500 o 4) 501 o 4)) := by
  refine ax_S_of (own := 103) (by decide) rfl (fun _ => rfl) rfl (Nat.le_of_ble_eq_true rfl) ?_
  change ax_J _ _ _ _ _ _ _ _ _ _ [some (.inr (.inr (some (1005, o))))] _ _
  refine aj_run (C := True) (pc' := 1) (la' := [some (.inr (.inr (some (1005, o))))]) (st' := [.inr (.inr (some (1005, o)))]) (M' := (P, g, r0, n)) ok_X3_init true 1 rfl trivial ?_
  refine aj_callIN (y := yX6_init) (host := "AntsTurn") (idx := 3) (av := []) (st := []) (f := 1005) (o := o) cal_X6_init rfl (by decide) ins_X6_init (cp_X6_init o _ _ _ _ hfr hnd) ⟨by decide, by decide, by decide, by decide⟩ (Nat.le_of_ble_eq_true rfl) (ax_dec2 (i := .invokespecial 3) (n := 3) ok_X3_init rfl) (fun r M' hq => ?_)
  obtain ⟨rfl, rfl⟩ := hq
  change ax_J _ _ _ _ _ _ _ _ _ 4 [some (.inr (.inr (some (1005, o))))] [] (mkP (mkP P 500 o) 501 o, mkG (mkG g 500 o) 501 o, ax_u3 (mkR (ax_u3 (mkR r0 500 o) 1005 o 0 (some (500, o))) 501 o) 1005 o 1 (some (501, o)), mkN (mkN n 500 o 4) 501 o 4)
  refine aj_ret (r := none) (ax_dec2 (i := .return_) (n := 1) ok_X3_init rfl) ⟨?_, ?_, by decide, by decide⟩ rfl
  · exact ⟨rfl, rfl⟩
  · exact trivial

set_option maxRecDepth 100000 in
set_option maxHeartbeats 4000000 in
theorem cp_X1_init (o : Int) (P : Nat → Int → Prop) (g : Nat → Int → Int → Int) (r0 : Nat → Int → Int → Option (Nat × Int)) (n : Nat → Int → Int) (hfr : ¬ P 500 o ∧ ¬ P 501 o) (hnd : ax_nd (P, g, r0, n)) : ax_S yX1_init cX1_init 1 none 3 2 8 [.inr (.inr (some (1005, o)))] (P, g, r0, n) (fun r M' => r = none ∧ M' = (mkP (mkP P 500 o) 501 o, mkG (mkG g 500 o) 501 o, ax_u3 (mkR (ax_u3 (mkR r0 500 o) 1005 o 0 (some (500, o))) 501 o) 1005 o 1 (some (501, o)), mkN (mkN n 500 o 4) 501 o 4)) := by
  refine ax_S_of (own := 101) (by decide) rfl (fun _ => rfl) rfl (Nat.le_of_ble_eq_true rfl) ?_
  change ax_J _ _ _ _ _ _ _ _ _ _ [some (.inr (.inr (some (1005, o))))] _ _
  refine aj_run (C := True) (pc' := 1) (la' := [some (.inr (.inr (some (1005, o))))]) (st' := [.inr (.inr (some (1005, o)))]) (M' := (P, g, r0, n)) ok_X1_init true 1 rfl trivial ?_
  refine aj_callIN (y := yX6_init) (host := "AntsTurn") (idx := 3) (av := []) (st := []) (f := 1005) (o := o) cal_X6_init rfl (by decide) ins_X6_init (cp_X6_init o _ _ _ _ hfr hnd) ⟨by decide, by decide, by decide, by decide⟩ (Nat.le_of_ble_eq_true rfl) (ax_dec2 (i := .invokespecial 3) (n := 3) ok_X1_init rfl) (fun r M' hq => ?_)
  obtain ⟨rfl, rfl⟩ := hq
  change ax_J _ _ _ _ _ _ _ _ _ 4 [some (.inr (.inr (some (1005, o))))] [] (mkP (mkP P 500 o) 501 o, mkG (mkG g 500 o) 501 o, ax_u3 (mkR (ax_u3 (mkR r0 500 o) 1005 o 0 (some (500, o))) 501 o) 1005 o 1 (some (501, o)), mkN (mkN n 500 o 4) 501 o 4)
  refine aj_ret (r := none) (ax_dec2 (i := .return_) (n := 1) ok_X1_init rfl) ⟨?_, ?_, by decide, by decide⟩ rfl
  · exact ⟨rfl, rfl⟩
  · exact trivial

/-- an ant that came: a its place, k its kind -/
def cNew (P : Nat → Int → Prop) (g : Nat → Int → Int → Int) (r0 : Nat → Int → Int → Option (Nat × Int)) (n : Nat → Int → Int) (a : Int) (k : Int) (P' : Nat → Int → Prop) (g' : Nat → Int → Int → Int) (r' : Nat → Int → Int → Option (Nat × Int)) (n' : Nat → Int → Int) : Prop :=
  (∀ f o, P' f o ↔ (P f o ∨ ((f = 5 ∨ f = 500 ∨ f = 501) ∧ o = a))) ∧ ((kOf (n' 5 a) = k ∧ k6 (n' 5 a)) ∧ (n' 500 a = 4 ∧ n' 501 a = 4) ∧ ∀ f o, ¬ (((f = 5 ∨ f = 500 ∨ f = 501) ∧ o = a) ∨ 999 < f) → n' f o = n f o) ∧ (∀ f o j, ¬ (((f = 5 ∨ f = 500 ∨ f = 501) ∧ o = a) ∨ 999 < f) → g' f o j = g f o j) ∧ (∀ f o j, ¬ (((f = 5 ∨ f = 500 ∨ f = 501) ∧ o = a) ∨ 999 < f) → r' f o j = r0 f o j) ∧ ax_nd (P', g', r', n')
section CN
variable {P : Nat → Int → Prop} {g : Nat → Int → Int → Int} {r0 : Nat → Int → Int → Option (Nat × Int)} {n : Nat → Int → Int} {a : Int}
theorem nr_new {ci : Int} (hnd : ax_nd (P, g, r0, n)) (hp : ∀ f o, P f o → f < 999) : ax_nr (mkP (mkP (mkP P 1005 a) 500 a) 501 a, mkG (mkG (mkG g 1005 a) 500 a) 501 a, ax_u3 (mkR (ax_u3 (mkR (mkR r0 1005 a) 500 a) 1005 a 0 (some (500, a))) 501 a) 1005 a 1 (some (501, a)), mkN (mkN (mkN n 1005 a ci) 500 a 4) 501 a 4) 1005 a := by
  intro f o' j hm hq
  have hq : ax_u3 (mkR (ax_u3 (mkR (mkR r0 1005 a) 500 a) 1005 a 0 (some (500, a))) 501 a) 1005 a 1 (some (501, a)) f o' j = some (1005, a) := hq
  have hm : mkP (mkP (mkP P 1005 a) 500 a) 501 a f o' := hm
  by_cases c1 : f = 1005 ∧ o' = a ∧ j = 1
  · rw [c1.1, c1.2.1, c1.2.2, ax_u3_s] at hq
    simp at hq
  rw [ax_u3_n c1] at hq
  by_cases c2 : f = 501 ∧ o' = a
  · rw [c2.1, c2.2, mkR_s] at hq
    cases hq
  rw [mkR_n c2] at hq
  by_cases c3 : f = 1005 ∧ o' = a ∧ j = 0
  · rw [c3.1, c3.2.1, c3.2.2, ax_u3_s] at hq
    simp at hq
  rw [ax_u3_n c3] at hq
  by_cases c4 : f = 500 ∧ o' = a
  · rw [c4.1, c4.2, mkR_s] at hq
    cases hq
  rw [mkR_n c4] at hq
  by_cases c5 : f = 1005 ∧ o' = a
  · rw [c5.1, c5.2, mkR_s] at hq
    cases hq
  rw [mkR_n c5] at hq
  have hP : P f o' := by
    rcases hm with y | y | y | y
    · exact absurd y c2
    · exact absurd y c4
    · exact absurd y c5
    · exact y
  rcases hnd f o' j _ hP hq with y | y
  · have z : (1005 : Nat) < 999 := hp _ _ y
    omega
  · cases y
theorem of_new {ci : Int} {k : Int} (hk : kOf ci = k ∧ k6 ci) (hnd : ax_nd (P, g, r0, n)) (hp : ∀ f o, P f o → f < 999) (hnd2 : ax_nd (mkP (mkP (mkP P 1005 a) 500 a) 501 a, mkG (mkG (mkG g 1005 a) 500 a) 501 a, ax_u3 (mkR (ax_u3 (mkR (mkR r0 1005 a) 500 a) 1005 a 0 (some (500, a))) 501 a) 1005 a 1 (some (501, a)), mkN (mkN (mkN n 1005 a ci) 500 a 4) 501 a 4)) :
    ∃ P' g' r' n', ax_rn (mkP (mkP (mkP P 1005 a) 500 a) 501 a, mkG (mkG (mkG g 1005 a) 500 a) 501 a, ax_u3 (mkR (ax_u3 (mkR (mkR r0 1005 a) 500 a) 1005 a 0 (some (500, a))) 501 a) 1005 a 1 (some (501, a)), mkN (mkN (mkN n 1005 a ci) 500 a 4) 501 a 4) 5 a = (P', g', r', n') ∧ cNew P g r0 n a k P' g' r' n' := by
  refine ⟨_, _, _, _, rfl, fun f o => ⟨fun h => ?_, fun h => ?_⟩, ⟨?_, ⟨?_, ?_⟩, fun f o h => ?_⟩, fun f o j h => ?_, fun f o j h => ?_, ax_nd_rn hnd2 (nr_new hnd hp) (Or.inr (Or.inr (Or.inl ⟨rfl, rfl⟩)))⟩
  · rcases h with y | ⟨y | y | y | y, z⟩
    · exact Or.inr ⟨Or.inl y.1, y.2⟩
    · exact Or.inr ⟨Or.inr (Or.inr y.1), y.2⟩
    · exact Or.inr ⟨Or.inr (Or.inl y.1), y.2⟩
    · exact absurd y z
    · exact Or.inl y
  · rcases h with y | ⟨y | y | y, z⟩
    · exact Or.inr ⟨Or.inr (Or.inr (Or.inr y)), fun z => by have := hp _ _ y; omega⟩
    · exact Or.inl ⟨y, z⟩
    · exact Or.inr ⟨Or.inr (Or.inl ⟨y, z⟩), fun w => by omega⟩
    · exact Or.inr ⟨Or.inl ⟨y, z⟩, fun w => by omega⟩
  · have e : (if (5 = 5 ∧ a = a) then mkN (mkN (mkN n 1005 a ci) 500 a 4) 501 a 4 (5 + 1000) a else mkN (mkN (mkN n 1005 a ci) 500 a 4) 501 a 4 5 a) = ci := by
      rw [if_pos ⟨rfl, rfl⟩, mkN_n (by omega), mkN_n (by omega), mkN_s]
    show kOf (if (5 = 5 ∧ a = a) then _ else _) = k ∧ k6 (if (5 = 5 ∧ a = a) then _ else _)
    rw [e]
    exact hk
  · show (if (500 = 5 ∧ a = a) then _ else mkN (mkN (mkN n 1005 a ci) 500 a 4) 501 a 4 500 a) = 4
    rw [if_neg (by omega), mkN_n (by omega), mkN_s]
  · show (if (501 = 5 ∧ a = a) then _ else mkN (mkN (mkN n 1005 a ci) 500 a 4) 501 a 4 501 a) = 4
    rw [if_neg (by omega), mkN_s]
  · show (if (f = 5 ∧ o = a) then _ else mkN (mkN (mkN n 1005 a ci) 500 a 4) 501 a 4 f o) = n f o
    rw [if_neg (by omega), mkN_n (by omega), mkN_n (by omega), mkN_n (by omega)]
  · show (if (f = 5 ∧ o = a) then _ else mkG (mkG (mkG g 1005 a) 500 a) 501 a f o j) = g f o j
    rw [if_neg (by omega), mkG_n (by omega), mkG_n (by omega), mkG_n (by omega)]
  · show (if (f = 5 ∧ o = a) then _ else ax_u3 (mkR (ax_u3 (mkR (mkR r0 1005 a) 500 a) 1005 a 0 (some (500, a))) 501 a) 1005 a 1 (some (501, a)) f o j) = r0 f o j
    rw [if_neg (by omega), ax_u3_n (by omega), mkR_n (by omega), ax_u3_n (by omega), mkR_n (by omega), mkR_n (by omega)]
end CN
set_option maxRecDepth 100000 in
set_option maxHeartbeats 4000000 in
theorem cp_ofKind (k a : Int) (P : Nat → Int → Prop) (g : Nat → Int → Int → Int) (r0 : Nat → Int → Int → Option (Nat × Int)) (n : Nat → Int → Int) (hk05 : 0 ≤ k ∧ k ≤ 5) (hfr : ¬ P 5 a ∧ ¬ P 500 a ∧ ¬ P 501 a) (hnd : ax_nd (P, g, r0, n)) (hp : ∀ f o, P f o → f < 999) : ax_S yX10_ofKind cX10_ofKind 1 (some (FieldType.object "AntsTurn$Ant")) 4 3 21 [.inl k] (P, g, r0, n) (fun r M' => r = some (.inr (.inr (some (5, a)))) ∧ ∃ P' g' r' n', M' = (P', g', r', n') ∧ cNew P g r0 n a k P' g' r' n') := by
  refine ax_S_of (own := 10) (by decide) rfl (fun h => absurd h (by decide)) rfl (Nat.le_of_ble_eq_true rfl) ?_
  change ax_J _ _ _ _ _ _ _ _ _ _ [some (.inl k)] _ _
  refine aj_run (C := True) (pc' := 1) (la' := [some (.inl k)]) (st' := [.inl k]) (M' := (P, g, r0, n)) ok_X10_ofKind true 1 rfl trivial ?_
  by_cases s1 : k = 1
  · refine aj_tsw (tgt := 36) (ax_dec2 (i := .tableswitch 75 1 5 #[35, 43, 51, 59, 67]) (n := 35) ok_X10_ofKind rfl) (by decide) (by rw [s1]; decide) ?_
    refine aj_new (ci := 7) (f := 1005) (o := a) rfl rfl (by decide) (by decide) (ax_T2 (i := 176) (by decide +kernel) rfl) (ax_T2 (i := 177) (by decide +kernel) rfl) (ax_T1 (i := 15) (by decide +kernel) rfl) (fun z9 => by have := hp _ _ z9; omega) hnd ⟨by decide, by decide⟩ (ax_dec2 (i := .new 106) (n := 3) ok_X10_ofKind rfl) ?_
    change ax_J _ _ _ _ _ _ _ _ _ 39 [some (.inl k)] [.inr (.inr (some (1005, a)))] (mkP P 1005 a, mkG g 1005 a, mkR r0 1005 a, mkN n 1005 a 7)
    have nd1 : ax_nd (mkP P 1005 a, mkG g 1005 a, mkR r0 1005 a, mkN n 1005 a 7) := nd_mk hnd
    refine aj_run (C := True) (pc' := 40) (la' := [some (.inl k)]) (st' := [.inr (.inr (some (1005, a))), .inr (.inr (some (1005, a)))]) (M' := (mkP P 1005 a, mkG g 1005 a, mkR r0 1005 a, mkN n 1005 a 7)) ok_X10_ofKind true 1 rfl trivial ?_
    refine aj_callIN (y := yX7_init) (host := "AntsTurn") (idx := 108) (av := []) (st := [.inr (.inr (some (1005, a)))]) (f := 1005) (o := a) cal_X7_init rfl (by decide) ins_X7_init (cp_X7_init a _ _ _ _ ⟨mkP_n (fun z9 => absurd z9.1 (by decide)) hfr.2.1, mkP_n (fun z9 => absurd z9.1 (by decide)) hfr.2.2⟩ nd1) ⟨by decide, by decide, by decide, by decide⟩ (Nat.le_of_ble_eq_true rfl) (ax_dec2 (i := .invokespecial 108) (n := 3) ok_X10_ofKind rfl) (fun r M' hq => ?_)
    obtain ⟨rfl, rfl⟩ := hq
    change ax_J _ _ _ _ _ _ _ _ _ 43 [some (.inl k)] [.inr (.inr (some (1005, a)))] (mkP (mkP (mkP P 1005 a) 500 a) 501 a, mkG (mkG (mkG g 1005 a) 500 a) 501 a, ax_u3 (mkR (ax_u3 (mkR (mkR r0 1005 a) 500 a) 1005 a 0 (some (500, a))) 501 a) 1005 a 1 (some (501, a)), mkN (mkN (mkN n 1005 a 7) 500 a 4) 501 a 4)
    have nd2 : ax_nd (mkP (mkP (mkP P 1005 a) 500 a) 501 a, mkG (mkG (mkG g 1005 a) 500 a) 501 a, ax_u3 (mkR (ax_u3 (mkR (mkR r0 1005 a) 500 a) 1005 a 0 (some (500, a))) 501 a) 1005 a 1 (some (501, a)), mkN (mkN (mkN n 1005 a 7) 500 a 4) 501 a 4) := nd_u (nd_mk (nd_u (nd_mk nd1) (Or.inl ⟨rfl, rfl⟩))) (Or.inl ⟨rfl, rfl⟩)
    refine aj_name (f := 5) (o := a) (by decide) rfl (Or.inr (Or.inr (Or.inl ⟨rfl, rfl⟩))) (mkP_n (fun z9 => absurd z9.1 (by decide)) (mkP_n (fun z9 => absurd z9.1 (by decide)) (mkP_n (fun z9 => absurd z9.1 (by decide)) hfr.1))) (fun z9 => by have := hp _ _ z9; omega) nd2 (nr_new hnd hp) (by decide) ?_ (by intro v9 h9; simp [ax_nvf] at h9 ⊢; first | omega | (rcases h9 with h9 | h9 <;> simp [h9]) | simp [h9]) (by intro v9 h9; simp at h9) ?_
    · intro k9 h8 h9
      have hk9 : k9 = 0 ∨ k9 = 1 := by
        have e9 : ∀ q : Nat, q < 13 → ax_isA 5 q = true → q = 0 ∨ q = 1 := by decide
        exact e9 k9 h9 h8
      rcases hk9 with rfl | rfl
      · exact ⟨by show ax_u3 _ 1005 a 1 _ 1005 a 0 = _; rw [ax_u3_n (by omega), mkR_n (fun z9 => absurd z9.1 (by decide)), ax_u3_s]; rfl, Or.inr (Or.inl ⟨rfl, rfl⟩)⟩
      · exact ⟨by show ax_u3 _ 1005 a 1 _ 1005 a 1 = _; rw [ax_u3_s]; rfl, Or.inl ⟨rfl, rfl⟩⟩
    obtain ⟨P9, g9, r9, n9, e9, hnew⟩ := of_new (ci := 7) (k := k) ⟨by rw [show k = 1 by omega]; decide, by unfold k6; decide⟩ hnd hp nd2
    rw [e9]
    change ax_J _ _ _ _ _ _ _ _ _ 43 [some (.inl k)] [.inr (.inr (some (5, a)))] (P9, g9, r9, n9)
    refine aj_ret (r := some (.inr (.inr (some (5, a))))) (ax_dec2 (i := .areturn) (n := 1) ok_X10_ofKind rfl) ⟨?_, ?_, by decide, by decide⟩ rfl
    · exact ⟨rfl, P9, g9, r9, n9, rfl, hnew⟩
    · exact trivial
  by_cases s2 : k = 2
  · refine aj_tsw (tgt := 44) (ax_dec2 (i := .tableswitch 75 1 5 #[35, 43, 51, 59, 67]) (n := 35) ok_X10_ofKind rfl) (by decide) (by rw [s2]; decide) ?_
    refine aj_new (ci := 6) (f := 1005) (o := a) rfl rfl (by decide) (by decide) (ax_T3 (i := 20) (by decide +kernel) rfl) (ax_T3 (i := 21) (by decide +kernel) rfl) (ax_T1 (i := 16) (by decide +kernel) rfl) (fun z9 => by have := hp _ _ z9; omega) hnd ⟨by decide, by decide⟩ (ax_dec2 (i := .new 109) (n := 3) ok_X10_ofKind rfl) ?_
    change ax_J _ _ _ _ _ _ _ _ _ 47 [some (.inl k)] [.inr (.inr (some (1005, a)))] (mkP P 1005 a, mkG g 1005 a, mkR r0 1005 a, mkN n 1005 a 6)
    have nd3 : ax_nd (mkP P 1005 a, mkG g 1005 a, mkR r0 1005 a, mkN n 1005 a 6) := nd_mk hnd
    refine aj_run (C := True) (pc' := 48) (la' := [some (.inl k)]) (st' := [.inr (.inr (some (1005, a))), .inr (.inr (some (1005, a)))]) (M' := (mkP P 1005 a, mkG g 1005 a, mkR r0 1005 a, mkN n 1005 a 6)) ok_X10_ofKind true 1 rfl trivial ?_
    refine aj_callIN (y := yX6_init) (host := "AntsTurn") (idx := 111) (av := []) (st := [.inr (.inr (some (1005, a)))]) (f := 1005) (o := a) cal_X6_init rfl (by decide) ins_X6_init (cp_X6_init a _ _ _ _ ⟨mkP_n (fun z9 => absurd z9.1 (by decide)) hfr.2.1, mkP_n (fun z9 => absurd z9.1 (by decide)) hfr.2.2⟩ nd3) ⟨by decide, by decide, by decide, by decide⟩ (Nat.le_of_ble_eq_true rfl) (ax_dec2 (i := .invokespecial 111) (n := 3) ok_X10_ofKind rfl) (fun r M' hq => ?_)
    obtain ⟨rfl, rfl⟩ := hq
    change ax_J _ _ _ _ _ _ _ _ _ 51 [some (.inl k)] [.inr (.inr (some (1005, a)))] (mkP (mkP (mkP P 1005 a) 500 a) 501 a, mkG (mkG (mkG g 1005 a) 500 a) 501 a, ax_u3 (mkR (ax_u3 (mkR (mkR r0 1005 a) 500 a) 1005 a 0 (some (500, a))) 501 a) 1005 a 1 (some (501, a)), mkN (mkN (mkN n 1005 a 6) 500 a 4) 501 a 4)
    have nd4 : ax_nd (mkP (mkP (mkP P 1005 a) 500 a) 501 a, mkG (mkG (mkG g 1005 a) 500 a) 501 a, ax_u3 (mkR (ax_u3 (mkR (mkR r0 1005 a) 500 a) 1005 a 0 (some (500, a))) 501 a) 1005 a 1 (some (501, a)), mkN (mkN (mkN n 1005 a 6) 500 a 4) 501 a 4) := nd_u (nd_mk (nd_u (nd_mk nd3) (Or.inl ⟨rfl, rfl⟩))) (Or.inl ⟨rfl, rfl⟩)
    refine aj_name (f := 5) (o := a) (by decide) rfl (Or.inr (Or.inr (Or.inl ⟨rfl, rfl⟩))) (mkP_n (fun z9 => absurd z9.1 (by decide)) (mkP_n (fun z9 => absurd z9.1 (by decide)) (mkP_n (fun z9 => absurd z9.1 (by decide)) hfr.1))) (fun z9 => by have := hp _ _ z9; omega) nd4 (nr_new hnd hp) (by decide) ?_ (by intro v9 h9; simp [ax_nvf] at h9 ⊢; first | omega | (rcases h9 with h9 | h9 <;> simp [h9]) | simp [h9]) (by intro v9 h9; simp at h9) ?_
    · intro k9 h8 h9
      have hk9 : k9 = 0 ∨ k9 = 1 := by
        have e9 : ∀ q : Nat, q < 13 → ax_isA 5 q = true → q = 0 ∨ q = 1 := by decide
        exact e9 k9 h9 h8
      rcases hk9 with rfl | rfl
      · exact ⟨by show ax_u3 _ 1005 a 1 _ 1005 a 0 = _; rw [ax_u3_n (by omega), mkR_n (fun z9 => absurd z9.1 (by decide)), ax_u3_s]; rfl, Or.inr (Or.inl ⟨rfl, rfl⟩)⟩
      · exact ⟨by show ax_u3 _ 1005 a 1 _ 1005 a 1 = _; rw [ax_u3_s]; rfl, Or.inl ⟨rfl, rfl⟩⟩
    obtain ⟨P9, g9, r9, n9, e9, hnew⟩ := of_new (ci := 6) (k := k) ⟨by rw [show k = 2 by omega]; decide, by unfold k6; decide⟩ hnd hp nd4
    rw [e9]
    change ax_J _ _ _ _ _ _ _ _ _ 51 [some (.inl k)] [.inr (.inr (some (5, a)))] (P9, g9, r9, n9)
    refine aj_ret (r := some (.inr (.inr (some (5, a))))) (ax_dec2 (i := .areturn) (n := 1) ok_X10_ofKind rfl) ⟨?_, ?_, by decide, by decide⟩ rfl
    · exact ⟨rfl, P9, g9, r9, n9, rfl, hnew⟩
    · exact trivial
  by_cases s3 : k = 3
  · refine aj_tsw (tgt := 52) (ax_dec2 (i := .tableswitch 75 1 5 #[35, 43, 51, 59, 67]) (n := 35) ok_X10_ofKind rfl) (by decide) (by rw [s3]; decide) ?_
    refine aj_new (ci := 9) (f := 1005) (o := a) rfl rfl (by decide) (by decide) (ax_T3 (i := 40) (by decide +kernel) rfl) (ax_T3 (i := 41) (by decide +kernel) rfl) (ax_T1 (i := 17) (by decide +kernel) rfl) (fun z9 => by have := hp _ _ z9; omega) hnd ⟨by decide, by decide⟩ (ax_dec2 (i := .new 112) (n := 3) ok_X10_ofKind rfl) ?_
    change ax_J _ _ _ _ _ _ _ _ _ 55 [some (.inl k)] [.inr (.inr (some (1005, a)))] (mkP P 1005 a, mkG g 1005 a, mkR r0 1005 a, mkN n 1005 a 9)
    have nd5 : ax_nd (mkP P 1005 a, mkG g 1005 a, mkR r0 1005 a, mkN n 1005 a 9) := nd_mk hnd
    refine aj_run (C := True) (pc' := 56) (la' := [some (.inl k)]) (st' := [.inr (.inr (some (1005, a))), .inr (.inr (some (1005, a)))]) (M' := (mkP P 1005 a, mkG g 1005 a, mkR r0 1005 a, mkN n 1005 a 9)) ok_X10_ofKind true 1 rfl trivial ?_
    refine aj_callIN (y := yX9_init) (host := "AntsTurn") (idx := 114) (av := []) (st := [.inr (.inr (some (1005, a)))]) (f := 1005) (o := a) cal_X9_init rfl (by decide) ins_X9_init (cp_X9_init a _ _ _ _ ⟨mkP_n (fun z9 => absurd z9.1 (by decide)) hfr.2.1, mkP_n (fun z9 => absurd z9.1 (by decide)) hfr.2.2⟩ nd5) ⟨by decide, by decide, by decide, by decide⟩ (Nat.le_of_ble_eq_true rfl) (ax_dec2 (i := .invokespecial 114) (n := 3) ok_X10_ofKind rfl) (fun r M' hq => ?_)
    obtain ⟨rfl, rfl⟩ := hq
    change ax_J _ _ _ _ _ _ _ _ _ 59 [some (.inl k)] [.inr (.inr (some (1005, a)))] (mkP (mkP (mkP P 1005 a) 500 a) 501 a, mkG (mkG (mkG g 1005 a) 500 a) 501 a, ax_u3 (mkR (ax_u3 (mkR (mkR r0 1005 a) 500 a) 1005 a 0 (some (500, a))) 501 a) 1005 a 1 (some (501, a)), mkN (mkN (mkN n 1005 a 9) 500 a 4) 501 a 4)
    have nd6 : ax_nd (mkP (mkP (mkP P 1005 a) 500 a) 501 a, mkG (mkG (mkG g 1005 a) 500 a) 501 a, ax_u3 (mkR (ax_u3 (mkR (mkR r0 1005 a) 500 a) 1005 a 0 (some (500, a))) 501 a) 1005 a 1 (some (501, a)), mkN (mkN (mkN n 1005 a 9) 500 a 4) 501 a 4) := nd_u (nd_mk (nd_u (nd_mk nd5) (Or.inl ⟨rfl, rfl⟩))) (Or.inl ⟨rfl, rfl⟩)
    refine aj_name (f := 5) (o := a) (by decide) rfl (Or.inr (Or.inr (Or.inl ⟨rfl, rfl⟩))) (mkP_n (fun z9 => absurd z9.1 (by decide)) (mkP_n (fun z9 => absurd z9.1 (by decide)) (mkP_n (fun z9 => absurd z9.1 (by decide)) hfr.1))) (fun z9 => by have := hp _ _ z9; omega) nd6 (nr_new hnd hp) (by decide) ?_ (by intro v9 h9; simp [ax_nvf] at h9 ⊢; first | omega | (rcases h9 with h9 | h9 <;> simp [h9]) | simp [h9]) (by intro v9 h9; simp at h9) ?_
    · intro k9 h8 h9
      have hk9 : k9 = 0 ∨ k9 = 1 := by
        have e9 : ∀ q : Nat, q < 13 → ax_isA 5 q = true → q = 0 ∨ q = 1 := by decide
        exact e9 k9 h9 h8
      rcases hk9 with rfl | rfl
      · exact ⟨by show ax_u3 _ 1005 a 1 _ 1005 a 0 = _; rw [ax_u3_n (by omega), mkR_n (fun z9 => absurd z9.1 (by decide)), ax_u3_s]; rfl, Or.inr (Or.inl ⟨rfl, rfl⟩)⟩
      · exact ⟨by show ax_u3 _ 1005 a 1 _ 1005 a 1 = _; rw [ax_u3_s]; rfl, Or.inl ⟨rfl, rfl⟩⟩
    obtain ⟨P9, g9, r9, n9, e9, hnew⟩ := of_new (ci := 9) (k := k) ⟨by rw [show k = 3 by omega]; decide, by unfold k6; decide⟩ hnd hp nd6
    rw [e9]
    change ax_J _ _ _ _ _ _ _ _ _ 59 [some (.inl k)] [.inr (.inr (some (5, a)))] (P9, g9, r9, n9)
    refine aj_ret (r := some (.inr (.inr (some (5, a))))) (ax_dec2 (i := .areturn) (n := 1) ok_X10_ofKind rfl) ⟨?_, ?_, by decide, by decide⟩ rfl
    · exact ⟨rfl, P9, g9, r9, n9, rfl, hnew⟩
    · exact trivial
  by_cases s4 : k = 4
  · refine aj_tsw (tgt := 60) (ax_dec2 (i := .tableswitch 75 1 5 #[35, 43, 51, 59, 67]) (n := 35) ok_X10_ofKind rfl) (by decide) (by rw [s4]; decide) ?_
    refine aj_new (ci := 3) (f := 1005) (o := a) rfl rfl (by decide) (by decide) (ax_T3 (i := 60) (by decide +kernel) rfl) (ax_T3 (i := 61) (by decide +kernel) rfl) (ax_T1 (i := 18) (by decide +kernel) rfl) (fun z9 => by have := hp _ _ z9; omega) hnd ⟨by decide, by decide⟩ (ax_dec2 (i := .new 115) (n := 3) ok_X10_ofKind rfl) ?_
    change ax_J _ _ _ _ _ _ _ _ _ 63 [some (.inl k)] [.inr (.inr (some (1005, a)))] (mkP P 1005 a, mkG g 1005 a, mkR r0 1005 a, mkN n 1005 a 3)
    have nd7 : ax_nd (mkP P 1005 a, mkG g 1005 a, mkR r0 1005 a, mkN n 1005 a 3) := nd_mk hnd
    refine aj_run (C := True) (pc' := 64) (la' := [some (.inl k)]) (st' := [.inr (.inr (some (1005, a))), .inr (.inr (some (1005, a)))]) (M' := (mkP P 1005 a, mkG g 1005 a, mkR r0 1005 a, mkN n 1005 a 3)) ok_X10_ofKind true 1 rfl trivial ?_
    refine aj_callIN (y := yX3_init) (host := "AntsTurn") (idx := 117) (av := []) (st := [.inr (.inr (some (1005, a)))]) (f := 1005) (o := a) cal_X3_init rfl (by decide) ins_X3_init (cp_X3_init a _ _ _ _ ⟨mkP_n (fun z9 => absurd z9.1 (by decide)) hfr.2.1, mkP_n (fun z9 => absurd z9.1 (by decide)) hfr.2.2⟩ nd7) ⟨by decide, by decide, by decide, by decide⟩ (Nat.le_of_ble_eq_true rfl) (ax_dec2 (i := .invokespecial 117) (n := 3) ok_X10_ofKind rfl) (fun r M' hq => ?_)
    obtain ⟨rfl, rfl⟩ := hq
    change ax_J _ _ _ _ _ _ _ _ _ 67 [some (.inl k)] [.inr (.inr (some (1005, a)))] (mkP (mkP (mkP P 1005 a) 500 a) 501 a, mkG (mkG (mkG g 1005 a) 500 a) 501 a, ax_u3 (mkR (ax_u3 (mkR (mkR r0 1005 a) 500 a) 1005 a 0 (some (500, a))) 501 a) 1005 a 1 (some (501, a)), mkN (mkN (mkN n 1005 a 3) 500 a 4) 501 a 4)
    have nd8 : ax_nd (mkP (mkP (mkP P 1005 a) 500 a) 501 a, mkG (mkG (mkG g 1005 a) 500 a) 501 a, ax_u3 (mkR (ax_u3 (mkR (mkR r0 1005 a) 500 a) 1005 a 0 (some (500, a))) 501 a) 1005 a 1 (some (501, a)), mkN (mkN (mkN n 1005 a 3) 500 a 4) 501 a 4) := nd_u (nd_mk (nd_u (nd_mk nd7) (Or.inl ⟨rfl, rfl⟩))) (Or.inl ⟨rfl, rfl⟩)
    refine aj_name (f := 5) (o := a) (by decide) rfl (Or.inr (Or.inr (Or.inl ⟨rfl, rfl⟩))) (mkP_n (fun z9 => absurd z9.1 (by decide)) (mkP_n (fun z9 => absurd z9.1 (by decide)) (mkP_n (fun z9 => absurd z9.1 (by decide)) hfr.1))) (fun z9 => by have := hp _ _ z9; omega) nd8 (nr_new hnd hp) (by decide) ?_ (by intro v9 h9; simp [ax_nvf] at h9 ⊢; first | omega | (rcases h9 with h9 | h9 <;> simp [h9]) | simp [h9]) (by intro v9 h9; simp at h9) ?_
    · intro k9 h8 h9
      have hk9 : k9 = 0 ∨ k9 = 1 := by
        have e9 : ∀ q : Nat, q < 13 → ax_isA 5 q = true → q = 0 ∨ q = 1 := by decide
        exact e9 k9 h9 h8
      rcases hk9 with rfl | rfl
      · exact ⟨by show ax_u3 _ 1005 a 1 _ 1005 a 0 = _; rw [ax_u3_n (by omega), mkR_n (fun z9 => absurd z9.1 (by decide)), ax_u3_s]; rfl, Or.inr (Or.inl ⟨rfl, rfl⟩)⟩
      · exact ⟨by show ax_u3 _ 1005 a 1 _ 1005 a 1 = _; rw [ax_u3_s]; rfl, Or.inl ⟨rfl, rfl⟩⟩
    obtain ⟨P9, g9, r9, n9, e9, hnew⟩ := of_new (ci := 3) (k := k) ⟨by rw [show k = 4 by omega]; decide, by unfold k6; decide⟩ hnd hp nd8
    rw [e9]
    change ax_J _ _ _ _ _ _ _ _ _ 67 [some (.inl k)] [.inr (.inr (some (5, a)))] (P9, g9, r9, n9)
    refine aj_ret (r := some (.inr (.inr (some (5, a))))) (ax_dec2 (i := .areturn) (n := 1) ok_X10_ofKind rfl) ⟨?_, ?_, by decide, by decide⟩ rfl
    · exact ⟨rfl, P9, g9, r9, n9, rfl, hnew⟩
    · exact trivial
  by_cases s5 : k = 5
  · refine aj_tsw (tgt := 68) (ax_dec2 (i := .tableswitch 75 1 5 #[35, 43, 51, 59, 67]) (n := 35) ok_X10_ofKind rfl) (by decide) (by rw [s5]; decide) ?_
    refine aj_new (ci := 1) (f := 1005) (o := a) rfl rfl (by decide) (by decide) (ax_T3 (i := 80) (by decide +kernel) rfl) (ax_T3 (i := 81) (by decide +kernel) rfl) (ax_T1 (i := 19) (by decide +kernel) rfl) (fun z9 => by have := hp _ _ z9; omega) hnd ⟨by decide, by decide⟩ (ax_dec2 (i := .new 118) (n := 3) ok_X10_ofKind rfl) ?_
    change ax_J _ _ _ _ _ _ _ _ _ 71 [some (.inl k)] [.inr (.inr (some (1005, a)))] (mkP P 1005 a, mkG g 1005 a, mkR r0 1005 a, mkN n 1005 a 1)
    have nd9 : ax_nd (mkP P 1005 a, mkG g 1005 a, mkR r0 1005 a, mkN n 1005 a 1) := nd_mk hnd
    refine aj_run (C := True) (pc' := 72) (la' := [some (.inl k)]) (st' := [.inr (.inr (some (1005, a))), .inr (.inr (some (1005, a)))]) (M' := (mkP P 1005 a, mkG g 1005 a, mkR r0 1005 a, mkN n 1005 a 1)) ok_X10_ofKind true 1 rfl trivial ?_
    refine aj_callIN (y := yX1_init) (host := "AntsTurn") (idx := 120) (av := []) (st := [.inr (.inr (some (1005, a)))]) (f := 1005) (o := a) cal_X1_init rfl (by decide) ins_X1_init (cp_X1_init a _ _ _ _ ⟨mkP_n (fun z9 => absurd z9.1 (by decide)) hfr.2.1, mkP_n (fun z9 => absurd z9.1 (by decide)) hfr.2.2⟩ nd9) ⟨by decide, by decide, by decide, by decide⟩ (Nat.le_of_ble_eq_true rfl) (ax_dec2 (i := .invokespecial 120) (n := 3) ok_X10_ofKind rfl) (fun r M' hq => ?_)
    obtain ⟨rfl, rfl⟩ := hq
    change ax_J _ _ _ _ _ _ _ _ _ 75 [some (.inl k)] [.inr (.inr (some (1005, a)))] (mkP (mkP (mkP P 1005 a) 500 a) 501 a, mkG (mkG (mkG g 1005 a) 500 a) 501 a, ax_u3 (mkR (ax_u3 (mkR (mkR r0 1005 a) 500 a) 1005 a 0 (some (500, a))) 501 a) 1005 a 1 (some (501, a)), mkN (mkN (mkN n 1005 a 1) 500 a 4) 501 a 4)
    have nd10 : ax_nd (mkP (mkP (mkP P 1005 a) 500 a) 501 a, mkG (mkG (mkG g 1005 a) 500 a) 501 a, ax_u3 (mkR (ax_u3 (mkR (mkR r0 1005 a) 500 a) 1005 a 0 (some (500, a))) 501 a) 1005 a 1 (some (501, a)), mkN (mkN (mkN n 1005 a 1) 500 a 4) 501 a 4) := nd_u (nd_mk (nd_u (nd_mk nd9) (Or.inl ⟨rfl, rfl⟩))) (Or.inl ⟨rfl, rfl⟩)
    refine aj_name (f := 5) (o := a) (by decide) rfl (Or.inr (Or.inr (Or.inl ⟨rfl, rfl⟩))) (mkP_n (fun z9 => absurd z9.1 (by decide)) (mkP_n (fun z9 => absurd z9.1 (by decide)) (mkP_n (fun z9 => absurd z9.1 (by decide)) hfr.1))) (fun z9 => by have := hp _ _ z9; omega) nd10 (nr_new hnd hp) (by decide) ?_ (by intro v9 h9; simp [ax_nvf] at h9 ⊢; first | omega | (rcases h9 with h9 | h9 <;> simp [h9]) | simp [h9]) (by intro v9 h9; simp at h9) ?_
    · intro k9 h8 h9
      have hk9 : k9 = 0 ∨ k9 = 1 := by
        have e9 : ∀ q : Nat, q < 13 → ax_isA 5 q = true → q = 0 ∨ q = 1 := by decide
        exact e9 k9 h9 h8
      rcases hk9 with rfl | rfl
      · exact ⟨by show ax_u3 _ 1005 a 1 _ 1005 a 0 = _; rw [ax_u3_n (by omega), mkR_n (fun z9 => absurd z9.1 (by decide)), ax_u3_s]; rfl, Or.inr (Or.inl ⟨rfl, rfl⟩)⟩
      · exact ⟨by show ax_u3 _ 1005 a 1 _ 1005 a 1 = _; rw [ax_u3_s]; rfl, Or.inl ⟨rfl, rfl⟩⟩
    obtain ⟨P9, g9, r9, n9, e9, hnew⟩ := of_new (ci := 1) (k := k) ⟨by rw [show k = 5 by omega]; decide, by unfold k6; decide⟩ hnd hp nd10
    rw [e9]
    change ax_J _ _ _ _ _ _ _ _ _ 75 [some (.inl k)] [.inr (.inr (some (5, a)))] (P9, g9, r9, n9)
    refine aj_ret (r := some (.inr (.inr (some (5, a))))) (ax_dec2 (i := .areturn) (n := 1) ok_X10_ofKind rfl) ⟨?_, ?_, by decide, by decide⟩ rfl
    · exact ⟨rfl, P9, g9, r9, n9, rfl, hnew⟩
    · exact trivial
  refine aj_tsw (tgt := 76) (ax_dec2 (i := .tableswitch 75 1 5 #[35, 43, 51, 59, 67]) (n := 35) ok_X10_ofKind rfl) (by decide) (by rw [ax_tsw_d k (by decide) (by decide) (by omega)]; decide) ?_
  refine aj_new (ci := 0) (f := 1005) (o := a) rfl rfl (by decide) (by decide) (ax_T3 (i := 100) (by decide +kernel) rfl) (ax_T3 (i := 101) (by decide +kernel) rfl) (ax_T1 (i := 14) (by decide +kernel) rfl) (fun z9 => by have := hp _ _ z9; omega) hnd ⟨by decide, by decide⟩ (ax_dec2 (i := .new 86) (n := 3) ok_X10_ofKind rfl) ?_
  change ax_J _ _ _ _ _ _ _ _ _ 79 [some (.inl k)] [.inr (.inr (some (1005, a)))] (mkP P 1005 a, mkG g 1005 a, mkR r0 1005 a, mkN n 1005 a 0)
  have nd11 : ax_nd (mkP P 1005 a, mkG g 1005 a, mkR r0 1005 a, mkN n 1005 a 0) := nd_mk hnd
  refine aj_run (C := True) (pc' := 80) (la' := [some (.inl k)]) (st' := [.inr (.inr (some (1005, a))), .inr (.inr (some (1005, a)))]) (M' := (mkP P 1005 a, mkG g 1005 a, mkR r0 1005 a, mkN n 1005 a 0)) ok_X10_ofKind true 1 rfl trivial ?_
  refine aj_callIN (y := yX0_init) (host := "AntsTurn") (idx := 121) (av := []) (st := [.inr (.inr (some (1005, a)))]) (f := 1005) (o := a) cal_X0_init rfl (by decide) ins_X0_init (cp_X0_init a _ _ _ _ ⟨mkP_n (fun z9 => absurd z9.1 (by decide)) hfr.2.1, mkP_n (fun z9 => absurd z9.1 (by decide)) hfr.2.2⟩ nd11) ⟨by decide, by decide, by decide, by decide⟩ (Nat.le_of_ble_eq_true rfl) (ax_dec2 (i := .invokespecial 121) (n := 3) ok_X10_ofKind rfl) (fun r M' hq => ?_)
  obtain ⟨rfl, rfl⟩ := hq
  change ax_J _ _ _ _ _ _ _ _ _ 83 [some (.inl k)] [.inr (.inr (some (1005, a)))] (mkP (mkP (mkP P 1005 a) 500 a) 501 a, mkG (mkG (mkG g 1005 a) 500 a) 501 a, ax_u3 (mkR (ax_u3 (mkR (mkR r0 1005 a) 500 a) 1005 a 0 (some (500, a))) 501 a) 1005 a 1 (some (501, a)), mkN (mkN (mkN n 1005 a 0) 500 a 4) 501 a 4)
  have nd12 : ax_nd (mkP (mkP (mkP P 1005 a) 500 a) 501 a, mkG (mkG (mkG g 1005 a) 500 a) 501 a, ax_u3 (mkR (ax_u3 (mkR (mkR r0 1005 a) 500 a) 1005 a 0 (some (500, a))) 501 a) 1005 a 1 (some (501, a)), mkN (mkN (mkN n 1005 a 0) 500 a 4) 501 a 4) := nd_u (nd_mk (nd_u (nd_mk nd11) (Or.inl ⟨rfl, rfl⟩))) (Or.inl ⟨rfl, rfl⟩)
  refine aj_name (f := 5) (o := a) (by decide) rfl (Or.inr (Or.inr (Or.inl ⟨rfl, rfl⟩))) (mkP_n (fun z9 => absurd z9.1 (by decide)) (mkP_n (fun z9 => absurd z9.1 (by decide)) (mkP_n (fun z9 => absurd z9.1 (by decide)) hfr.1))) (fun z9 => by have := hp _ _ z9; omega) nd12 (nr_new hnd hp) (by decide) ?_ (by intro v9 h9; simp [ax_nvf] at h9 ⊢; first | omega | (rcases h9 with h9 | h9 <;> simp [h9]) | simp [h9]) (by intro v9 h9; simp at h9) ?_
  · intro k9 h8 h9
    have hk9 : k9 = 0 ∨ k9 = 1 := by
      have e9 : ∀ q : Nat, q < 13 → ax_isA 5 q = true → q = 0 ∨ q = 1 := by decide
      exact e9 k9 h9 h8
    rcases hk9 with rfl | rfl
    · exact ⟨by show ax_u3 _ 1005 a 1 _ 1005 a 0 = _; rw [ax_u3_n (by omega), mkR_n (fun z9 => absurd z9.1 (by decide)), ax_u3_s]; rfl, Or.inr (Or.inl ⟨rfl, rfl⟩)⟩
    · exact ⟨by show ax_u3 _ 1005 a 1 _ 1005 a 1 = _; rw [ax_u3_s]; rfl, Or.inl ⟨rfl, rfl⟩⟩
  obtain ⟨P9, g9, r9, n9, e9, hnew⟩ := of_new (ci := 0) (k := k) ⟨by rw [show k = 0 by omega]; decide, by unfold k6; decide⟩ hnd hp nd12
  rw [e9]
  change ax_J _ _ _ _ _ _ _ _ _ 83 [some (.inl k)] [.inr (.inr (some (5, a)))] (P9, g9, r9, n9)
  refine aj_ret (r := some (.inr (.inr (some (5, a))))) (ax_dec2 (i := .areturn) (n := 1) ok_X10_ofKind rfl) ⟨?_, ?_, by decide, by decide⟩ rfl
  · exact ⟨rfl, P9, g9, r9, n9, rfl, hnew⟩
  · exact trivial

