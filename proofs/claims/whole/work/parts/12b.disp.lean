def cpG (g : Nat → Int → Int → Int) (f : Nat) (o : Int) (f2 : Nat) (o2 sp dp n : Int) : Nat → Int → Int → Int := fun f' o' j => if (f' = f2 ∧ o' = o2) ∧ dp ≤ j ∧ j < dp + n then g f o (sp + (j - dp)) else g f' o' j
theorem cpG_o {g : Nat → Int → Int → Int} {f : Nat} {o : Int} {f2 : Nat} {o2 sp dp n : Int} {f' : Nat} {o' j : Int} (h : ¬ (f' = f2 ∧ o' = o2)) : cpG g f o f2 o2 sp dp n f' o' j = g f' o' j := if_neg (fun z => h z.1)
theorem cpG_r {g : Nat → Int → Int → Int} {f : Nat} {o : Int} {f2 : Nat} {o2 sp dp n : Int} {j : Int} (h1 : dp ≤ j) (h2 : j < dp + n) : cpG g f o f2 o2 sp dp n f2 o2 j = g f o (sp + (j - dp)) := if_pos ⟨⟨rfl, rfl⟩, h1, h2⟩
set_option maxRecDepth 100000 in
set_option maxHeartbeats 4000000 in
theorem cp_X0_keepTraits (o : Int) (P : Nat → Int → Prop) (g : Nat → Int → Int → Int) (r0 : Nat → Int → Int → Option (Nat × Int)) (n : Nat → Int → Int) (h4 : n 500 o = 4 ∧ n 501 o = 4) : ax_S yX0_keepTraits cX0_keepTraits 1 none 1 0 0 [.inr (.inr (some (5, o)))] (P, g, r0, n) (fun r M' => r = none ∧ M' = (P, cpG g 500 o 501 o 0 0 4, r0, n)) := by
  refine ax_S_of (own := 0) (by decide) rfl (fun h => absurd h (by decide)) rfl (Nat.le_of_ble_eq_true rfl) ?_
  change ax_J _ _ _ _ _ _ _ _ _ _ [some (.inr (.inr (some (5, o))))] _ _
  refine aj_run (C := True) (pc' := 11) (la' := [some (.inr (.inr (some (5, o))))]) (st' := [.inl 4, .inl 0, .inr (.inr (some (501, o))), .inl 0, .inr (.inr (some (500, o)))]) (M' := (P, g, r0, n)) ok_X0_keepTraits true 7 rfl trivial ?_
  refine aj_copy (f := 500) (f2 := 501) (o := o) (o2 := o) (sp := 0) (dp := 0) (n := 4) (st := []) lk_0_53 (ax_T2 (i := 100) (by decide +kernel) rfl) (ax_T2 (i := 99) (by decide +kernel) rfl) (ax_T1 (i := 12) (by decide +kernel) rfl) rfl rfl rfl rfl rfl rfl (by omega) ⟨by omega, by have z9 := h4.1; change 0 + 4 ≤ n 500 o; omega⟩ ⟨by omega, by have z9 := h4.2; change 0 + 4 ≤ n 501 o; omega⟩ ⟨by decide, by decide⟩ (Nat.le_of_ble_eq_true rfl) (ax_dec2 (i := .invokestatic 53) (n := 3) ok_X0_keepTraits rfl) ?_
  change ax_J _ _ _ _ _ _ _ _ _ 14 [some (.inr (.inr (some (5, o))))] [] (P, cpG g 500 o 501 o 0 0 4, r0, n)
  refine aj_ret (r := none) (ax_dec2 (i := .return_) (n := 1) ok_X0_keepTraits rfl) ⟨?_, ?_, by decide, by decide⟩ rfl
  · exact ⟨rfl, rfl⟩
  · exact trivial

set_option maxRecDepth 100000 in
set_option maxHeartbeats 4000000 in
theorem cp_X0_layTraitsBack (o : Int) (P : Nat → Int → Prop) (g : Nat → Int → Int → Int) (r0 : Nat → Int → Int → Option (Nat × Int)) (n : Nat → Int → Int) (h4 : n 500 o = 4 ∧ n 501 o = 4) : ax_S yX0_layTraitsBack cX0_layTraitsBack 1 none 1 0 0 [.inr (.inr (some (5, o)))] (P, g, r0, n) (fun r M' => r = none ∧ M' = (P, cpG g 501 o 500 o 0 0 4, r0, n)) := by
  refine ax_S_of (own := 0) (by decide) rfl (fun h => absurd h (by decide)) rfl (Nat.le_of_ble_eq_true rfl) ?_
  change ax_J _ _ _ _ _ _ _ _ _ _ [some (.inr (.inr (some (5, o))))] _ _
  refine aj_run (C := True) (pc' := 11) (la' := [some (.inr (.inr (some (5, o))))]) (st' := [.inl 4, .inl 0, .inr (.inr (some (500, o))), .inl 0, .inr (.inr (some (501, o)))]) (M' := (P, g, r0, n)) ok_X0_layTraitsBack true 7 rfl trivial ?_
  refine aj_copy (f := 501) (f2 := 500) (o := o) (o2 := o) (sp := 0) (dp := 0) (n := 4) (st := []) lk_0_53 (ax_T2 (i := 100) (by decide +kernel) rfl) (ax_T2 (i := 99) (by decide +kernel) rfl) (ax_T1 (i := 12) (by decide +kernel) rfl) rfl rfl rfl rfl rfl rfl (by omega) ⟨by omega, by have z9 := h4.2; change 0 + 4 ≤ n 501 o; omega⟩ ⟨by omega, by have z9 := h4.1; change 0 + 4 ≤ n 500 o; omega⟩ ⟨by decide, by decide⟩ (Nat.le_of_ble_eq_true rfl) (ax_dec2 (i := .invokestatic 53) (n := 3) ok_X0_layTraitsBack rfl) ?_
  change ax_J _ _ _ _ _ _ _ _ _ 14 [some (.inr (.inr (some (5, o))))] [] (P, cpG g 501 o 500 o 0 0 4, r0, n)
  refine aj_ret (r := none) (ax_dec2 (i := .return_) (n := 1) ok_X0_layTraitsBack rfl) ⟨?_, ?_, by decide, by decide⟩ rfl
  · exact ⟨rfl, rfl⟩
  · exact trivial

/-- the kind of an ant by its class number -/
def kOf (c : Int) : Int := if c = 0 then 0 else if c = 7 then 1 else if c = 6 then 2 else if c = 9 then 3 else if c = 3 then 4 else 5
def k6 (c : Int) : Prop := c = 0 ∨ c = 7 ∨ c = 6 ∨ c = 9 ∨ c = 3 ∨ c = 1
section AD
variable {own : Nat} {cc : ByteArray} {nL : Nat} {scr : Option (Nat × (Nat → Int32))} {R : Room} {p0 : Nat → Int → Prop} {Q : ax_Q} {kc ks pc : Nat} {la : List (Option ax_V)} {st : List ax_V} {M : ax_Mm}
variable {P : Nat → Int → Prop} {g : Nat → Int → Int → Int} {r0 : Nat → Int → Int → Option (Nat × Int)} {n : Nat → Int → Int}
theorem aj_d_turns {idx : Nat} {o : Int} (hl : Cond.methodLink (ax_nm own) idx yX0_turns ∈ ax_GT) (h6 : k6 (n 5 o)) (h4 : n 500 o = 4) (hR : ax_hav R 8 0 0 kc ks) (hz : ax_sz st ≤ 8) (h : decode cc pc = .ok (.invokevirtual idx, 3)) (kk : ax_J own cc nL scr R p0 Q (kc + 0) (ks + 0) (pc + 3) la (.inl (wTurns (kOf (n 5 o)) (g 5 o 5) (g 500 o 3)) :: st) (P, g, r0, n)) : ax_J own cc nL scr R p0 Q kc ks pc la (.inr (.inr (some (5, o))) :: st) (P, g, r0, n) := by
  rcases h6 with h6 | h6 | h6 | h6 | h6 | h6
  · refine aj_callU (x := yX0_turns) (y := yX0_turns) (owner := "AntsTurn$Ant") (av := []) (st := st) (f := 5) (o := o) (ci := 0) cal_X0_turns hl (ax_T4 (i := 18) (by decide +kernel) rfl) ins_X0_turns ins_X0_turns rfl (ax_T4 (i := 17) (by decide +kernel) rfl) cal_X0_turns.1 ⟨by decide, by decide, cal_X0_turns.2.2.2.1⟩ rfl (fun c9 _ h9 => by have z9 := h9.trans h6; omega) (cp_X0_turns 0 _ rfl o _ _ _ _ h6 h4) ⟨by have := hR.1; omega, by have := hR.2.1; omega, hR.2.2.1, hR.2.2.2⟩ hz h (fun r M' hq => ?_)
    obtain ⟨rfl, rfl⟩ := hq
    have ek : kOf (n 5 o) = 0 := by rw [h6]; rfl
    rw [ek] at kk
    exact kk
  · refine aj_callU (x := yX0_turns) (y := yX7_turns) (owner := "AntsTurn$Ant") (av := []) (st := st) (f := 5) (o := o) (ci := 7) cal_X7_turns hl (ax_T4 (i := 18) (by decide +kernel) rfl) ins_X0_turns ins_X7_turns rfl (ax_T4 (i := 27) (by decide +kernel) rfl) cal_X0_turns.1 ⟨by decide, by decide, cal_X0_turns.2.2.2.1⟩ rfl (fun c9 _ h9 => by have z9 := h9.trans h6; omega) (cp_X7_turns 7 _ rfl o _ _ _ _ h6 h4) ⟨by have := hR.1; omega, by have := hR.2.1; omega, hR.2.2.1, hR.2.2.2⟩ hz h (fun r M' hq => ?_)
    obtain ⟨rfl, rfl⟩ := hq
    have ek : kOf (n 5 o) = 1 := by rw [h6]; rfl
    rw [ek] at kk
    exact kk
  · refine aj_callU (x := yX0_turns) (y := yX0_turns) (owner := "AntsTurn$Ant") (av := []) (st := st) (f := 5) (o := o) (ci := 6) cal_X0_turns hl (ax_T4 (i := 18) (by decide +kernel) rfl) ins_X0_turns ins_X0_turns rfl (ax_T4 (i := 26) (by decide +kernel) rfl) cal_X0_turns.1 ⟨by decide, by decide, cal_X0_turns.2.2.2.1⟩ rfl (fun c9 _ h9 => by have z9 := h9.trans h6; omega) (cp_X0_turns 6 _ rfl o _ _ _ _ h6 h4) ⟨by have := hR.1; omega, by have := hR.2.1; omega, hR.2.2.1, hR.2.2.2⟩ hz h (fun r M' hq => ?_)
    obtain ⟨rfl, rfl⟩ := hq
    have ek : kOf (n 5 o) = 2 := by rw [h6]; rfl
    rw [ek] at kk
    exact kk
  · refine aj_callU (x := yX0_turns) (y := yX9_turns) (owner := "AntsTurn$Ant") (av := []) (st := st) (f := 5) (o := o) (ci := 9) cal_X9_turns hl (ax_T4 (i := 18) (by decide +kernel) rfl) ins_X0_turns ins_X9_turns rfl (ax_T4 (i := 30) (by decide +kernel) rfl) cal_X0_turns.1 ⟨by decide, by decide, cal_X0_turns.2.2.2.1⟩ rfl (fun c9 _ h9 => by have z9 := h9.trans h6; omega) (cp_X9_turns 9 _ rfl o _ _ _ _ h6 h4) ⟨by have := hR.1; omega, by have := hR.2.1; omega, hR.2.2.1, hR.2.2.2⟩ hz h (fun r M' hq => ?_)
    obtain ⟨rfl, rfl⟩ := hq
    have ek : kOf (n 5 o) = 3 := by rw [h6]; rfl
    rw [ek] at kk
    exact kk
  · refine aj_callU (x := yX0_turns) (y := yX3_turns) (owner := "AntsTurn$Ant") (av := []) (st := st) (f := 5) (o := o) (ci := 3) cal_X3_turns hl (ax_T4 (i := 18) (by decide +kernel) rfl) ins_X0_turns ins_X3_turns rfl (ax_T4 (i := 20) (by decide +kernel) rfl) cal_X0_turns.1 ⟨by decide, by decide, cal_X0_turns.2.2.2.1⟩ rfl (fun c9 _ h9 => by have z9 := h9.trans h6; omega) (cp_X3_turns 3 _ rfl o _ _ _ _ h6 h4) ⟨by have := hR.1; omega, by have := hR.2.1; omega, hR.2.2.1, hR.2.2.2⟩ hz h (fun r M' hq => ?_)
    obtain ⟨rfl, rfl⟩ := hq
    have ek : kOf (n 5 o) = 4 := by rw [h6]; rfl
    rw [ek] at kk
    exact kk
  · refine aj_callU (x := yX0_turns) (y := yX0_turns) (owner := "AntsTurn$Ant") (av := []) (st := st) (f := 5) (o := o) (ci := 1) cal_X0_turns hl (ax_T4 (i := 18) (by decide +kernel) rfl) ins_X0_turns ins_X0_turns rfl (ax_T4 (i := 19) (by decide +kernel) rfl) cal_X0_turns.1 ⟨by decide, by decide, cal_X0_turns.2.2.2.1⟩ rfl (fun c9 _ h9 => by have z9 := h9.trans h6; omega) (cp_X0_turns 1 _ rfl o _ _ _ _ h6 h4) ⟨by have := hR.1; omega, by have := hR.2.1; omega, hR.2.2.1, hR.2.2.2⟩ hz h (fun r M' hq => ?_)
    obtain ⟨rfl, rfl⟩ := hq
    have ek : kOf (n 5 o) = 5 := by rw [h6]; rfl
    rw [ek] at kk
    exact kk

theorem aj_d_returns {idx : Nat} {o : Int} (hl : Cond.methodLink (ax_nm own) idx yX0_returns ∈ ax_GT) (h6 : k6 (n 5 o)) (h4 : n 500 o = 4) (hR : ax_hav R 8 0 0 kc ks) (hz : ax_sz st ≤ 8) (h : decode cc pc = .ok (.invokevirtual idx, 3)) (kk : ax_J own cc nL scr R p0 Q (kc + 0) (ks + 0) (pc + 3) la (.inl (wBacks (kOf (n 5 o)) (g 5 o 7) (g 500 o 3)) :: st) (P, g, r0, n)) : ax_J own cc nL scr R p0 Q kc ks pc la (.inr (.inr (some (5, o))) :: st) (P, g, r0, n) := by
  rcases h6 with h6 | h6 | h6 | h6 | h6 | h6
  · refine aj_callU (x := yX0_returns) (y := yX0_returns) (owner := "AntsTurn$Ant") (av := []) (st := st) (f := 5) (o := o) (ci := 0) cal_X0_returns hl (ax_T4 (i := 63) (by decide +kernel) rfl) ins_X0_returns ins_X0_returns rfl (ax_T4 (i := 62) (by decide +kernel) rfl) cal_X0_returns.1 ⟨by decide, by decide, cal_X0_returns.2.2.2.1⟩ rfl (fun c9 _ h9 => by have z9 := h9.trans h6; omega) (cp_X0_returns 0 _ rfl o _ _ _ _ h6 h4) ⟨by have := hR.1; omega, by have := hR.2.1; omega, hR.2.2.1, hR.2.2.2⟩ hz h (fun r M' hq => ?_)
    obtain ⟨rfl, rfl⟩ := hq
    have ek : kOf (n 5 o) = 0 := by rw [h6]; rfl
    rw [ek] at kk
    exact kk
  · refine aj_callU (x := yX0_returns) (y := yX0_returns) (owner := "AntsTurn$Ant") (av := []) (st := st) (f := 5) (o := o) (ci := 7) cal_X0_returns hl (ax_T4 (i := 63) (by decide +kernel) rfl) ins_X0_returns ins_X0_returns rfl (ax_T4 (i := 75) (by decide +kernel) rfl) cal_X0_returns.1 ⟨by decide, by decide, cal_X0_returns.2.2.2.1⟩ rfl (fun c9 _ h9 => by have z9 := h9.trans h6; omega) (cp_X0_returns 7 _ rfl o _ _ _ _ h6 h4) ⟨by have := hR.1; omega, by have := hR.2.1; omega, hR.2.2.1, hR.2.2.2⟩ hz h (fun r M' hq => ?_)
    obtain ⟨rfl, rfl⟩ := hq
    have ek : kOf (n 5 o) = 1 := by rw [h6]; rfl
    rw [ek] at kk
    exact kk
  · refine aj_callU (x := yX0_returns) (y := yX6_returns) (owner := "AntsTurn$Ant") (av := []) (st := st) (f := 5) (o := o) (ci := 6) cal_X6_returns hl (ax_T4 (i := 63) (by decide +kernel) rfl) ins_X0_returns ins_X6_returns rfl (ax_T4 (i := 74) (by decide +kernel) rfl) cal_X0_returns.1 ⟨by decide, by decide, cal_X0_returns.2.2.2.1⟩ rfl (fun c9 _ h9 => by have z9 := h9.trans h6; omega) (cp_X6_returns 6 _ rfl o _ _ _ _ h6 h4) ⟨by have := hR.1; omega, by have := hR.2.1; omega, hR.2.2.1, hR.2.2.2⟩ hz h (fun r M' hq => ?_)
    obtain ⟨rfl, rfl⟩ := hq
    have ek : kOf (n 5 o) = 2 := by rw [h6]; rfl
    rw [ek] at kk
    exact kk
  · refine aj_callU (x := yX0_returns) (y := yX0_returns) (owner := "AntsTurn$Ant") (av := []) (st := st) (f := 5) (o := o) (ci := 9) cal_X0_returns hl (ax_T4 (i := 63) (by decide +kernel) rfl) ins_X0_returns ins_X0_returns rfl (ax_T4 (i := 76) (by decide +kernel) rfl) cal_X0_returns.1 ⟨by decide, by decide, cal_X0_returns.2.2.2.1⟩ rfl (fun c9 _ h9 => by have z9 := h9.trans h6; omega) (cp_X0_returns 9 _ rfl o _ _ _ _ h6 h4) ⟨by have := hR.1; omega, by have := hR.2.1; omega, hR.2.2.1, hR.2.2.2⟩ hz h (fun r M' hq => ?_)
    obtain ⟨rfl, rfl⟩ := hq
    have ek : kOf (n 5 o) = 3 := by rw [h6]; rfl
    rw [ek] at kk
    exact kk
  · refine aj_callU (x := yX0_returns) (y := yX3_returns) (owner := "AntsTurn$Ant") (av := []) (st := st) (f := 5) (o := o) (ci := 3) cal_X3_returns hl (ax_T4 (i := 63) (by decide +kernel) rfl) ins_X0_returns ins_X3_returns rfl (ax_T4 (i := 70) (by decide +kernel) rfl) cal_X0_returns.1 ⟨by decide, by decide, cal_X0_returns.2.2.2.1⟩ rfl (fun c9 _ h9 => by have z9 := h9.trans h6; omega) (cp_X3_returns 3 _ rfl o _ _ _ _ h6 h4) ⟨by have := hR.1; omega, by have := hR.2.1; omega, hR.2.2.1, hR.2.2.2⟩ hz h (fun r M' hq => ?_)
    obtain ⟨rfl, rfl⟩ := hq
    have ek : kOf (n 5 o) = 4 := by rw [h6]; rfl
    rw [ek] at kk
    exact kk
  · refine aj_callU (x := yX0_returns) (y := yX1_returns) (owner := "AntsTurn$Ant") (av := []) (st := st) (f := 5) (o := o) (ci := 1) cal_X1_returns hl (ax_T4 (i := 63) (by decide +kernel) rfl) ins_X0_returns ins_X1_returns rfl (ax_T4 (i := 64) (by decide +kernel) rfl) cal_X0_returns.1 ⟨by decide, by decide, cal_X0_returns.2.2.2.1⟩ rfl (fun c9 _ h9 => by have z9 := h9.trans h6; omega) (cp_X1_returns 1 _ rfl o _ _ _ _ h6 h4) ⟨by have := hR.1; omega, by have := hR.2.1; omega, hR.2.2.1, hR.2.2.2⟩ hz h (fun r M' hq => ?_)
    obtain ⟨rfl, rfl⟩ := hq
    have ek : kOf (n 5 o) = 5 := by rw [h6]; rfl
    rw [ek] at kk
    exact kk

theorem aj_d_weighs {idx : Nat} {o : Int} (hl : Cond.methodLink (ax_nm own) idx yX0_weighs ∈ ax_GT) (h6 : k6 (n 5 o)) (h4 : n 500 o = 4) (hg : 0 ≤ g 500 o 3 ∧ g 500 o 3 ≤ 9) (hR : ax_hav R 8 0 0 kc ks) (hz : ax_sz st ≤ 8) (h : decode cc pc = .ok (.invokevirtual idx, 3)) (kk : ax_J own cc nL scr R p0 Q (kc + 0) (ks + 0) (pc + 3) la (.inl (wWeighs (kOf (n 5 o)) (g 500 o 3)) :: st) (P, g, r0, n)) : ax_J own cc nL scr R p0 Q kc ks pc la (.inr (.inr (some (5, o))) :: st) (P, g, r0, n) := by
  rcases h6 with h6 | h6 | h6 | h6 | h6 | h6
  · refine aj_callU (x := yX0_weighs) (y := yX0_weighs) (owner := "AntsTurn$Ant") (av := []) (st := st) (f := 5) (o := o) (ci := 0) cal_X0_weighs hl (ax_T3 (i := 152) (by decide +kernel) rfl) ins_X0_weighs ins_X0_weighs rfl (ax_T3 (i := 151) (by decide +kernel) rfl) cal_X0_weighs.1 ⟨by decide, by decide, cal_X0_weighs.2.2.2.1⟩ rfl (fun c9 _ h9 => by have z9 := h9.trans h6; omega) (cp_X0_weighs 0 _ rfl o _ _ _ _ h6 h4 hg) ⟨by have := hR.1; omega, by have := hR.2.1; omega, hR.2.2.1, hR.2.2.2⟩ hz h (fun r M' hq => ?_)
    obtain ⟨rfl, rfl⟩ := hq
    have ek : kOf (n 5 o) = 0 := by rw [h6]; rfl
    rw [ek] at kk
    exact kk
  · refine aj_callU (x := yX0_weighs) (y := yX7_weighs) (owner := "AntsTurn$Ant") (av := []) (st := st) (f := 5) (o := o) (ci := 7) cal_X7_weighs hl (ax_T3 (i := 152) (by decide +kernel) rfl) ins_X0_weighs ins_X7_weighs rfl (ax_T3 (i := 165) (by decide +kernel) rfl) cal_X0_weighs.1 ⟨by decide, by decide, cal_X0_weighs.2.2.2.1⟩ rfl (fun c9 _ h9 => by have z9 := h9.trans h6; omega) (cp_X7_weighs 7 _ rfl o _ _ _ _ h6 h4 hg) ⟨by have := hR.1; omega, by have := hR.2.1; omega, hR.2.2.1, hR.2.2.2⟩ hz h (fun r M' hq => ?_)
    obtain ⟨rfl, rfl⟩ := hq
    have ek : kOf (n 5 o) = 1 := by rw [h6]; rfl
    rw [ek] at kk
    exact kk
  · refine aj_callU (x := yX0_weighs) (y := yX6_weighs) (owner := "AntsTurn$Ant") (av := []) (st := st) (f := 5) (o := o) (ci := 6) cal_X6_weighs hl (ax_T3 (i := 152) (by decide +kernel) rfl) ins_X0_weighs ins_X6_weighs rfl (ax_T3 (i := 164) (by decide +kernel) rfl) cal_X0_weighs.1 ⟨by decide, by decide, cal_X0_weighs.2.2.2.1⟩ rfl (fun c9 _ h9 => by have z9 := h9.trans h6; omega) (cp_X6_weighs 6 _ rfl o _ _ _ _ h6 h4 hg) ⟨by have := hR.1; omega, by have := hR.2.1; omega, hR.2.2.1, hR.2.2.2⟩ hz h (fun r M' hq => ?_)
    obtain ⟨rfl, rfl⟩ := hq
    have ek : kOf (n 5 o) = 2 := by rw [h6]; rfl
    rw [ek] at kk
    exact kk
  · refine aj_callU (x := yX0_weighs) (y := yX9_weighs) (owner := "AntsTurn$Ant") (av := []) (st := st) (f := 5) (o := o) (ci := 9) cal_X9_weighs hl (ax_T3 (i := 152) (by decide +kernel) rfl) ins_X0_weighs ins_X9_weighs rfl (ax_T3 (i := 169) (by decide +kernel) rfl) cal_X0_weighs.1 ⟨by decide, by decide, cal_X0_weighs.2.2.2.1⟩ rfl (fun c9 _ h9 => by have z9 := h9.trans h6; omega) (cp_X9_weighs 9 _ rfl o _ _ _ _ h6 h4 hg) ⟨by have := hR.1; omega, by have := hR.2.1; omega, hR.2.2.1, hR.2.2.2⟩ hz h (fun r M' hq => ?_)
    obtain ⟨rfl, rfl⟩ := hq
    have ek : kOf (n 5 o) = 3 := by rw [h6]; rfl
    rw [ek] at kk
    exact kk
  · refine aj_callU (x := yX0_weighs) (y := yX3_weighs) (owner := "AntsTurn$Ant") (av := []) (st := st) (f := 5) (o := o) (ci := 3) cal_X3_weighs hl (ax_T3 (i := 152) (by decide +kernel) rfl) ins_X0_weighs ins_X3_weighs rfl (ax_T3 (i := 160) (by decide +kernel) rfl) cal_X0_weighs.1 ⟨by decide, by decide, cal_X0_weighs.2.2.2.1⟩ rfl (fun c9 _ h9 => by have z9 := h9.trans h6; omega) (cp_X3_weighs 3 _ rfl o _ _ _ _ h6 h4 hg) ⟨by have := hR.1; omega, by have := hR.2.1; omega, hR.2.2.1, hR.2.2.2⟩ hz h (fun r M' hq => ?_)
    obtain ⟨rfl, rfl⟩ := hq
    have ek : kOf (n 5 o) = 4 := by rw [h6]; rfl
    rw [ek] at kk
    exact kk
  · refine aj_callU (x := yX0_weighs) (y := yX1_weighs) (owner := "AntsTurn$Ant") (av := []) (st := st) (f := 5) (o := o) (ci := 1) cal_X1_weighs hl (ax_T3 (i := 152) (by decide +kernel) rfl) ins_X0_weighs ins_X1_weighs rfl (ax_T3 (i := 153) (by decide +kernel) rfl) cal_X0_weighs.1 ⟨by decide, by decide, cal_X0_weighs.2.2.2.1⟩ rfl (fun c9 _ h9 => by have z9 := h9.trans h6; omega) (cp_X1_weighs 1 _ rfl o _ _ _ _ h6 h4 hg) ⟨by have := hR.1; omega, by have := hR.2.1; omega, hR.2.2.1, hR.2.2.2⟩ hz h (fun r M' hq => ?_)
    obtain ⟨rfl, rfl⟩ := hq
    have ek : kOf (n 5 o) = 5 := by rw [h6]; rfl
    rw [ek] at kk
    exact kk

theorem aj_d_kind {idx : Nat} {o : Int} (hl : Cond.methodLink (ax_nm own) idx yX0_kind ∈ ax_GT) (h6 : k6 (n 5 o)) (h4 : n 500 o = 4) (hR : ax_hav R 8 0 0 kc ks) (hz : ax_sz st ≤ 8) (h : decode cc pc = .ok (.invokevirtual idx, 3)) (kk : ax_J own cc nL scr R p0 Q (kc + 0) (ks + 0) (pc + 3) la (.inl (kOf (n 5 o)) :: st) (P, g, r0, n)) : ax_J own cc nL scr R p0 Q kc ks pc la (.inr (.inr (some (5, o))) :: st) (P, g, r0, n) := by
  rcases h6 with h6 | h6 | h6 | h6 | h6 | h6
  · refine aj_callU (x := yX0_kind) (y := yX0_kind) (owner := "AntsTurn$Ant") (av := []) (st := st) (f := 5) (o := o) (ci := 0) cal_X0_kind hl (ax_T3 (i := 132) (by decide +kernel) rfl) ins_X0_kind ins_X0_kind rfl (ax_T3 (i := 131) (by decide +kernel) rfl) cal_X0_kind.1 ⟨by decide, by decide, cal_X0_kind.2.2.2.1⟩ rfl (fun c9 _ h9 => by have z9 := h9.trans h6; omega) (cp_X0_kind 0 _ rfl o _ _ _ _ h6 h4) ⟨by have := hR.1; omega, by have := hR.2.1; omega, hR.2.2.1, hR.2.2.2⟩ hz h (fun r M' hq => ?_)
    obtain ⟨rfl, rfl⟩ := hq
    have ek : kOf (n 5 o) = 0 := by rw [h6]; rfl
    rw [ek] at kk
    exact kk
  · refine aj_callU (x := yX0_kind) (y := yX7_kind) (owner := "AntsTurn$Ant") (av := []) (st := st) (f := 5) (o := o) (ci := 7) cal_X7_kind hl (ax_T3 (i := 132) (by decide +kernel) rfl) ins_X0_kind ins_X7_kind rfl (ax_T3 (i := 142) (by decide +kernel) rfl) cal_X0_kind.1 ⟨by decide, by decide, cal_X0_kind.2.2.2.1⟩ rfl (fun c9 _ h9 => by have z9 := h9.trans h6; omega) (cp_X7_kind 7 _ rfl o _ _ _ _ h6 h4) ⟨by have := hR.1; omega, by have := hR.2.1; omega, hR.2.2.1, hR.2.2.2⟩ hz h (fun r M' hq => ?_)
    obtain ⟨rfl, rfl⟩ := hq
    have ek : kOf (n 5 o) = 1 := by rw [h6]; rfl
    rw [ek] at kk
    exact kk
  · refine aj_callU (x := yX0_kind) (y := yX6_kind) (owner := "AntsTurn$Ant") (av := []) (st := st) (f := 5) (o := o) (ci := 6) cal_X6_kind hl (ax_T3 (i := 132) (by decide +kernel) rfl) ins_X0_kind ins_X6_kind rfl (ax_T3 (i := 139) (by decide +kernel) rfl) cal_X0_kind.1 ⟨by decide, by decide, cal_X0_kind.2.2.2.1⟩ rfl (fun c9 _ h9 => by have z9 := h9.trans h6; omega) (cp_X6_kind 6 _ rfl o _ _ _ _ h6 h4) ⟨by have := hR.1; omega, by have := hR.2.1; omega, hR.2.2.1, hR.2.2.2⟩ hz h (fun r M' hq => ?_)
    obtain ⟨rfl, rfl⟩ := hq
    have ek : kOf (n 5 o) = 2 := by rw [h6]; rfl
    rw [ek] at kk
    exact kk
  · refine aj_callU (x := yX0_kind) (y := yX9_kind) (owner := "AntsTurn$Ant") (av := []) (st := st) (f := 5) (o := o) (ci := 9) cal_X9_kind hl (ax_T3 (i := 132) (by decide +kernel) rfl) ins_X0_kind ins_X9_kind rfl (ax_T3 (i := 145) (by decide +kernel) rfl) cal_X0_kind.1 ⟨by decide, by decide, cal_X0_kind.2.2.2.1⟩ rfl (fun c9 _ h9 => by have z9 := h9.trans h6; omega) (cp_X9_kind 9 _ rfl o _ _ _ _ h6 h4) ⟨by have := hR.1; omega, by have := hR.2.1; omega, hR.2.2.1, hR.2.2.2⟩ hz h (fun r M' hq => ?_)
    obtain ⟨rfl, rfl⟩ := hq
    have ek : kOf (n 5 o) = 3 := by rw [h6]; rfl
    rw [ek] at kk
    exact kk
  · refine aj_callU (x := yX0_kind) (y := yX3_kind) (owner := "AntsTurn$Ant") (av := []) (st := st) (f := 5) (o := o) (ci := 3) cal_X3_kind hl (ax_T3 (i := 132) (by decide +kernel) rfl) ins_X0_kind ins_X3_kind rfl (ax_T3 (i := 136) (by decide +kernel) rfl) cal_X0_kind.1 ⟨by decide, by decide, cal_X0_kind.2.2.2.1⟩ rfl (fun c9 _ h9 => by have z9 := h9.trans h6; omega) (cp_X3_kind 3 _ rfl o _ _ _ _ h6 h4) ⟨by have := hR.1; omega, by have := hR.2.1; omega, hR.2.2.1, hR.2.2.2⟩ hz h (fun r M' hq => ?_)
    obtain ⟨rfl, rfl⟩ := hq
    have ek : kOf (n 5 o) = 4 := by rw [h6]; rfl
    rw [ek] at kk
    exact kk
  · refine aj_callU (x := yX0_kind) (y := yX1_kind) (owner := "AntsTurn$Ant") (av := []) (st := st) (f := 5) (o := o) (ci := 1) cal_X1_kind hl (ax_T3 (i := 132) (by decide +kernel) rfl) ins_X0_kind ins_X1_kind rfl (ax_T3 (i := 133) (by decide +kernel) rfl) cal_X0_kind.1 ⟨by decide, by decide, cal_X0_kind.2.2.2.1⟩ rfl (fun c9 _ h9 => by have z9 := h9.trans h6; omega) (cp_X1_kind 1 _ rfl o _ _ _ _ h6 h4) ⟨by have := hR.1; omega, by have := hR.2.1; omega, hR.2.2.1, hR.2.2.2⟩ hz h (fun r M' hq => ?_)
    obtain ⟨rfl, rfl⟩ := hq
    have ek : kOf (n 5 o) = 5 := by rw [h6]; rfl
    rw [ek] at kk
    exact kk

theorem aj_d_begin {idx : Nat} {o fa : Int} (hl : Cond.methodLink (ax_nm own) idx yX0_begin ∈ ax_GT) (h6 : k6 (n 5 o)) (hR : ax_hav R 8 0 0 kc ks) (hz : ax_sz st ≤ 8) (h : decode cc pc = .ok (.invokevirtual idx, 3)) (kk : ax_J own cc nL scr R p0 Q (kc + 0) (ks + 0) (pc + 3) la st (P, cBegA g o fa, r0, n)) : ax_J own cc nL scr R p0 Q kc ks pc la (.inl fa :: .inr (.inr (some (5, o))) :: st) (P, g, r0, n) := by
  rcases h6 with h6 | h6 | h6 | h6 | h6 | h6
  · refine aj_callU (x := yX0_begin) (y := yX0_begin) (owner := "AntsTurn$Ant") (av := [.inl fa]) (st := st) (f := 5) (o := o) (ci := 0) cal_X0_begin hl (ax_T3 (i := 210) (by decide +kernel) rfl) ins_X0_begin ins_X0_begin rfl (ax_T3 (i := 209) (by decide +kernel) rfl) cal_X0_begin.1 ⟨by decide, by decide, cal_X0_begin.2.2.2.1⟩ rfl (fun c9 _ h9 => by have z9 := h9.trans h6; omega) (cp_X0_begin o fa _ _ _ _) ⟨by have := hR.1; omega, by have := hR.2.1; omega, hR.2.2.1, hR.2.2.2⟩ hz h (fun r M' hq => ?_)
    obtain ⟨rfl, rfl⟩ := hq
    exact kk
  · refine aj_callU (x := yX0_begin) (y := yX0_begin) (owner := "AntsTurn$Ant") (av := [.inl fa]) (st := st) (f := 5) (o := o) (ci := 7) cal_X0_begin hl (ax_T3 (i := 210) (by decide +kernel) rfl) ins_X0_begin ins_X0_begin rfl (ax_T3 (i := 214) (by decide +kernel) rfl) cal_X0_begin.1 ⟨by decide, by decide, cal_X0_begin.2.2.2.1⟩ rfl (fun c9 _ h9 => by have z9 := h9.trans h6; omega) (cp_X0_begin o fa _ _ _ _) ⟨by have := hR.1; omega, by have := hR.2.1; omega, hR.2.2.1, hR.2.2.2⟩ hz h (fun r M' hq => ?_)
    obtain ⟨rfl, rfl⟩ := hq
    exact kk
  · refine aj_callU (x := yX0_begin) (y := yX0_begin) (owner := "AntsTurn$Ant") (av := [.inl fa]) (st := st) (f := 5) (o := o) (ci := 6) cal_X0_begin hl (ax_T3 (i := 210) (by decide +kernel) rfl) ins_X0_begin ins_X0_begin rfl (ax_T3 (i := 213) (by decide +kernel) rfl) cal_X0_begin.1 ⟨by decide, by decide, cal_X0_begin.2.2.2.1⟩ rfl (fun c9 _ h9 => by have z9 := h9.trans h6; omega) (cp_X0_begin o fa _ _ _ _) ⟨by have := hR.1; omega, by have := hR.2.1; omega, hR.2.2.1, hR.2.2.2⟩ hz h (fun r M' hq => ?_)
    obtain ⟨rfl, rfl⟩ := hq
    exact kk
  · refine aj_callU (x := yX0_begin) (y := yX0_begin) (owner := "AntsTurn$Ant") (av := [.inl fa]) (st := st) (f := 5) (o := o) (ci := 9) cal_X0_begin hl (ax_T3 (i := 210) (by decide +kernel) rfl) ins_X0_begin ins_X0_begin rfl (ax_T3 (i := 215) (by decide +kernel) rfl) cal_X0_begin.1 ⟨by decide, by decide, cal_X0_begin.2.2.2.1⟩ rfl (fun c9 _ h9 => by have z9 := h9.trans h6; omega) (cp_X0_begin o fa _ _ _ _) ⟨by have := hR.1; omega, by have := hR.2.1; omega, hR.2.2.1, hR.2.2.2⟩ hz h (fun r M' hq => ?_)
    obtain ⟨rfl, rfl⟩ := hq
    exact kk
  · refine aj_callU (x := yX0_begin) (y := yX0_begin) (owner := "AntsTurn$Ant") (av := [.inl fa]) (st := st) (f := 5) (o := o) (ci := 3) cal_X0_begin hl (ax_T3 (i := 210) (by decide +kernel) rfl) ins_X0_begin ins_X0_begin rfl (ax_T3 (i := 212) (by decide +kernel) rfl) cal_X0_begin.1 ⟨by decide, by decide, cal_X0_begin.2.2.2.1⟩ rfl (fun c9 _ h9 => by have z9 := h9.trans h6; omega) (cp_X0_begin o fa _ _ _ _) ⟨by have := hR.1; omega, by have := hR.2.1; omega, hR.2.2.1, hR.2.2.2⟩ hz h (fun r M' hq => ?_)
    obtain ⟨rfl, rfl⟩ := hq
    exact kk
  · refine aj_callU (x := yX0_begin) (y := yX0_begin) (owner := "AntsTurn$Ant") (av := [.inl fa]) (st := st) (f := 5) (o := o) (ci := 1) cal_X0_begin hl (ax_T3 (i := 210) (by decide +kernel) rfl) ins_X0_begin ins_X0_begin rfl (ax_T3 (i := 211) (by decide +kernel) rfl) cal_X0_begin.1 ⟨by decide, by decide, cal_X0_begin.2.2.2.1⟩ rfl (fun c9 _ h9 => by have z9 := h9.trans h6; omega) (cp_X0_begin o fa _ _ _ _) ⟨by have := hR.1; omega, by have := hR.2.1; omega, hR.2.2.1, hR.2.2.2⟩ hz h (fun r M' hq => ?_)
    obtain ⟨rfl, rfl⟩ := hq
    exact kk

theorem aj_d_turnRound {idx : Nat} {o : Int} (hl : Cond.methodLink (ax_nm own) idx yX0_turnRound ∈ ax_GT) (h6 : k6 (n 5 o)) (hf : g 5 o 4 = 0 ∨ g 5 o 4 = 1) (hR : ax_hav R 8 0 0 kc ks) (hz : ax_sz st ≤ 8) (h : decode cc pc = .ok (.invokevirtual idx, 3)) (kk : ax_J own cc nL scr R p0 Q (kc + 0) (ks + 0) (pc + 3) la st (P, ax_u3 (ax_u3 g 5 o 4 (1 - g 5 o 4)) 5 o 6 (Int.bmod (g 5 o 6 + 1) 4294967296), r0, n)) : ax_J own cc nL scr R p0 Q kc ks pc la (.inr (.inr (some (5, o))) :: st) (P, g, r0, n) := by
  rcases h6 with h6 | h6 | h6 | h6 | h6 | h6
  · refine aj_callU (x := yX0_turnRound) (y := yX0_turnRound) (owner := "AntsTurn$Ant") (av := []) (st := st) (f := 5) (o := o) (ci := 0) cal_X0_turnRound hl (ax_T4 (i := 49) (by decide +kernel) rfl) ins_X0_turnRound ins_X0_turnRound rfl (ax_T4 (i := 48) (by decide +kernel) rfl) cal_X0_turnRound.1 ⟨by decide, by decide, cal_X0_turnRound.2.2.2.1⟩ rfl (fun c9 _ h9 => by have z9 := h9.trans h6; omega) (cp_X0_turnRound o _ _ _ _ hf) ⟨by have := hR.1; omega, by have := hR.2.1; omega, hR.2.2.1, hR.2.2.2⟩ hz h (fun r M' hq => ?_)
    obtain ⟨rfl, rfl⟩ := hq
    exact kk
  · refine aj_callU (x := yX0_turnRound) (y := yX0_turnRound) (owner := "AntsTurn$Ant") (av := []) (st := st) (f := 5) (o := o) (ci := 7) cal_X0_turnRound hl (ax_T4 (i := 49) (by decide +kernel) rfl) ins_X0_turnRound ins_X0_turnRound rfl (ax_T4 (i := 53) (by decide +kernel) rfl) cal_X0_turnRound.1 ⟨by decide, by decide, cal_X0_turnRound.2.2.2.1⟩ rfl (fun c9 _ h9 => by have z9 := h9.trans h6; omega) (cp_X0_turnRound o _ _ _ _ hf) ⟨by have := hR.1; omega, by have := hR.2.1; omega, hR.2.2.1, hR.2.2.2⟩ hz h (fun r M' hq => ?_)
    obtain ⟨rfl, rfl⟩ := hq
    exact kk
  · refine aj_callU (x := yX0_turnRound) (y := yX0_turnRound) (owner := "AntsTurn$Ant") (av := []) (st := st) (f := 5) (o := o) (ci := 6) cal_X0_turnRound hl (ax_T4 (i := 49) (by decide +kernel) rfl) ins_X0_turnRound ins_X0_turnRound rfl (ax_T4 (i := 52) (by decide +kernel) rfl) cal_X0_turnRound.1 ⟨by decide, by decide, cal_X0_turnRound.2.2.2.1⟩ rfl (fun c9 _ h9 => by have z9 := h9.trans h6; omega) (cp_X0_turnRound o _ _ _ _ hf) ⟨by have := hR.1; omega, by have := hR.2.1; omega, hR.2.2.1, hR.2.2.2⟩ hz h (fun r M' hq => ?_)
    obtain ⟨rfl, rfl⟩ := hq
    exact kk
  · refine aj_callU (x := yX0_turnRound) (y := yX0_turnRound) (owner := "AntsTurn$Ant") (av := []) (st := st) (f := 5) (o := o) (ci := 9) cal_X0_turnRound hl (ax_T4 (i := 49) (by decide +kernel) rfl) ins_X0_turnRound ins_X0_turnRound rfl (ax_T4 (i := 54) (by decide +kernel) rfl) cal_X0_turnRound.1 ⟨by decide, by decide, cal_X0_turnRound.2.2.2.1⟩ rfl (fun c9 _ h9 => by have z9 := h9.trans h6; omega) (cp_X0_turnRound o _ _ _ _ hf) ⟨by have := hR.1; omega, by have := hR.2.1; omega, hR.2.2.1, hR.2.2.2⟩ hz h (fun r M' hq => ?_)
    obtain ⟨rfl, rfl⟩ := hq
    exact kk
  · refine aj_callU (x := yX0_turnRound) (y := yX0_turnRound) (owner := "AntsTurn$Ant") (av := []) (st := st) (f := 5) (o := o) (ci := 3) cal_X0_turnRound hl (ax_T4 (i := 49) (by decide +kernel) rfl) ins_X0_turnRound ins_X0_turnRound rfl (ax_T4 (i := 51) (by decide +kernel) rfl) cal_X0_turnRound.1 ⟨by decide, by decide, cal_X0_turnRound.2.2.2.1⟩ rfl (fun c9 _ h9 => by have z9 := h9.trans h6; omega) (cp_X0_turnRound o _ _ _ _ hf) ⟨by have := hR.1; omega, by have := hR.2.1; omega, hR.2.2.1, hR.2.2.2⟩ hz h (fun r M' hq => ?_)
    obtain ⟨rfl, rfl⟩ := hq
    exact kk
  · refine aj_callU (x := yX0_turnRound) (y := yX0_turnRound) (owner := "AntsTurn$Ant") (av := []) (st := st) (f := 5) (o := o) (ci := 1) cal_X0_turnRound hl (ax_T4 (i := 49) (by decide +kernel) rfl) ins_X0_turnRound ins_X0_turnRound rfl (ax_T4 (i := 50) (by decide +kernel) rfl) cal_X0_turnRound.1 ⟨by decide, by decide, cal_X0_turnRound.2.2.2.1⟩ rfl (fun c9 _ h9 => by have z9 := h9.trans h6; omega) (cp_X0_turnRound o _ _ _ _ hf) ⟨by have := hR.1; omega, by have := hR.2.1; omega, hR.2.2.1, hR.2.2.2⟩ hz h (fun r M' hq => ?_)
    obtain ⟨rfl, rfl⟩ := hq
    exact kk

theorem aj_d_leave {idx : Nat} {o b : Int} (hl : Cond.methodLink (ax_nm own) idx yX0_leave ∈ ax_GT) (h6 : k6 (n 5 o)) (hf : g 5 o 4 = 0 ∨ g 5 o 4 = 1) (hR : ax_hav R 8 0 0 kc ks) (hz : ax_sz st ≤ 8) (h : decode cc pc = .ok (.invokevirtual idx, 3)) (kk : ax_J own cc nL scr R p0 Q (kc + 0) (ks + 0) (pc + 3) la st (P, ax_u3 (ax_u3 (ax_u3 g 5 o 2 0) 5 o 9 b) 5 o 10 (1 - g 5 o 4), r0, n)) : ax_J own cc nL scr R p0 Q kc ks pc la (.inl b :: .inr (.inr (some (5, o))) :: st) (P, g, r0, n) := by
  rcases h6 with h6 | h6 | h6 | h6 | h6 | h6
  · refine aj_callU (x := yX0_leave) (y := yX0_leave) (owner := "AntsTurn$Ant") (av := [.inl b]) (st := st) (f := 5) (o := o) (ci := 0) cal_X0_leave hl (ax_T4 (i := 81) (by decide +kernel) rfl) ins_X0_leave ins_X0_leave rfl (ax_T4 (i := 80) (by decide +kernel) rfl) cal_X0_leave.1 ⟨by decide, by decide, cal_X0_leave.2.2.2.1⟩ rfl (fun c9 _ h9 => by have z9 := h9.trans h6; omega) (cp_X0_leave o b _ _ _ _ hf) ⟨by have := hR.1; omega, by have := hR.2.1; omega, hR.2.2.1, hR.2.2.2⟩ hz h (fun r M' hq => ?_)
    obtain ⟨rfl, rfl⟩ := hq
    exact kk
  · refine aj_callU (x := yX0_leave) (y := yX0_leave) (owner := "AntsTurn$Ant") (av := [.inl b]) (st := st) (f := 5) (o := o) (ci := 7) cal_X0_leave hl (ax_T4 (i := 81) (by decide +kernel) rfl) ins_X0_leave ins_X0_leave rfl (ax_T4 (i := 85) (by decide +kernel) rfl) cal_X0_leave.1 ⟨by decide, by decide, cal_X0_leave.2.2.2.1⟩ rfl (fun c9 _ h9 => by have z9 := h9.trans h6; omega) (cp_X0_leave o b _ _ _ _ hf) ⟨by have := hR.1; omega, by have := hR.2.1; omega, hR.2.2.1, hR.2.2.2⟩ hz h (fun r M' hq => ?_)
    obtain ⟨rfl, rfl⟩ := hq
    exact kk
  · refine aj_callU (x := yX0_leave) (y := yX0_leave) (owner := "AntsTurn$Ant") (av := [.inl b]) (st := st) (f := 5) (o := o) (ci := 6) cal_X0_leave hl (ax_T4 (i := 81) (by decide +kernel) rfl) ins_X0_leave ins_X0_leave rfl (ax_T4 (i := 84) (by decide +kernel) rfl) cal_X0_leave.1 ⟨by decide, by decide, cal_X0_leave.2.2.2.1⟩ rfl (fun c9 _ h9 => by have z9 := h9.trans h6; omega) (cp_X0_leave o b _ _ _ _ hf) ⟨by have := hR.1; omega, by have := hR.2.1; omega, hR.2.2.1, hR.2.2.2⟩ hz h (fun r M' hq => ?_)
    obtain ⟨rfl, rfl⟩ := hq
    exact kk
  · refine aj_callU (x := yX0_leave) (y := yX0_leave) (owner := "AntsTurn$Ant") (av := [.inl b]) (st := st) (f := 5) (o := o) (ci := 9) cal_X0_leave hl (ax_T4 (i := 81) (by decide +kernel) rfl) ins_X0_leave ins_X0_leave rfl (ax_T4 (i := 86) (by decide +kernel) rfl) cal_X0_leave.1 ⟨by decide, by decide, cal_X0_leave.2.2.2.1⟩ rfl (fun c9 _ h9 => by have z9 := h9.trans h6; omega) (cp_X0_leave o b _ _ _ _ hf) ⟨by have := hR.1; omega, by have := hR.2.1; omega, hR.2.2.1, hR.2.2.2⟩ hz h (fun r M' hq => ?_)
    obtain ⟨rfl, rfl⟩ := hq
    exact kk
  · refine aj_callU (x := yX0_leave) (y := yX0_leave) (owner := "AntsTurn$Ant") (av := [.inl b]) (st := st) (f := 5) (o := o) (ci := 3) cal_X0_leave hl (ax_T4 (i := 81) (by decide +kernel) rfl) ins_X0_leave ins_X0_leave rfl (ax_T4 (i := 83) (by decide +kernel) rfl) cal_X0_leave.1 ⟨by decide, by decide, cal_X0_leave.2.2.2.1⟩ rfl (fun c9 _ h9 => by have z9 := h9.trans h6; omega) (cp_X0_leave o b _ _ _ _ hf) ⟨by have := hR.1; omega, by have := hR.2.1; omega, hR.2.2.1, hR.2.2.2⟩ hz h (fun r M' hq => ?_)
    obtain ⟨rfl, rfl⟩ := hq
    exact kk
  · refine aj_callU (x := yX0_leave) (y := yX0_leave) (owner := "AntsTurn$Ant") (av := [.inl b]) (st := st) (f := 5) (o := o) (ci := 1) cal_X0_leave hl (ax_T4 (i := 81) (by decide +kernel) rfl) ins_X0_leave ins_X0_leave rfl (ax_T4 (i := 82) (by decide +kernel) rfl) cal_X0_leave.1 ⟨by decide, by decide, cal_X0_leave.2.2.2.1⟩ rfl (fun c9 _ h9 => by have z9 := h9.trans h6; omega) (cp_X0_leave o b _ _ _ _ hf) ⟨by have := hR.1; omega, by have := hR.2.1; omega, hR.2.2.1, hR.2.2.2⟩ hz h (fun r M' hq => ?_)
    obtain ⟨rfl, rfl⟩ := hq
    exact kk

theorem aj_d_note {idx : Nat} {o : Int} (hl : Cond.methodLink (ax_nm own) idx yX0_note ∈ ax_GT) (h6 : k6 (n 5 o)) (hR : ax_hav R 8 0 0 kc ks) (hz : ax_sz st ≤ 8) (h : decode cc pc = .ok (.invokevirtual idx, 3)) (kk : ax_J own cc nL scr R p0 Q (kc + 0) (ks + 0) (pc + 3) la st (P, ax_u3 (ax_u3 g 5 o 11 (g 5 o 3)) 5 o 12 (g 5 o 4), r0, n)) : ax_J own cc nL scr R p0 Q kc ks pc la (.inr (.inr (some (5, o))) :: st) (P, g, r0, n) := by
  rcases h6 with h6 | h6 | h6 | h6 | h6 | h6
  · refine aj_callU (x := yX0_note) (y := yX0_note) (owner := "AntsTurn$Ant") (av := []) (st := st) (f := 5) (o := o) (ci := 0) cal_X0_note hl (ax_T4 (i := 195) (by decide +kernel) rfl) ins_X0_note ins_X0_note rfl (ax_T4 (i := 194) (by decide +kernel) rfl) cal_X0_note.1 ⟨by decide, by decide, cal_X0_note.2.2.2.1⟩ rfl (fun c9 _ h9 => by have z9 := h9.trans h6; omega) (cp_X0_note o _ _ _ _) ⟨by have := hR.1; omega, by have := hR.2.1; omega, hR.2.2.1, hR.2.2.2⟩ hz h (fun r M' hq => ?_)
    obtain ⟨rfl, rfl⟩ := hq
    exact kk
  · refine aj_callU (x := yX0_note) (y := yX0_note) (owner := "AntsTurn$Ant") (av := []) (st := st) (f := 5) (o := o) (ci := 7) cal_X0_note hl (ax_T4 (i := 195) (by decide +kernel) rfl) ins_X0_note ins_X0_note rfl (ax_T4 (i := 199) (by decide +kernel) rfl) cal_X0_note.1 ⟨by decide, by decide, cal_X0_note.2.2.2.1⟩ rfl (fun c9 _ h9 => by have z9 := h9.trans h6; omega) (cp_X0_note o _ _ _ _) ⟨by have := hR.1; omega, by have := hR.2.1; omega, hR.2.2.1, hR.2.2.2⟩ hz h (fun r M' hq => ?_)
    obtain ⟨rfl, rfl⟩ := hq
    exact kk
  · refine aj_callU (x := yX0_note) (y := yX0_note) (owner := "AntsTurn$Ant") (av := []) (st := st) (f := 5) (o := o) (ci := 6) cal_X0_note hl (ax_T4 (i := 195) (by decide +kernel) rfl) ins_X0_note ins_X0_note rfl (ax_T4 (i := 198) (by decide +kernel) rfl) cal_X0_note.1 ⟨by decide, by decide, cal_X0_note.2.2.2.1⟩ rfl (fun c9 _ h9 => by have z9 := h9.trans h6; omega) (cp_X0_note o _ _ _ _) ⟨by have := hR.1; omega, by have := hR.2.1; omega, hR.2.2.1, hR.2.2.2⟩ hz h (fun r M' hq => ?_)
    obtain ⟨rfl, rfl⟩ := hq
    exact kk
  · refine aj_callU (x := yX0_note) (y := yX0_note) (owner := "AntsTurn$Ant") (av := []) (st := st) (f := 5) (o := o) (ci := 9) cal_X0_note hl (ax_T4 (i := 195) (by decide +kernel) rfl) ins_X0_note ins_X0_note rfl (ax_T4 (i := 200) (by decide +kernel) rfl) cal_X0_note.1 ⟨by decide, by decide, cal_X0_note.2.2.2.1⟩ rfl (fun c9 _ h9 => by have z9 := h9.trans h6; omega) (cp_X0_note o _ _ _ _) ⟨by have := hR.1; omega, by have := hR.2.1; omega, hR.2.2.1, hR.2.2.2⟩ hz h (fun r M' hq => ?_)
    obtain ⟨rfl, rfl⟩ := hq
    exact kk
  · refine aj_callU (x := yX0_note) (y := yX0_note) (owner := "AntsTurn$Ant") (av := []) (st := st) (f := 5) (o := o) (ci := 3) cal_X0_note hl (ax_T4 (i := 195) (by decide +kernel) rfl) ins_X0_note ins_X0_note rfl (ax_T4 (i := 197) (by decide +kernel) rfl) cal_X0_note.1 ⟨by decide, by decide, cal_X0_note.2.2.2.1⟩ rfl (fun c9 _ h9 => by have z9 := h9.trans h6; omega) (cp_X0_note o _ _ _ _) ⟨by have := hR.1; omega, by have := hR.2.1; omega, hR.2.2.1, hR.2.2.2⟩ hz h (fun r M' hq => ?_)
    obtain ⟨rfl, rfl⟩ := hq
    exact kk
  · refine aj_callU (x := yX0_note) (y := yX0_note) (owner := "AntsTurn$Ant") (av := []) (st := st) (f := 5) (o := o) (ci := 1) cal_X0_note hl (ax_T4 (i := 195) (by decide +kernel) rfl) ins_X0_note ins_X0_note rfl (ax_T4 (i := 196) (by decide +kernel) rfl) cal_X0_note.1 ⟨by decide, by decide, cal_X0_note.2.2.2.1⟩ rfl (fun c9 _ h9 => by have z9 := h9.trans h6; omega) (cp_X0_note o _ _ _ _) ⟨by have := hR.1; omega, by have := hR.2.1; omega, hR.2.2.1, hR.2.2.2⟩ hz h (fun r M' hq => ?_)
    obtain ⟨rfl, rfl⟩ := hq
    exact kk

theorem aj_d_isAsNoted {idx : Nat} {o : Int} (hl : Cond.methodLink (ax_nm own) idx yX0_isAsNoted ∈ ax_GT) (h6 : k6 (n 5 o)) (hR : ax_hav R 8 0 0 kc ks) (hz : ax_sz st ≤ 8) (h : decode cc pc = .ok (.invokevirtual idx, 3)) (kk : ax_J own cc nL scr R p0 Q (kc + 0) (ks + 0) (pc + 3) la (.inl (bI (g 5 o 3 = g 5 o 11 ∧ g 5 o 4 = g 5 o 12)) :: st) (P, g, r0, n)) : ax_J own cc nL scr R p0 Q kc ks pc la (.inr (.inr (some (5, o))) :: st) (P, g, r0, n) := by
  rcases h6 with h6 | h6 | h6 | h6 | h6 | h6
  · refine aj_callU (x := yX0_isAsNoted) (y := yX0_isAsNoted) (owner := "AntsTurn$Ant") (av := []) (st := st) (f := 5) (o := o) (ci := 0) cal_X0_isAsNoted hl (ax_T4 (i := 209) (by decide +kernel) rfl) ins_X0_isAsNoted ins_X0_isAsNoted rfl (ax_T4 (i := 208) (by decide +kernel) rfl) cal_X0_isAsNoted.1 ⟨by decide, by decide, cal_X0_isAsNoted.2.2.2.1⟩ rfl (fun c9 _ h9 => by have z9 := h9.trans h6; omega) (cp_X0_isAsNoted o _ _ _ _) ⟨by have := hR.1; omega, by have := hR.2.1; omega, hR.2.2.1, hR.2.2.2⟩ hz h (fun r M' hq => ?_)
    obtain ⟨rfl, rfl⟩ := hq
    exact kk
  · refine aj_callU (x := yX0_isAsNoted) (y := yX0_isAsNoted) (owner := "AntsTurn$Ant") (av := []) (st := st) (f := 5) (o := o) (ci := 7) cal_X0_isAsNoted hl (ax_T4 (i := 209) (by decide +kernel) rfl) ins_X0_isAsNoted ins_X0_isAsNoted rfl (ax_T4 (i := 213) (by decide +kernel) rfl) cal_X0_isAsNoted.1 ⟨by decide, by decide, cal_X0_isAsNoted.2.2.2.1⟩ rfl (fun c9 _ h9 => by have z9 := h9.trans h6; omega) (cp_X0_isAsNoted o _ _ _ _) ⟨by have := hR.1; omega, by have := hR.2.1; omega, hR.2.2.1, hR.2.2.2⟩ hz h (fun r M' hq => ?_)
    obtain ⟨rfl, rfl⟩ := hq
    exact kk
  · refine aj_callU (x := yX0_isAsNoted) (y := yX0_isAsNoted) (owner := "AntsTurn$Ant") (av := []) (st := st) (f := 5) (o := o) (ci := 6) cal_X0_isAsNoted hl (ax_T4 (i := 209) (by decide +kernel) rfl) ins_X0_isAsNoted ins_X0_isAsNoted rfl (ax_T4 (i := 212) (by decide +kernel) rfl) cal_X0_isAsNoted.1 ⟨by decide, by decide, cal_X0_isAsNoted.2.2.2.1⟩ rfl (fun c9 _ h9 => by have z9 := h9.trans h6; omega) (cp_X0_isAsNoted o _ _ _ _) ⟨by have := hR.1; omega, by have := hR.2.1; omega, hR.2.2.1, hR.2.2.2⟩ hz h (fun r M' hq => ?_)
    obtain ⟨rfl, rfl⟩ := hq
    exact kk
  · refine aj_callU (x := yX0_isAsNoted) (y := yX0_isAsNoted) (owner := "AntsTurn$Ant") (av := []) (st := st) (f := 5) (o := o) (ci := 9) cal_X0_isAsNoted hl (ax_T4 (i := 209) (by decide +kernel) rfl) ins_X0_isAsNoted ins_X0_isAsNoted rfl (ax_T4 (i := 214) (by decide +kernel) rfl) cal_X0_isAsNoted.1 ⟨by decide, by decide, cal_X0_isAsNoted.2.2.2.1⟩ rfl (fun c9 _ h9 => by have z9 := h9.trans h6; omega) (cp_X0_isAsNoted o _ _ _ _) ⟨by have := hR.1; omega, by have := hR.2.1; omega, hR.2.2.1, hR.2.2.2⟩ hz h (fun r M' hq => ?_)
    obtain ⟨rfl, rfl⟩ := hq
    exact kk
  · refine aj_callU (x := yX0_isAsNoted) (y := yX0_isAsNoted) (owner := "AntsTurn$Ant") (av := []) (st := st) (f := 5) (o := o) (ci := 3) cal_X0_isAsNoted hl (ax_T4 (i := 209) (by decide +kernel) rfl) ins_X0_isAsNoted ins_X0_isAsNoted rfl (ax_T4 (i := 211) (by decide +kernel) rfl) cal_X0_isAsNoted.1 ⟨by decide, by decide, cal_X0_isAsNoted.2.2.2.1⟩ rfl (fun c9 _ h9 => by have z9 := h9.trans h6; omega) (cp_X0_isAsNoted o _ _ _ _) ⟨by have := hR.1; omega, by have := hR.2.1; omega, hR.2.2.1, hR.2.2.2⟩ hz h (fun r M' hq => ?_)
    obtain ⟨rfl, rfl⟩ := hq
    exact kk
  · refine aj_callU (x := yX0_isAsNoted) (y := yX0_isAsNoted) (owner := "AntsTurn$Ant") (av := []) (st := st) (f := 5) (o := o) (ci := 1) cal_X0_isAsNoted hl (ax_T4 (i := 209) (by decide +kernel) rfl) ins_X0_isAsNoted ins_X0_isAsNoted rfl (ax_T4 (i := 210) (by decide +kernel) rfl) cal_X0_isAsNoted.1 ⟨by decide, by decide, cal_X0_isAsNoted.2.2.2.1⟩ rfl (fun c9 _ h9 => by have z9 := h9.trans h6; omega) (cp_X0_isAsNoted o _ _ _ _) ⟨by have := hR.1; omega, by have := hR.2.1; omega, hR.2.2.1, hR.2.2.2⟩ hz h (fun r M' hq => ?_)
    obtain ⟨rfl, rfl⟩ := hq
    exact kk

theorem aj_d_keepTraits {idx : Nat} {o : Int} (hl : Cond.methodLink (ax_nm own) idx yX0_keepTraits ∈ ax_GT) (h6 : k6 (n 5 o)) (h4 : n 500 o = 4 ∧ n 501 o = 4) (hR : ax_hav R 8 0 0 kc ks) (hz : ax_sz st ≤ 8) (h : decode cc pc = .ok (.invokevirtual idx, 3)) (kk : ax_J own cc nL scr R p0 Q (kc + 0) (ks + 0) (pc + 3) la st (P, cpG g 500 o 501 o 0 0 4, r0, n)) : ax_J own cc nL scr R p0 Q kc ks pc la (.inr (.inr (some (5, o))) :: st) (P, g, r0, n) := by
  rcases h6 with h6 | h6 | h6 | h6 | h6 | h6
  · refine aj_callU (x := yX0_keepTraits) (y := yX0_keepTraits) (owner := "AntsTurn$Ant") (av := []) (st := st) (f := 5) (o := o) (ci := 0) cal_X0_keepTraits hl (ax_T4 (i := 228) (by decide +kernel) rfl) ins_X0_keepTraits ins_X0_keepTraits rfl (ax_T4 (i := 227) (by decide +kernel) rfl) cal_X0_keepTraits.1 ⟨by decide, by decide, cal_X0_keepTraits.2.2.2.1⟩ rfl (fun c9 _ h9 => by have z9 := h9.trans h6; omega) (cp_X0_keepTraits o _ _ _ _ h4) ⟨by have := hR.1; omega, by have := hR.2.1; omega, hR.2.2.1, hR.2.2.2⟩ hz h (fun r M' hq => ?_)
    obtain ⟨rfl, rfl⟩ := hq
    exact kk
  · refine aj_callU (x := yX0_keepTraits) (y := yX0_keepTraits) (owner := "AntsTurn$Ant") (av := []) (st := st) (f := 5) (o := o) (ci := 7) cal_X0_keepTraits hl (ax_T4 (i := 228) (by decide +kernel) rfl) ins_X0_keepTraits ins_X0_keepTraits rfl (ax_T4 (i := 232) (by decide +kernel) rfl) cal_X0_keepTraits.1 ⟨by decide, by decide, cal_X0_keepTraits.2.2.2.1⟩ rfl (fun c9 _ h9 => by have z9 := h9.trans h6; omega) (cp_X0_keepTraits o _ _ _ _ h4) ⟨by have := hR.1; omega, by have := hR.2.1; omega, hR.2.2.1, hR.2.2.2⟩ hz h (fun r M' hq => ?_)
    obtain ⟨rfl, rfl⟩ := hq
    exact kk
  · refine aj_callU (x := yX0_keepTraits) (y := yX0_keepTraits) (owner := "AntsTurn$Ant") (av := []) (st := st) (f := 5) (o := o) (ci := 6) cal_X0_keepTraits hl (ax_T4 (i := 228) (by decide +kernel) rfl) ins_X0_keepTraits ins_X0_keepTraits rfl (ax_T4 (i := 231) (by decide +kernel) rfl) cal_X0_keepTraits.1 ⟨by decide, by decide, cal_X0_keepTraits.2.2.2.1⟩ rfl (fun c9 _ h9 => by have z9 := h9.trans h6; omega) (cp_X0_keepTraits o _ _ _ _ h4) ⟨by have := hR.1; omega, by have := hR.2.1; omega, hR.2.2.1, hR.2.2.2⟩ hz h (fun r M' hq => ?_)
    obtain ⟨rfl, rfl⟩ := hq
    exact kk
  · refine aj_callU (x := yX0_keepTraits) (y := yX0_keepTraits) (owner := "AntsTurn$Ant") (av := []) (st := st) (f := 5) (o := o) (ci := 9) cal_X0_keepTraits hl (ax_T4 (i := 228) (by decide +kernel) rfl) ins_X0_keepTraits ins_X0_keepTraits rfl (ax_T4 (i := 233) (by decide +kernel) rfl) cal_X0_keepTraits.1 ⟨by decide, by decide, cal_X0_keepTraits.2.2.2.1⟩ rfl (fun c9 _ h9 => by have z9 := h9.trans h6; omega) (cp_X0_keepTraits o _ _ _ _ h4) ⟨by have := hR.1; omega, by have := hR.2.1; omega, hR.2.2.1, hR.2.2.2⟩ hz h (fun r M' hq => ?_)
    obtain ⟨rfl, rfl⟩ := hq
    exact kk
  · refine aj_callU (x := yX0_keepTraits) (y := yX0_keepTraits) (owner := "AntsTurn$Ant") (av := []) (st := st) (f := 5) (o := o) (ci := 3) cal_X0_keepTraits hl (ax_T4 (i := 228) (by decide +kernel) rfl) ins_X0_keepTraits ins_X0_keepTraits rfl (ax_T4 (i := 230) (by decide +kernel) rfl) cal_X0_keepTraits.1 ⟨by decide, by decide, cal_X0_keepTraits.2.2.2.1⟩ rfl (fun c9 _ h9 => by have z9 := h9.trans h6; omega) (cp_X0_keepTraits o _ _ _ _ h4) ⟨by have := hR.1; omega, by have := hR.2.1; omega, hR.2.2.1, hR.2.2.2⟩ hz h (fun r M' hq => ?_)
    obtain ⟨rfl, rfl⟩ := hq
    exact kk
  · refine aj_callU (x := yX0_keepTraits) (y := yX0_keepTraits) (owner := "AntsTurn$Ant") (av := []) (st := st) (f := 5) (o := o) (ci := 1) cal_X0_keepTraits hl (ax_T4 (i := 228) (by decide +kernel) rfl) ins_X0_keepTraits ins_X0_keepTraits rfl (ax_T4 (i := 229) (by decide +kernel) rfl) cal_X0_keepTraits.1 ⟨by decide, by decide, cal_X0_keepTraits.2.2.2.1⟩ rfl (fun c9 _ h9 => by have z9 := h9.trans h6; omega) (cp_X0_keepTraits o _ _ _ _ h4) ⟨by have := hR.1; omega, by have := hR.2.1; omega, hR.2.2.1, hR.2.2.2⟩ hz h (fun r M' hq => ?_)
    obtain ⟨rfl, rfl⟩ := hq
    exact kk

theorem aj_d_layTraitsBack {idx : Nat} {o : Int} (hl : Cond.methodLink (ax_nm own) idx yX0_layTraitsBack ∈ ax_GT) (h6 : k6 (n 5 o)) (h4 : n 500 o = 4 ∧ n 501 o = 4) (hR : ax_hav R 8 0 0 kc ks) (hz : ax_sz st ≤ 8) (h : decode cc pc = .ok (.invokevirtual idx, 3)) (kk : ax_J own cc nL scr R p0 Q (kc + 0) (ks + 0) (pc + 3) la st (P, cpG g 501 o 500 o 0 0 4, r0, n)) : ax_J own cc nL scr R p0 Q kc ks pc la (.inr (.inr (some (5, o))) :: st) (P, g, r0, n) := by
  rcases h6 with h6 | h6 | h6 | h6 | h6 | h6
  · refine aj_callU (x := yX0_layTraitsBack) (y := yX0_layTraitsBack) (owner := "AntsTurn$Ant") (av := []) (st := st) (f := 5) (o := o) (ci := 0) cal_X0_layTraitsBack hl (ax_T5 (i := 3) (by decide +kernel) rfl) ins_X0_layTraitsBack ins_X0_layTraitsBack rfl (ax_T5 (i := 2) (by decide +kernel) rfl) cal_X0_layTraitsBack.1 ⟨by decide, by decide, cal_X0_layTraitsBack.2.2.2.1⟩ rfl (fun c9 _ h9 => by have z9 := h9.trans h6; omega) (cp_X0_layTraitsBack o _ _ _ _ h4) ⟨by have := hR.1; omega, by have := hR.2.1; omega, hR.2.2.1, hR.2.2.2⟩ hz h (fun r M' hq => ?_)
    obtain ⟨rfl, rfl⟩ := hq
    exact kk
  · refine aj_callU (x := yX0_layTraitsBack) (y := yX0_layTraitsBack) (owner := "AntsTurn$Ant") (av := []) (st := st) (f := 5) (o := o) (ci := 7) cal_X0_layTraitsBack hl (ax_T5 (i := 3) (by decide +kernel) rfl) ins_X0_layTraitsBack ins_X0_layTraitsBack rfl (ax_T5 (i := 7) (by decide +kernel) rfl) cal_X0_layTraitsBack.1 ⟨by decide, by decide, cal_X0_layTraitsBack.2.2.2.1⟩ rfl (fun c9 _ h9 => by have z9 := h9.trans h6; omega) (cp_X0_layTraitsBack o _ _ _ _ h4) ⟨by have := hR.1; omega, by have := hR.2.1; omega, hR.2.2.1, hR.2.2.2⟩ hz h (fun r M' hq => ?_)
    obtain ⟨rfl, rfl⟩ := hq
    exact kk
  · refine aj_callU (x := yX0_layTraitsBack) (y := yX0_layTraitsBack) (owner := "AntsTurn$Ant") (av := []) (st := st) (f := 5) (o := o) (ci := 6) cal_X0_layTraitsBack hl (ax_T5 (i := 3) (by decide +kernel) rfl) ins_X0_layTraitsBack ins_X0_layTraitsBack rfl (ax_T5 (i := 6) (by decide +kernel) rfl) cal_X0_layTraitsBack.1 ⟨by decide, by decide, cal_X0_layTraitsBack.2.2.2.1⟩ rfl (fun c9 _ h9 => by have z9 := h9.trans h6; omega) (cp_X0_layTraitsBack o _ _ _ _ h4) ⟨by have := hR.1; omega, by have := hR.2.1; omega, hR.2.2.1, hR.2.2.2⟩ hz h (fun r M' hq => ?_)
    obtain ⟨rfl, rfl⟩ := hq
    exact kk
  · refine aj_callU (x := yX0_layTraitsBack) (y := yX0_layTraitsBack) (owner := "AntsTurn$Ant") (av := []) (st := st) (f := 5) (o := o) (ci := 9) cal_X0_layTraitsBack hl (ax_T5 (i := 3) (by decide +kernel) rfl) ins_X0_layTraitsBack ins_X0_layTraitsBack rfl (ax_T5 (i := 8) (by decide +kernel) rfl) cal_X0_layTraitsBack.1 ⟨by decide, by decide, cal_X0_layTraitsBack.2.2.2.1⟩ rfl (fun c9 _ h9 => by have z9 := h9.trans h6; omega) (cp_X0_layTraitsBack o _ _ _ _ h4) ⟨by have := hR.1; omega, by have := hR.2.1; omega, hR.2.2.1, hR.2.2.2⟩ hz h (fun r M' hq => ?_)
    obtain ⟨rfl, rfl⟩ := hq
    exact kk
  · refine aj_callU (x := yX0_layTraitsBack) (y := yX0_layTraitsBack) (owner := "AntsTurn$Ant") (av := []) (st := st) (f := 5) (o := o) (ci := 3) cal_X0_layTraitsBack hl (ax_T5 (i := 3) (by decide +kernel) rfl) ins_X0_layTraitsBack ins_X0_layTraitsBack rfl (ax_T5 (i := 5) (by decide +kernel) rfl) cal_X0_layTraitsBack.1 ⟨by decide, by decide, cal_X0_layTraitsBack.2.2.2.1⟩ rfl (fun c9 _ h9 => by have z9 := h9.trans h6; omega) (cp_X0_layTraitsBack o _ _ _ _ h4) ⟨by have := hR.1; omega, by have := hR.2.1; omega, hR.2.2.1, hR.2.2.2⟩ hz h (fun r M' hq => ?_)
    obtain ⟨rfl, rfl⟩ := hq
    exact kk
  · refine aj_callU (x := yX0_layTraitsBack) (y := yX0_layTraitsBack) (owner := "AntsTurn$Ant") (av := []) (st := st) (f := 5) (o := o) (ci := 1) cal_X0_layTraitsBack hl (ax_T5 (i := 3) (by decide +kernel) rfl) ins_X0_layTraitsBack ins_X0_layTraitsBack rfl (ax_T5 (i := 4) (by decide +kernel) rfl) cal_X0_layTraitsBack.1 ⟨by decide, by decide, cal_X0_layTraitsBack.2.2.2.1⟩ rfl (fun c9 _ h9 => by have z9 := h9.trans h6; omega) (cp_X0_layTraitsBack o _ _ _ _ h4) ⟨by have := hR.1; omega, by have := hR.2.1; omega, hR.2.2.1, hR.2.2.2⟩ hz h (fun r M' hq => ?_)
    obtain ⟨rfl, rfl⟩ := hq
    exact kk

end AD
