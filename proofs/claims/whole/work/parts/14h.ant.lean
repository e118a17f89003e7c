/-! ===== an ant is set down ===== -/
def cFa (P : Nat → Int → Prop) (m : Int) : Prop := ∀ a, ¬ (0 ≤ a ∧ a < m) → ¬ P 5 a ∧ ¬ P 500 a ∧ ¬ P 501 a
def cWe (P : Nat → Int → Prop) (g : Nat → Int → Int → Int) (r0 : Nat → Int → Int → Option (Nat × Int)) (n : Nat → Int → Int) (h : Nat → Int → Int → Int) : Prop := cWd P r0 n g h ∧ cFa P (h 50 0 2) ∧ (∀ f o, P f o → f < 999) ∧ ax_nd (P, g, r0, n)
def cGr (P : Nat → Int → Prop) (g : Nat → Int → Int → Int) (n : Nat → Int → Int) (P' : Nat → Int → Prop) (g' : Nat → Int → Int → Int) (n' : Nat → Int → Int) : Prop := (∀ f o, P f o → P' f o) ∧ (∀ f o, ¬ (f = 5 ∨ f = 500 ∨ f = 501) → P' f o → P f o) ∧ cFr TCl g' g ∧ ∀ f o, ¬ (f = 5 ∨ f = 500 ∨ f = 501 ∨ 999 < f) → n' f o = n f o
section AA
variable {own : Nat} {cc : ByteArray} {nL : Nat} {scr : Option (Nat × (Nat → Int32))} {R : Room} {p0 : Nat → Int → Prop} {Q : ax_Q} {kc ks pc : Nat} {la : List (Option ax_V)} {st : List ax_V}
variable {P : Nat → Int → Prop} {g : Nat → Int → Int → Int} {r0 : Nat → Int → Int → Option (Nat × Int)} {n : Nat → Int → Int}
theorem aj_aast5 {o i u : Int} (h6 : k6 (n 5 u)) (hin : 0 ≤ i ∧ i < n 200 o) (h : decode cc pc = .ok (.aastore, 1)) (kk : ax_J own cc nL scr R p0 Q kc ks (pc + 1) la st (P, g, ax_u3 r0 200 o i (some (5, u)), n)) : ax_J own cc nL scr R p0 Q kc ks pc la (.inr (.inr (some (5, u))) :: .inl i :: .inr (.inr (some (200, o))) :: st) (P, g, r0, n) := by
  rcases h6 with h6 | h6 | h6 | h6 | h6 | h6
  · exact aj_aast (f := 200) (g := 5) (ci := 0) (E := "AntsTurn$Ant") rfl rfl rfl rfl (fun c9 _ h9 => by have z9 := h9.trans h6; omega) rfl (Or.inl rfl) hin h kk
  · exact aj_aast (f := 200) (g := 5) (ci := 7) (E := "AntsTurn$Ant") rfl rfl rfl rfl (fun c9 _ h9 => by have z9 := h9.trans h6; omega) rfl (Or.inr (by decide)) hin h kk
  · exact aj_aast (f := 200) (g := 5) (ci := 6) (E := "AntsTurn$Ant") rfl rfl rfl rfl (fun c9 _ h9 => by have z9 := h9.trans h6; omega) rfl (Or.inr (by decide)) hin h kk
  · exact aj_aast (f := 200) (g := 5) (ci := 9) (E := "AntsTurn$Ant") rfl rfl rfl rfl (fun c9 _ h9 => by have z9 := h9.trans h6; omega) rfl (Or.inr (by decide)) hin h kk
  · exact aj_aast (f := 200) (g := 5) (ci := 3) (E := "AntsTurn$Ant") rfl rfl rfl rfl (fun c9 _ h9 => by have z9 := h9.trans h6; omega) rfl (Or.inr (by decide)) hin h kk
  · exact aj_aast (f := 200) (g := 5) (ci := 1) (E := "AntsTurn$Ant") rfl rfl rfl rfl (fun c9 _ h9 => by have z9 := h9.trans h6; omega) rfl (Or.inr (by decide)) hin h kk
end AA
section CA
variable {P P' : Nat → Int → Prop} {g g9 h : Nat → Int → Int → Int} {r0 r9 : Nat → Int → Int → Option (Nat × Int)} {n n9 : Nat → Int → Int}
def mAntM (h : Nat → Int → Int → Int) (k x0 x1 x2 x3 : Int) : Nat → Int → Int → Int := ax_u3 (ax_u3 (ax_u3 (ax_u3 (ax_u3 (ax_u3 h 103 0 (h 50 0 2) k) 104 0 (h 50 0 2) x0) 105 0 (h 50 0 2) x1) 106 0 (h 50 0 2) x2) 107 0 (h 50 0 2) x3) 50 0 2 (h 50 0 2 + 1)
theorem mAntM_o {k x0 x1 x2 x3 : Int} {f : Nat} {o j : Int} (z : ¬ ((102 < f ∧ f < 108 ∧ o = 0 ∧ j = h 50 0 2) ∨ (f = 50 ∧ o = 0 ∧ j = 2))) : mAntM h k x0 x1 x2 x3 f o j = h f o j := by
  unfold mAntM
  rw [ax_u3_n (by omega), ax_u3_n (by omega), ax_u3_n (by omega), ax_u3_n (by omega), ax_u3_n (by omega), ax_u3_n (by omega)]
theorem mAntM_a {k x0 x1 x2 x3 : Int} : mAntM h k x0 x1 x2 x3 103 0 (h 50 0 2) = k ∧ mAntM h k x0 x1 x2 x3 104 0 (h 50 0 2) = x0 ∧ mAntM h k x0 x1 x2 x3 105 0 (h 50 0 2) = x1 ∧ mAntM h k x0 x1 x2 x3 106 0 (h 50 0 2) = x2 ∧ mAntM h k x0 x1 x2 x3 107 0 (h 50 0 2) = x3 ∧ mAntM h k x0 x1 x2 x3 50 0 2 = h 50 0 2 + 1 := by
  unfold mAntM
  refine ⟨?_, ?_, ?_, ?_, ?_, ?_⟩ <;> simp [ax_u3]
abbrev gAnt (g9 : Nat → Int → Int → Int) (a x0 x1 x2 x3 : Int) : Nat → Int → Int → Int := ax_u3 (ax_u3 (ax_u3 (ax_u3 (ax_u3 (ax_u3 g9 500 a 0 x0) 500 a 1 x1) 500 a 2 x2) 500 a 3 x3) 2 0 1 (g9 2 0 1 + 1)) 2 0 11 (g9 2 0 11 + 1)
theorem cWd_ant {k x0 x1 x2 x3 a : Int} (hw : cWd P r0 n g h) (ha : a = g 2 0 1) (h7 : h 50 0 2 < 7) (hk : 0 ≤ k ∧ k ≤ 5) (h0 : 1 ≤ x0 ∧ x0 ≤ h 50 0 0 - 1) (h1 : x1 = 0 ∨ x1 = 1) (h2 : 0 ≤ x2 ∧ x2 ≤ 20) (h3 : 0 ≤ x3 ∧ x3 ≤ 9) (hnew : cNew P g r0 n a k P' g9 r9 n9) : cWd P' (ax_u3 r9 200 0 (g9 2 0 1) (some (5, a))) n9 (gAnt g9 a x0 x1 x2 x3) (mAntM h k x0 x1 x2 x3) := by
  obtain ⟨w1, w2, w3⟩ := hw.1
  obtain ⟨n1, ⟨⟨n2, n2b⟩, ⟨n3, n4⟩, n5⟩, n6, n7, n8⟩ := hnew
  have hz : g9 2 0 1 = g 2 0 1 := n6 2 0 1 (by omega)
  have hz2 : g 2 0 1 = h 50 0 2 := w2.1.1
  obtain ⟨m1, m2, m3, m4, m5, m6⟩ := mAntM_a (h := h) (k := k) (x0 := x0) (x1 := x1) (x2 := x2) (x3 := x3)
  have mo := fun (f : Nat) (o j : Int) z => mAntM_o (h := h) (k := k) (x0 := x0) (x1 := x1) (x2 := x2) (x3 := x3) (f := f) (o := o) (j := j) z
  have hs7 := w3.2.2.1
  have e : ∀ f o j, ¬ ((f = 500 ∧ o = a) ∨ (f = 2 ∧ o = 0 ∧ (j = 1 ∨ j = 11))) → gAnt g9 a x0 x1 x2 x3 f o j = g9 f o j := fun f o j z => by
    show ax_u3 _ 2 0 11 _ f o j = _
    rw [ax_u3_n (by omega), ax_u3_n (by omega), ax_u3_n (by omega), ax_u3_n (by omega), ax_u3_n (by omega), ax_u3_n (by omega)]
  have e1 : gAnt g9 a x0 x1 x2 x3 2 0 1 = h 50 0 2 + 1 := by
    show ax_u3 _ 2 0 11 _ 2 0 1 = _
    rw [ax_u3_n (by omega), ax_u3_s, hz, hz2]
  have e500 : gAnt g9 a x0 x1 x2 x3 500 a 0 = x0 ∧ gAnt g9 a x0 x1 x2 x3 500 a 1 = x1 ∧ gAnt g9 a x0 x1 x2 x3 500 a 2 = x2 ∧ gAnt g9 a x0 x1 x2 x3 500 a 3 = x3 := by
    refine ⟨?_, ?_, ?_, ?_⟩ <;> simp [gAnt, ax_u3]
  refine cWd_st hw (fun f o z => (n1 f o).mpr (Or.inl z)) (fun f o j z => ?_) (fun f o z => n5 f o (by omega)) (fun f o j z => ?_) ?_ (fun f o j z => mo f o j (by omega)) (by rw [m6]; omega) ?_ ?_ ?_
  · rw [ax_u3_n (by omega)]
    exact n7 f o j (by omega)
  · rw [e f o j (by omega)]
    exact n6 f o j (by omega)
  · show ax_u3 _ 2 0 11 _ 2 0 11 = _
    rw [ax_u3_s, n6 2 0 11 (by omega)]
  · rw [e1]
    refine ⟨⟨(n5 200 0 (by omega)).trans w1.1.1, by omega⟩, fun b z1 z2 => ?_⟩
    by_cases c : b = h 50 0 2
    · subst c
      rw [show (g9 2 0 1) = h 50 0 2 by omega, ax_u3_s, show a = h 50 0 2 by omega] at *
      exact ⟨⟨rfl, (n1 5 _).mpr (Or.inr ⟨Or.inl rfl, rfl⟩)⟩, ⟨n3, n4⟩, n2b⟩
    · obtain ⟨⟨q1, q2⟩, ⟨q3, q4⟩, q5⟩ := w1.2 b z1 (by omega)
      refine ⟨⟨?_, (n1 5 b).mpr (Or.inl q2)⟩, ⟨?_, ?_⟩, ?_⟩
      · rw [ax_u3_n (by omega), n7 200 0 b (by omega)]
        exact q1
      · rw [n5 500 b (by omega)]; exact q3
      · rw [n5 501 b (by omega)]; exact q4
      · rw [n5 5 b (by omega)]; exact q5
  · refine ⟨⟨by rw [e1, m6], ?_, ?_⟩, fun b z1 z2 => ?_⟩
    · rw [e 2 0 2 (by omega), n6 2 0 2 (by omega), mo 50 0 0 (by omega)]; exact w2.1.2.1
    · rw [e 2 0 3 (by omega), n6 2 0 3 (by omega), mo 50 0 1 (by omega)]; exact w2.1.2.2
    · rw [m6] at z2
      by_cases c : b = h 50 0 2
      · rw [c, m1, m2, m3, m4, m5, show h 50 0 2 = a by omega]
        exact ⟨e500.1, e500.2.1, e500.2.2.1, e500.2.2.2, n2⟩
      · have hb := w2.2 b z1 (by omega)
        rw [mo 103 0 b (by omega), mo 104 0 b (by omega), mo 105 0 b (by omega), mo 106 0 b (by omega), mo 107 0 b (by omega), e 500 b 0 (by omega), e 500 b 1 (by omega), e 500 b 2 (by omega), e 500 b 3 (by omega), n6 500 b 0 (by omega), n6 500 b 1 (by omega), n6 500 b 2 (by omega), n6 500 b 3 (by omega), n5 5 b (by omega)]
        exact hb
  · refine wOs_mk w3 ⟨fun o j => mo 112 o j (by omega), fun o j => mo 113 o j (by omega)⟩ (mo 50 0 10 (by omega)) (by rw [mo 50 0 11 (by omega)]; exact w3.2.2.2.2.1) (by rw [mo 50 0 0 (by omega)]; exact w3.1) (by rw [mo 50 0 1 (by omega)]; exact w3.2.1) (by rw [m6]; omega) (fun b z1 z2 => ?_)
    rw [m6] at z2
    rw [mo 50 0 0 (by omega)]
    by_cases c : b = h 50 0 2
    · rw [c, m1, m2, m3, m4, m5]
      exact ⟨hk, h0, h1, h2, h3⟩
    · rw [mo 103 0 b (by omega), mo 104 0 b (by omega), mo 105 0 b (by omega), mo 106 0 b (by omega), mo 107 0 b (by omega)]
      exact w3.2.2.2.2.2.2 b z1 (by omega)
theorem cWe_ant {k x0 x1 x2 x3 a : Int} (hw : cWe P g r0 n h) (ha : a = g 2 0 1) (h7 : h 50 0 2 < 7) (hk : 0 ≤ k ∧ k ≤ 5) (h0 : 1 ≤ x0 ∧ x0 ≤ h 50 0 0 - 1) (h1 : x1 = 0 ∨ x1 = 1) (h2 : 0 ≤ x2 ∧ x2 ≤ 20) (h3 : 0 ≤ x3 ∧ x3 ≤ 9) (hnew : cNew P g r0 n a k P' g9 r9 n9) : cWe P' (gAnt g9 a x0 x1 x2 x3) (ax_u3 r9 200 0 (g9 2 0 1) (some (5, a))) n9 (mAntM h k x0 x1 x2 x3) ∧ cGr P g n P' (gAnt g9 a x0 x1 x2 x3) n9 ∧ gAnt g9 a x0 x1 x2 x3 2 0 11 ≤ g 2 0 11 + 1 := by
  have hz2 : g 2 0 1 = h 50 0 2 := hw.1.1.2.1.1.1
  have hs7 := hw.1.1.2.2.2.2.1
  refine ⟨⟨cWd_ant hw.1 ha h7 hk h0 h1 h2 h3 hnew, fun b z => ?_, fun f o z => ?_, nd_g (nd_u hnew.2.2.2.2 ((hnew.1 5 a).mpr (Or.inr ⟨Or.inl rfl, rfl⟩)))⟩, ⟨fun f o z => (hnew.1 f o).mpr (Or.inl z), fun f o z1 z2 => ?_, fun f o j z => ?_, fun f o z => hnew.2.1.2.2 f o (by omega)⟩, ?_⟩
  · rw [(mAntM_a (h := h) (k := k) (x0 := x0) (x1 := x1) (x2 := x2) (x3 := x3)).2.2.2.2.2] at z
    obtain ⟨y1, y2, y3⟩ := hw.2.1 b (by omega)
    refine ⟨fun y => ?_, fun y => ?_, fun y => ?_⟩
    · rcases (hnew.1 5 b).mp y with x | x
      · exact y1 x
      · omega
    · rcases (hnew.1 500 b).mp y with x | x
      · exact y2 x
      · omega
    · rcases (hnew.1 501 b).mp y with x | x
      · exact y3 x
      · omega
  · rcases (hnew.1 f o).mp z with x | x
    · exact hw.2.2.1 f o x
    · omega
  · rcases (hnew.1 f o).mp z2 with x | x
    · exact x
    · exact absurd x.1 z1
  · show ax_u3 _ 2 0 11 _ f o j = _
    unfold TCl at z
    rw [ax_u3_n (by omega), ax_u3_n (by omega), ax_u3_n (by omega), ax_u3_n (by omega), ax_u3_n (by omega), ax_u3_n (by omega)]
    exact hnew.2.2.1 f o j (by omega)
  · show ax_u3 _ 2 0 11 _ 2 0 11 ≤ _
    rw [ax_u3_s, hnew.2.2.1 2 0 11 (by omega)]
    exact Int.le_refl _
end CA
set_option maxRecDepth 100000 in
set_option maxHeartbeats 4000000 in
theorem cp_setDown (k w s : Int) (P : Nat → Int → Prop) (g : Nat → Int → Int → Int) (r0 : Nat → Int → Int → Option (Nat × Int)) (n : Nat → Int → Int) (h : Nat → Int → Int → Int) (he : cWe P g r0 n h) (hst : 0 ≤ g 2 0 11 ∧ g 2 0 11 ≤ 100000) : ax_S yX10_setDown cX10_setDown 8 (some FieldType.int) 5 3 21 [.inr (.inr (some (1, 0))), .inl k, .inl w, .inl s] (P, g, r0, n) (fun r M' => r = some (.inl (mAnt h k w s).1) ∧ ∃ P' g' r' n', M' = (P', g', r', n') ∧ cWe P' g' r' n' (mAnt h k w s).2 ∧ cGr P g n P' g' n' ∧ g' 2 0 11 ≤ g 2 0 11 + 1) := by
  have hw := he.1
  have hs := cWd_sta hw
  have hT := hw.2.2.1
  have hTp := hw.2.2.2.2.2.2
  have hT2 := hT.2.1
  have hTp2 := hTp.2.1
  have hAs := hs.1.1
  have hPs := hs.1.2.1
  have hOs := hs.1.2.2
  have hP1 := hPs.1
  have hA1 := hAs.1
  have hsz := hOs.2.2.1
  have hxz := hPs.1.1
  have hkk : 2 ≤ g 2 0 2 ∧ g 2 0 2 ≤ 40 := by rw [hP1.2.1]; exact hOs.1
  have hst2 : 0 ≤ g 2 0 11 ∧ g 2 0 11 ≤ 1000000 := by omega
  refine ax_S_of (own := 10) (by decide) rfl (fun h => absurd h (by decide)) rfl (Nat.le_of_ble_eq_true rfl) ?_
  change ax_J _ _ _ _ _ _ _ _ _ _ [some (.inr (.inr (some (1, 0)))), some (.inl k), some (.inl w), some (.inl s), none, none, none, none] _ _
  refine aj_run (C := (0 < 100) ∧ (0 < 10) ∧ (0 < 10) ∧ (0 < 10) ∧ True) (pc' := 22) (la' := [some (.inr (.inr (some (1, 0)))), some (.inl k), some (.inl w), some (.inl s), some (.inl (Int.tdiv w 100)), some (.inl (Int.tmod (Int.tdiv w 10) 10)), some (.inl (Int.tmod w 10)), none]) (st' := [.inl k]) (M' := (P, g, r0, n)) ok_X10_setDown true 15 rfl (by refine ⟨?_, ?_, ?_, ?_, trivial⟩ <;> (omega)) ?_
  refine aj_if_lt (tgt := 64) (ax_dec2 (i := .ifCond .lt 42) (n := 3) ok_X10_setDown rfl) (by decide) (fun c1 => ?_) (fun c1 => ?_)
  · refine aj_run (C := True) (pc' := 66) (la' := [some (.inr (.inr (some (1, 0)))), some (.inl k), some (.inl w), some (.inl s), some (.inl (Int.tdiv w 100)), some (.inl (Int.tmod (Int.tdiv w 10) 10)), some (.inl (Int.tmod w 10)), none]) (st' := [.inl (-2)]) (M' := (P, g, r0, n)) ok_X10_setDown true 1 rfl trivial ?_
    refine aj_ret (r := some (.inl (-2))) (ax_dec2 (i := .ireturn) (n := 1) ok_X10_setDown rfl) ⟨?_, ?_, by decide, by decide⟩ rfl
    · first | (exfalso; omega) | exact ⟨ax_si (by unfold mAnt; (first | rw [if_neg (by omega)] | rw [if_pos (by omega), if_pos (by omega)])), P, g, r0, n, rfl, by unfold mAnt; (first | rw [if_neg (by omega)] | rw [if_pos (by omega), if_pos (by omega)]); exact he, ⟨fun _ _ z => z, fun _ _ _ z => z, fun _ _ _ _ => rfl, fun _ _ _ => rfl⟩, by omega⟩
    · exact ax_ro_i
  · refine aj_run (C := True) (pc' := 28) (la' := [some (.inr (.inr (some (1, 0)))), some (.inl k), some (.inl w), some (.inl s), some (.inl (Int.tdiv w 100)), some (.inl (Int.tmod (Int.tdiv w 10) 10)), some (.inl (Int.tmod w 10)), none]) (st' := [.inl 6, .inl k]) (M' := (P, g, r0, n)) ok_X10_setDown true 2 rfl trivial ?_
    refine aj_icmp_ge (tgt := 64) (ax_dec2 (i := .if_icmp .ge 36) (n := 3) ok_X10_setDown rfl) (by decide) (fun c2 => ?_) (fun c2 => ?_)
    · refine aj_run (C := True) (pc' := 66) (la' := [some (.inr (.inr (some (1, 0)))), some (.inl k), some (.inl w), some (.inl s), some (.inl (Int.tdiv w 100)), some (.inl (Int.tmod (Int.tdiv w 10) 10)), some (.inl (Int.tmod w 10)), none]) (st' := [.inl (-2)]) (M' := (P, g, r0, n)) ok_X10_setDown true 1 rfl trivial ?_
      refine aj_ret (r := some (.inl (-2))) (ax_dec2 (i := .ireturn) (n := 1) ok_X10_setDown rfl) ⟨?_, ?_, by decide, by decide⟩ rfl
      · first | (exfalso; omega) | exact ⟨ax_si (by unfold mAnt; (first | rw [if_neg (by omega)] | rw [if_pos (by omega), if_pos (by omega)])), P, g, r0, n, rfl, by unfold mAnt; (first | rw [if_neg (by omega)] | rw [if_pos (by omega), if_pos (by omega)]); exact he, ⟨fun _ _ z => z, fun _ _ _ z => z, fun _ _ _ _ => rfl, fun _ _ _ => rfl⟩, by omega⟩
      · exact ax_ro_i
    · refine aj_run (C := True) (pc' := 32) (la' := [some (.inr (.inr (some (1, 0)))), some (.inl k), some (.inl w), some (.inl s), some (.inl (Int.tdiv w 100)), some (.inl (Int.tmod (Int.tdiv w 10) 10)), some (.inl (Int.tmod w 10)), none]) (st' := [.inl w]) (M' := (P, g, r0, n)) ok_X10_setDown true 1 rfl trivial ?_
      refine aj_if_lt (tgt := 64) (ax_dec2 (i := .ifCond .lt 32) (n := 3) ok_X10_setDown rfl) (by decide) (fun c3 => ?_) (fun c3 => ?_)
      · refine aj_run (C := True) (pc' := 66) (la' := [some (.inr (.inr (some (1, 0)))), some (.inl k), some (.inl w), some (.inl s), some (.inl (Int.tdiv w 100)), some (.inl (Int.tmod (Int.tdiv w 10) 10)), some (.inl (Int.tmod w 10)), none]) (st' := [.inl (-2)]) (M' := (P, g, r0, n)) ok_X10_setDown true 1 rfl trivial ?_
        refine aj_ret (r := some (.inl (-2))) (ax_dec2 (i := .ireturn) (n := 1) ok_X10_setDown rfl) ⟨?_, ?_, by decide, by decide⟩ rfl
        · first | (exfalso; omega) | exact ⟨ax_si (by unfold mAnt; (first | rw [if_neg (by omega)] | rw [if_pos (by omega), if_pos (by omega)])), P, g, r0, n, rfl, by unfold mAnt; (first | rw [if_neg (by omega)] | rw [if_pos (by omega), if_pos (by omega)]); exact he, ⟨fun _ _ z => z, fun _ _ _ z => z, fun _ _ _ _ => rfl, fun _ _ _ => rfl⟩, by omega⟩
        · exact ax_ro_i
      · have ht1 : 0 ≤ Int.tmod (Int.tdiv w 10) 10 := Int.tmod_nonneg _ (Int.tdiv_nonneg (by omega) (by decide))
        have ht2 : 0 ≤ Int.tmod w 10 := Int.tmod_nonneg _ (by omega)
        have ht3 : Int.tmod w 10 < 10 := Int.tmod_lt_of_pos _ (by decide)
        refine aj_run (C := True) (pc' := 39) (la' := [some (.inr (.inr (some (1, 0)))), some (.inl k), some (.inl w), some (.inl s), some (.inl (Int.tdiv w 100)), some (.inl (Int.tmod (Int.tdiv w 10) 10)), some (.inl (Int.tmod w 10)), none]) (st' := [.inl (Int.tdiv w 100), .inl 0, .inr (.inr (some (1, 0)))]) (M' := (P, g, r0, n)) ok_X10_setDown true 3 rfl trivial ?_
        refine aj_callV (av := [.inl 0, .inl (Int.tdiv w 100)]) (st := []) (f := 1) (o := 0) (ci := 10) cal_X10_isAllowed lk_10_98 ins_X10_isAllowed rfl sel_X10_isAllowed rfl (fun c9 h9 _ => by simpa [ax_ok] using h9) (cp_isAllowed 0 (Int.tdiv w 100) _ _ _ _ hs.2.2.2 hkk) ⟨by decide, by decide, by decide, by decide⟩ (Nat.le_of_ble_eq_true rfl) (ax_dec2 (i := .invokevirtual 98) (n := 3) ok_X10_setDown rfl) (fun r M' hq => ?_)
        obtain ⟨rfl, rfl⟩ := hq
        change ax_J _ _ _ _ _ _ _ _ _ 42 [some (.inr (.inr (some (1, 0)))), some (.inl k), some (.inl w), some (.inl s), some (.inl (Int.tdiv w 100)), some (.inl (Int.tmod (Int.tdiv w 10) 10)), some (.inl (Int.tmod w 10)), none] [.inl (bI (1 ≤ (Int.tdiv w 100) ∧ (Int.tdiv w 100) ≤ g 2 0 2 - 1))] (P, g, r0, n)
        refine aj_if_eq (tgt := 64) (ax_dec2 (i := .ifCond .eq 22) (n := 3) ok_X10_setDown rfl) (by decide) (fun c4 => ?_) (fun c4 => ?_)
        · replace c4 := bI_e0 c4
          refine aj_run (C := True) (pc' := 66) (la' := [some (.inr (.inr (some (1, 0)))), some (.inl k), some (.inl w), some (.inl s), some (.inl (Int.tdiv w 100)), some (.inl (Int.tmod (Int.tdiv w 10) 10)), some (.inl (Int.tmod w 10)), none]) (st' := [.inl (-2)]) (M' := (P, g, r0, n)) ok_X10_setDown true 1 rfl trivial ?_
          refine aj_ret (r := some (.inl (-2))) (ax_dec2 (i := .ireturn) (n := 1) ok_X10_setDown rfl) ⟨?_, ?_, by decide, by decide⟩ rfl
          · first | (exfalso; omega) | exact ⟨ax_si (by unfold mAnt; (first | rw [if_neg (by omega)] | rw [if_pos (by omega), if_pos (by omega)])), P, g, r0, n, rfl, by unfold mAnt; (first | rw [if_neg (by omega)] | rw [if_pos (by omega), if_pos (by omega)]); exact he, ⟨fun _ _ z => z, fun _ _ _ z => z, fun _ _ _ _ => rfl, fun _ _ _ => rfl⟩, by omega⟩
          · exact ax_ro_i
        · replace c4 := bI_n0 c4
          refine aj_run (C := True) (pc' := 49) (la' := [some (.inr (.inr (some (1, 0)))), some (.inl k), some (.inl w), some (.inl s), some (.inl (Int.tdiv w 100)), some (.inl (Int.tmod (Int.tdiv w 10) 10)), some (.inl (Int.tmod w 10)), none]) (st' := [.inl (Int.tmod (Int.tdiv w 10) 10), .inl 1, .inr (.inr (some (1, 0)))]) (M' := (P, g, r0, n)) ok_X10_setDown true 3 rfl trivial ?_
          refine aj_callV (av := [.inl 1, .inl (Int.tmod (Int.tdiv w 10) 10)]) (st := []) (f := 1) (o := 0) (ci := 10) cal_X10_isAllowed lk_10_98 ins_X10_isAllowed rfl sel_X10_isAllowed rfl (fun c9 h9 _ => by simpa [ax_ok] using h9) (cp_isAllowed 1 (Int.tmod (Int.tdiv w 10) 10) _ _ _ _ hs.2.2.2 hkk) ⟨by decide, by decide, by decide, by decide⟩ (Nat.le_of_ble_eq_true rfl) (ax_dec2 (i := .invokevirtual 98) (n := 3) ok_X10_setDown rfl) (fun r M' hq => ?_)
          obtain ⟨rfl, rfl⟩ := hq
          change ax_J _ _ _ _ _ _ _ _ _ 52 [some (.inr (.inr (some (1, 0)))), some (.inl k), some (.inl w), some (.inl s), some (.inl (Int.tdiv w 100)), some (.inl (Int.tmod (Int.tdiv w 10) 10)), some (.inl (Int.tmod w 10)), none] [.inl (bI (0 ≤ (Int.tmod (Int.tdiv w 10) 10) ∧ (Int.tmod (Int.tdiv w 10) 10) ≤ 1))] (P, g, r0, n)
          refine aj_if_eq (tgt := 64) (ax_dec2 (i := .ifCond .eq 12) (n := 3) ok_X10_setDown rfl) (by decide) (fun c5 => ?_) (fun c5 => ?_)
          · replace c5 := bI_e0 c5
            refine aj_run (C := True) (pc' := 66) (la' := [some (.inr (.inr (some (1, 0)))), some (.inl k), some (.inl w), some (.inl s), some (.inl (Int.tdiv w 100)), some (.inl (Int.tmod (Int.tdiv w 10) 10)), some (.inl (Int.tmod w 10)), none]) (st' := [.inl (-2)]) (M' := (P, g, r0, n)) ok_X10_setDown true 1 rfl trivial ?_
            refine aj_ret (r := some (.inl (-2))) (ax_dec2 (i := .ireturn) (n := 1) ok_X10_setDown rfl) ⟨?_, ?_, by decide, by decide⟩ rfl
            · first | (exfalso; omega) | exact ⟨ax_si (by unfold mAnt; (first | rw [if_neg (by omega)] | rw [if_pos (by omega), if_pos (by omega)])), P, g, r0, n, rfl, by unfold mAnt; (first | rw [if_neg (by omega)] | rw [if_pos (by omega), if_pos (by omega)]); exact he, ⟨fun _ _ z => z, fun _ _ _ z => z, fun _ _ _ _ => rfl, fun _ _ _ => rfl⟩, by omega⟩
            · exact ax_ro_i
          · replace c5 := bI_n0 c5
            refine aj_run (C := True) (pc' := 58) (la' := [some (.inr (.inr (some (1, 0)))), some (.inl k), some (.inl w), some (.inl s), some (.inl (Int.tdiv w 100)), some (.inl (Int.tmod (Int.tdiv w 10) 10)), some (.inl (Int.tmod w 10)), none]) (st' := [.inl s, .inl 2, .inr (.inr (some (1, 0)))]) (M' := (P, g, r0, n)) ok_X10_setDown true 3 rfl trivial ?_
            refine aj_callV (av := [.inl 2, .inl s]) (st := []) (f := 1) (o := 0) (ci := 10) cal_X10_isAllowed lk_10_98 ins_X10_isAllowed rfl sel_X10_isAllowed rfl (fun c9 h9 _ => by simpa [ax_ok] using h9) (cp_isAllowed 2 s _ _ _ _ hs.2.2.2 hkk) ⟨by decide, by decide, by decide, by decide⟩ (Nat.le_of_ble_eq_true rfl) (ax_dec2 (i := .invokevirtual 98) (n := 3) ok_X10_setDown rfl) (fun r M' hq => ?_)
            obtain ⟨rfl, rfl⟩ := hq
            change ax_J _ _ _ _ _ _ _ _ _ 61 [some (.inr (.inr (some (1, 0)))), some (.inl k), some (.inl w), some (.inl s), some (.inl (Int.tdiv w 100)), some (.inl (Int.tmod (Int.tdiv w 10) 10)), some (.inl (Int.tmod w 10)), none] [.inl (bI (0 ≤ s ∧ s ≤ 20))] (P, g, r0, n)
            refine aj_if_ne (tgt := 67) (ax_dec2 (i := .ifCond .ne 6) (n := 3) ok_X10_setDown rfl) (by decide) (fun c6 => ?_) (fun c6 => ?_)
            · replace c6 := bI_n0 c6
              refine aj_run (C := True) (pc' := 68) (la' := [some (.inr (.inr (some (1, 0)))), some (.inl k), some (.inl w), some (.inl s), some (.inl (Int.tdiv w 100)), some (.inl (Int.tmod (Int.tdiv w 10) 10)), some (.inl (Int.tmod w 10)), none]) (st' := [.inr (.inr (some (1, 0)))]) (M' := (P, g, r0, n)) ok_X10_setDown true 1 rfl trivial ?_
              refine aj_getR (f := 1) (k := 0) (g := 2) (o := 0) (u := 0) (ax_lk_ok (q := (1, 0)) rfl) rfl rfl hs.2.2.2.1 hs.2.2.2.2 (ax_dec2 (i := .getfield 10) (n := 3) ok_X10_setDown rfl) ?_
              refine aj_run (C := True) (pc' := 76) (la' := [some (.inr (.inr (some (1, 0)))), some (.inl k), some (.inl w), some (.inl s), some (.inl (Int.tdiv w 100)), some (.inl (Int.tmod (Int.tdiv w 10) 10)), some (.inl (Int.tmod w 10)), none]) (st' := [.inl 7, .inl (g 2 0 1)]) (M' := (P, g, r0, n)) ok_X10_setDown true 2 rfl trivial ?_
              refine aj_icmp_lt (tgt := 82) (ax_dec2 (i := .if_icmp .lt 6) (n := 3) ok_X10_setDown rfl) (by decide) (fun c7 => ?_) (fun c7 => ?_)
              · refine aj_run (C := True) (pc' := 83) (la' := [some (.inr (.inr (some (1, 0)))), some (.inl k), some (.inl w), some (.inl s), some (.inl (Int.tdiv w 100)), some (.inl (Int.tmod (Int.tdiv w 10) 10)), some (.inl (Int.tmod w 10)), none]) (st' := [.inl k]) (M' := (P, g, r0, n)) ok_X10_setDown true 1 rfl trivial ?_
                refine aj_callS (av := [.inl k]) (st := []) cal_X10_ofKind lk_10_102 stc_X10_ofKind (cp_ofKind k (g 2 0 1) _ _ _ _ (by omega) (he.2.1 _ (by omega)) he.2.2.2 he.2.2.1) ⟨by decide, by decide, by decide, by decide⟩ (Nat.le_of_ble_eq_true rfl) (ax_dec2 (i := .invokestatic 102) (n := 3) ok_X10_setDown rfl) (fun r M' hq => ?_)
                obtain ⟨rfl, P9, g9, r9, n9, rfl, hnew⟩ := hq
                have hb9 : r9 1 0 0 = some (2, 0) ∧ P9 2 0 := ⟨(hnew.2.2.2.1 1 0 0 (by omega)).trans hs.2.2.2.1, (hnew.1 2 0).mpr (Or.inl hs.2.2.2.2)⟩
                have hn9 : n9 200 0 = 7 := (hnew.2.1.2.2 200 0 (by omega)).trans hA1.1
                have h59 : n9 500 (g 2 0 1) = 4 := hnew.2.1.2.1.1
                have hz9 : g9 2 0 1 = g 2 0 1 := hnew.2.2.1 2 0 1 (by omega)
                have hst9 : g9 2 0 11 = g 2 0 11 := hnew.2.2.1 2 0 11 (by omega)
                have hst3 : 0 ≤ g9 2 0 11 ∧ g9 2 0 11 ≤ 1000000 := by omega
                change ax_J _ _ _ _ _ _ _ _ _ 86 [some (.inr (.inr (some (1, 0)))), some (.inl k), some (.inl w), some (.inl s), some (.inl (Int.tdiv w 100)), some (.inl (Int.tmod (Int.tdiv w 10) 10)), some (.inl (Int.tmod w 10)), none] [.inr (.inr (some (5, (g 2 0 1))))] (P9, g9, r9, n9)
                refine aj_run (C := (0 ≤ 0 ∧ 0 < n9 500 (g 2 0 1)) ∧ (0 ≤ 1 ∧ 1 < n9 500 (g 2 0 1)) ∧ (0 ≤ 2 ∧ 2 < n9 500 (g 2 0 1)) ∧ (0 ≤ 3 ∧ 3 < n9 500 (g 2 0 1)) ∧ True) (pc' := 124) (la' := [some (.inr (.inr (some (1, 0)))), some (.inl k), some (.inl w), some (.inl s), some (.inl (Int.tdiv w 100)), some (.inl (Int.tmod (Int.tdiv w 10) 10)), some (.inl (Int.tmod w 10)), some (.inr (.inr (some (5, (g 2 0 1)))))]) (st' := [.inr (.inr (some (1, 0)))]) (M' := (P9, ax_u3 (ax_u3 (ax_u3 (ax_u3 g9 500 (g 2 0 1) 0 (Int.tdiv w 100)) 500 (g 2 0 1) 1 (Int.tmod (Int.tdiv w 10) 10)) 500 (g 2 0 1) 2 s) 500 (g 2 0 1) 3 (Int.tmod w 10), r9, n9)) ok_X10_setDown true 22 rfl (by refine ⟨?_, ?_, ?_, ?_, trivial⟩ <;> (omega)) ?_
                refine aj_getR (f := 1) (k := 0) (g := 2) (o := 0) (u := 0) (ax_lk_ok (q := (1, 0)) rfl) rfl rfl hb9.1 hb9.2 (ax_dec2 (i := .getfield 10) (n := 3) ok_X10_setDown rfl) ?_
                refine aj_run (C := True) (pc' := 131) (la' := [some (.inr (.inr (some (1, 0)))), some (.inl k), some (.inl w), some (.inl s), some (.inl (Int.tdiv w 100)), some (.inl (Int.tmod (Int.tdiv w 10) 10)), some (.inl (Int.tmod w 10)), some (.inr (.inr (some (5, (g 2 0 1)))))]) (st' := [.inr (.inr (some (1, 0))), .inr (.inr (some (200, 0)))]) (M' := (P9, ax_u3 (ax_u3 (ax_u3 (ax_u3 g9 500 (g 2 0 1) 0 (Int.tdiv w 100)) 500 (g 2 0 1) 1 (Int.tmod (Int.tdiv w 10) 10)) 500 (g 2 0 1) 2 s) 500 (g 2 0 1) 3 (Int.tmod w 10), r9, n9)) ok_X10_setDown true 2 rfl trivial ?_
                refine aj_getR (f := 1) (k := 0) (g := 2) (o := 0) (u := 0) (ax_lk_ok (q := (1, 0)) rfl) rfl rfl hb9.1 hb9.2 (ax_dec2 (i := .getfield 10) (n := 3) ok_X10_setDown rfl) ?_
                refine aj_run (C := True) (pc' := 139) (la' := [some (.inr (.inr (some (1, 0)))), some (.inl k), some (.inl w), some (.inl s), some (.inl (Int.tdiv w 100)), some (.inl (Int.tmod (Int.tdiv w 10) 10)), some (.inl (Int.tmod w 10)), some (.inr (.inr (some (5, (g 2 0 1)))))]) (st' := [.inr (.inr (some (5, (g 2 0 1)))), .inl (g9 2 0 1), .inr (.inr (some (200, 0)))]) (M' := (P9, ax_u3 (ax_u3 (ax_u3 (ax_u3 g9 500 (g 2 0 1) 0 (Int.tdiv w 100)) 500 (g 2 0 1) 1 (Int.tmod (Int.tdiv w 10) 10)) 500 (g 2 0 1) 2 s) 500 (g 2 0 1) 3 (Int.tmod w 10), r9, n9)) ok_X10_setDown true 2 rfl trivial ?_
                refine aj_aast5 (o := 0) (i := g9 2 0 1) (u := (g 2 0 1)) hnew.2.1.1.2 ⟨by omega, by omega⟩ (ax_dec2 (i := .aastore) (n := 1) ok_X10_setDown rfl) ?_
                change ax_J _ _ _ _ _ _ _ _ _ 140 [some (.inr (.inr (some (1, 0)))), some (.inl k), some (.inl w), some (.inl s), some (.inl (Int.tdiv w 100)), some (.inl (Int.tmod (Int.tdiv w 10) 10)), some (.inl (Int.tmod w 10)), some (.inr (.inr (some (5, (g 2 0 1)))))] [] (P9, ax_u3 (ax_u3 (ax_u3 (ax_u3 g9 500 (g 2 0 1) 0 (Int.tdiv w 100)) 500 (g 2 0 1) 1 (Int.tmod (Int.tdiv w 10) 10)) 500 (g 2 0 1) 2 s) 500 (g 2 0 1) 3 (Int.tmod w 10), ax_u3 r9 200 0 (g9 2 0 1) (some (5, (g 2 0 1))), n9)
                refine aj_run (C := True) (pc' := 141) (la' := [some (.inr (.inr (some (1, 0)))), some (.inl k), some (.inl w), some (.inl s), some (.inl (Int.tdiv w 100)), some (.inl (Int.tmod (Int.tdiv w 10) 10)), some (.inl (Int.tmod w 10)), some (.inr (.inr (some (5, (g 2 0 1)))))]) (st' := [.inr (.inr (some (1, 0)))]) (M' := (P9, ax_u3 (ax_u3 (ax_u3 (ax_u3 g9 500 (g 2 0 1) 0 (Int.tdiv w 100)) 500 (g 2 0 1) 1 (Int.tmod (Int.tdiv w 10) 10)) 500 (g 2 0 1) 2 s) 500 (g 2 0 1) 3 (Int.tmod w 10), ax_u3 r9 200 0 (g9 2 0 1) (some (5, (g 2 0 1))), n9)) ok_X10_setDown true 1 rfl trivial ?_
                refine aj_getR (f := 1) (k := 0) (g := 2) (o := 0) (u := 0) (ax_lk_ok (q := (1, 0)) rfl) rfl rfl hb9.1 hb9.2 (ax_dec2 (i := .getfield 10) (n := 3) ok_X10_setDown rfl) ?_
                refine aj_run (C := (-2147483648 ≤ (g9 2 0 1) + 1 ∧ (g9 2 0 1) + 1 ≤ 2147483647) ∧ True) (pc' := 154) (la' := [some (.inr (.inr (some (1, 0)))), some (.inl k), some (.inl w), some (.inl s), some (.inl (Int.tdiv w 100)), some (.inl (Int.tmod (Int.tdiv w 10) 10)), some (.inl (Int.tmod w 10)), some (.inr (.inr (some (5, (g 2 0 1)))))]) (st' := [.inr (.inr (some (1, 0)))]) (M' := (P9, ax_u3 (ax_u3 (ax_u3 (ax_u3 (ax_u3 g9 500 (g 2 0 1) 0 (Int.tdiv w 100)) 500 (g 2 0 1) 1 (Int.tmod (Int.tdiv w 10) 10)) 500 (g 2 0 1) 2 s) 500 (g 2 0 1) 3 (Int.tmod w 10)) 2 0 1 ((g9 2 0 1) + 1), ax_u3 r9 200 0 (g9 2 0 1) (some (5, (g 2 0 1))), n9)) ok_X10_setDown true 6 rfl (by refine ⟨?_, trivial⟩ <;> (omega)) ?_
                refine aj_getR (f := 1) (k := 0) (g := 2) (o := 0) (u := 0) (ax_lk_ok (q := (1, 0)) rfl) rfl rfl hb9.1 hb9.2 (ax_dec2 (i := .getfield 10) (n := 3) ok_X10_setDown rfl) ?_
                refine aj_callV (av := []) (st := []) (f := 2) (o := 0) (ci := 2) cal_X2_forget lk_10_77 ins_X2_forget rfl sel_X2_forget rfl (fun c9 h9 _ => by simpa [ax_ok] using h9) (cp_forget _ _ _ _ (by exact hst3)) ⟨by decide, by decide, by decide, by decide⟩ (Nat.le_of_ble_eq_true rfl) (ax_dec2 (i := .invokevirtual 77) (n := 3) ok_X10_setDown rfl) (fun r M' hq => ?_)
                obtain ⟨rfl, rfl⟩ := hq
                change ax_J _ _ _ _ _ _ _ _ _ 160 [some (.inr (.inr (some (1, 0)))), some (.inl k), some (.inl w), some (.inl s), some (.inl (Int.tdiv w 100)), some (.inl (Int.tmod (Int.tdiv w 10) 10)), some (.inl (Int.tmod w 10)), some (.inr (.inr (some (5, (g 2 0 1)))))] [] (P9, ax_u3 (ax_u3 (ax_u3 (ax_u3 (ax_u3 (ax_u3 g9 500 (g 2 0 1) 0 (Int.tdiv w 100)) 500 (g 2 0 1) 1 (Int.tmod (Int.tdiv w 10) 10)) 500 (g 2 0 1) 2 s) 500 (g 2 0 1) 3 (Int.tmod w 10)) 2 0 1 ((g9 2 0 1) + 1)) 2 0 11 (g9 2 0 11 + 1), ax_u3 r9 200 0 (g9 2 0 1) (some (5, (g 2 0 1))), n9)
                refine aj_run (C := True) (pc' := 161) (la' := [some (.inr (.inr (some (1, 0)))), some (.inl k), some (.inl w), some (.inl s), some (.inl (Int.tdiv w 100)), some (.inl (Int.tmod (Int.tdiv w 10) 10)), some (.inl (Int.tmod w 10)), some (.inr (.inr (some (5, (g 2 0 1)))))]) (st' := [.inr (.inr (some (1, 0)))]) (M' := (P9, ax_u3 (ax_u3 (ax_u3 (ax_u3 (ax_u3 (ax_u3 g9 500 (g 2 0 1) 0 (Int.tdiv w 100)) 500 (g 2 0 1) 1 (Int.tmod (Int.tdiv w 10) 10)) 500 (g 2 0 1) 2 s) 500 (g 2 0 1) 3 (Int.tmod w 10)) 2 0 1 ((g9 2 0 1) + 1)) 2 0 11 (g9 2 0 11 + 1), ax_u3 r9 200 0 (g9 2 0 1) (some (5, (g 2 0 1))), n9)) ok_X10_setDown true 1 rfl trivial ?_
                refine aj_getR (f := 1) (k := 0) (g := 2) (o := 0) (u := 0) (ax_lk_ok (q := (1, 0)) rfl) rfl rfl hb9.1 hb9.2 (ax_dec2 (i := .getfield 10) (n := 3) ok_X10_setDown rfl) ?_
                refine aj_run (C := (-2147483648 ≤ ((g9 2 0 1) + 1) - 1 ∧ ((g9 2 0 1) + 1) - 1 ≤ 2147483647) ∧ True) (pc' := 169) (la' := [some (.inr (.inr (some (1, 0)))), some (.inl k), some (.inl w), some (.inl s), some (.inl (Int.tdiv w 100)), some (.inl (Int.tmod (Int.tdiv w 10) 10)), some (.inl (Int.tmod w 10)), some (.inr (.inr (some (5, (g 2 0 1)))))]) (st' := [.inl (((g9 2 0 1) + 1) - 1)]) (M' := (P9, ax_u3 (ax_u3 (ax_u3 (ax_u3 (ax_u3 (ax_u3 g9 500 (g 2 0 1) 0 (Int.tdiv w 100)) 500 (g 2 0 1) 1 (Int.tmod (Int.tdiv w 10) 10)) 500 (g 2 0 1) 2 s) 500 (g 2 0 1) 3 (Int.tmod w 10)) 2 0 1 ((g9 2 0 1) + 1)) 2 0 11 (g9 2 0 11 + 1), ax_u3 r9 200 0 (g9 2 0 1) (some (5, (g 2 0 1))), n9)) ok_X10_setDown true 3 rfl (by refine ⟨?_, trivial⟩ <;> (omega)) ?_
                refine aj_ret (r := some (.inl (((g9 2 0 1) + 1) - 1))) (ax_dec2 (i := .ireturn) (n := 1) ok_X10_setDown rfl) ⟨?_, ?_, by decide, by decide⟩ rfl
                · first | (exfalso; omega) | (have hwa := cWe_ant (k := k) (x0 := Int.tdiv w 100) (x1 := Int.tmod (Int.tdiv w 10) 10) (x2 := s) (x3 := Int.tmod w 10) he rfl (by omega) (by omega) (by omega) (by omega) (by omega) (by omega) hnew; exact ⟨ax_si (by unfold mAnt; rw [if_pos (by omega), if_neg (by omega)]; show _ = h 50 0 2; omega), _, _, _, _, rfl, by unfold mAnt; rw [if_pos (by omega), if_neg (by omega)]; exact hwa.1, hwa.2.1, hwa.2.2⟩)
                · exact ax_ro_i
              · refine aj_run (C := True) (pc' := 81) (la' := [some (.inr (.inr (some (1, 0)))), some (.inl k), some (.inl w), some (.inl s), some (.inl (Int.tdiv w 100)), some (.inl (Int.tmod (Int.tdiv w 10) 10)), some (.inl (Int.tmod w 10)), none]) (st' := [.inl (-4)]) (M' := (P, g, r0, n)) ok_X10_setDown true 1 rfl trivial ?_
                refine aj_ret (r := some (.inl (-4))) (ax_dec2 (i := .ireturn) (n := 1) ok_X10_setDown rfl) ⟨?_, ?_, by decide, by decide⟩ rfl
                · first | (exfalso; omega) | exact ⟨ax_si (by unfold mAnt; (first | rw [if_neg (by omega)] | rw [if_pos (by omega), if_pos (by omega)])), P, g, r0, n, rfl, by unfold mAnt; (first | rw [if_neg (by omega)] | rw [if_pos (by omega), if_pos (by omega)]); exact he, ⟨fun _ _ z => z, fun _ _ _ z => z, fun _ _ _ _ => rfl, fun _ _ _ => rfl⟩, by omega⟩
                · exact ax_ro_i
            · replace c6 := bI_e0 c6
              refine aj_run (C := True) (pc' := 66) (la' := [some (.inr (.inr (some (1, 0)))), some (.inl k), some (.inl w), some (.inl s), some (.inl (Int.tdiv w 100)), some (.inl (Int.tmod (Int.tdiv w 10) 10)), some (.inl (Int.tmod w 10)), none]) (st' := [.inl (-2)]) (M' := (P, g, r0, n)) ok_X10_setDown true 1 rfl trivial ?_
              refine aj_ret (r := some (.inl (-2))) (ax_dec2 (i := .ireturn) (n := 1) ok_X10_setDown rfl) ⟨?_, ?_, by decide, by decide⟩ rfl
              · first | (exfalso; omega) | exact ⟨ax_si (by unfold mAnt; (first | rw [if_neg (by omega)] | rw [if_pos (by omega), if_pos (by omega)])), P, g, r0, n, rfl, by unfold mAnt; (first | rw [if_neg (by omega)] | rw [if_pos (by omega), if_pos (by omega)]); exact he, ⟨fun _ _ z => z, fun _ _ _ z => z, fun _ _ _ _ => rfl, fun _ _ _ => rfl⟩, by omega⟩
              · exact ax_ro_i

