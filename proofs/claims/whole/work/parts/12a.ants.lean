/-! ===== the ants of the class: each kind's own answers ===== -/
theorem ax_sub2 {vm : Vm} {a b : ClassId} {k : Class} (hk : vm.classes[a]? = some k) (hs : k.super = some b) : vm.isSubclass a b = true := by
  have hlt : a < vm.classes.size := (Array.getElem?_eq_some_iff.mp hk).1
  unfold Vm.isSubclass
  cases hz : vm.classes.size with
  | zero =>
    rw [hz] at hlt
    exact absurd hlt (Nat.not_lt_zero _)
  | succ z => simp [Vm.isSubclassAux, hk, hs]
section AP
variable {own : Nat} {cc : ByteArray} {nL : Nat} {scr : Option (Nat × (Nat → Int32))} {R : Room} {p0 : Nat → Int → Prop} {Q : ax_Q} {kc ks pc : Nat} {la : List (Option ax_V)} {st : List ax_V} {M : ax_Mm}
/-- super.x(..), which the superclass has from its own -/
theorem aj_callPU {x : MethodName} {owner : String} {cY : ByteArray} {nY idx d KC KS f ci : Nat} {o : Int} {q : vw_C} {rY : Option FieldType} {av : List ax_V} {Qs : Option ax_V → ax_Mm → Prop} (hy : ax_cal ⟨owner, x.name, x.desc⟩ cY nY rY av.length) (hne : x.name ≠ "<init>") (hl : Cond.methodLink (ax_nm own) idx x ∈ ax_GT) (hsm : Cond.sameMethod x.cls owner x.name x.desc ∈ ax_GT) (hsu : Cond.superclass (ax_nm own) x.cls ∈ ax_GT) (hsu2 : Cond.superclass x.cls owner ∈ ax_GT) (hin : Cond.instanceMethod ⟨owner, x.name, x.desc⟩ ∈ ax_GT) (hq : vwCl[ci]? = some q) (ho : ax_ob f = true) (hci : ∀ c' : Nat, ax_ok f c' = true → (c' : Int) = M.2.2.2 f o → c' = ci)
    (hs : ax_S ⟨owner, x.name, x.desc⟩ cY nY rY d KC KS (.inr (.inr (some (f, o))) :: av) M Qs) (hR : ax_hav R d KC KS kc ks) (hz : ax_sz st ≤ 8) (h : decode cc pc = .ok (.invokespecial idx, 3))
    (kk : ∀ (r : Option ax_V) (M' : ax_Mm), Qs r M' → ax_J own cc nL scr R p0 Q (kc + KC) (ks + KS) (pc + 3) la (r.toList ++ st) M') : ax_J own cc nL scr R p0 Q kc ks pc la (av.reverse ++ .inr (.inr (some (f, o))) :: st) M := by
  intro p l e s m args below meth c N0 D QQ ad0 C hret ad ls rs H locs Z L S
  obtain ⟨r1, r2, rfl, S1, S2⟩ := ax_st_app S
  have S3 := ax_st_rev S1
  rw [List.reverse_reverse] at S3
  obtain ⟨r3, rfl, hm, S4⟩ := ax_st_r S2
  have hts := C.2.2.2.2.1
  refine ax_goon (aa := (Value.ref (ad f o) :: r1.reverse).toArray) C hret Z L S4 ?_ kk
  obtain ⟨cellB, hcB, hoB, hclB⟩ := ax_rcv Z.2.2.1 hm ho hci hq
  obtain ⟨kB, hkB, -⟩ := Vm.findClass_spec hclB
  obtain ⟨mk, methM, hnamed, hmethM, hstM, habM⟩ := Cond.instanceMethod_spec (hts _ hin)
  obtain ⟨methM', cM, hmethM', -, -, -, -, -, -, hsigM⟩ := Cond.code_spec hnamed (hts _ hy.1)
  cases hmethM.symm.trans hmethM'
  obtain ⟨ps, dk, kp, hps, hdk, hkp, hsuper, -, -, hnid⟩ := Cond.superclass_spec C.2.2.2.1 (hts _ hsu)
  obtain ⟨ps2, dk2, kp2, hps2, hdk2, hkp2, hsuper2, -, -, -⟩ := Cond.superclass_spec hps (hts _ hsu2)
  have hpm : ps2 = mk.cls := Option.some.inj (hps2.symm.trans (findClass_of_methodNamed hnamed))
  have hsub : s.vm.isSubclass ps mk.cls = true := by rw [← hpm]; exact ax_sub2 hdk2 hsuper2
  have hgi : GoodIn ax_GT (.code ⟨owner, x.name, x.desc⟩ cY nY rY :: ax_GT) := by
    refine ax_gin fun w hw => ?_
    rcases List.mem_cons.mp hw with rfl | hw
    · exact hy.1
    · exact hw
  have hP := ax_pre (rv := Value.ref (ad f o) :: r1.reverse) C Z
  have hK : Back l R p e below s args ⟨owner, x.name, x.desc⟩ 3 8 (PreOf R KC KS (ax_Pc D ad N0 M (Value.ref (ad f o) :: r1.reverse))) (PostOf (ax_Qc D ad N0 M Qs) KC KS (fun q => N0 ≤ q)) := back_of (bytes := cY) (maxL := nY) (ret := rY) (hs l D ad N0 (.ref (ad f o) :: r1.reverse) ⟨⟨hm, rfl⟩, S3⟩) ax_blind rfl rfl hR.1 (by have := hR.2.1; have := hy.2.2.2.2; show 8 + (nY + 11) + 64 * d ≤ R.locals; omega) (pay_in hts hgi) List.mem_cons_self (fun a' U hW => word_at hW (Or.inl (by first | rfl | simp [Cond.onTables, Cond.keeps, Cond.steady])) (hts _ hy.2.1))
  have hlen : r1.reverse.length = av.length := ax_st_len S3
  intro T hT X
  obtain ⟨vm₁, X₁, hstep₁⟩ := X.invokespecialUp C.1 C.2.2.2.1 (hts _ hl) (hts _ hsm) hnamed hmethM hstM habM hne hdk hnid hps hsuper hsub (a := ad f o) (cell := cellB) (by rw [hT]; exact hcB)
    (fun z h => by rw [h] at hoB; cases hoB) hkB (g := F0 m pc ls (r1 ++ .ref (ad f o) :: r3)) rfl (argsL := r1.reverse) (rest := r3) (by
      have h2 := hy.2.2.2.1
      rw [hsigM] at h2
      rw [hlen]
      exact (Option.some.inj h2).symm) (by simp) (by rw [C.2.1]; exact h)
  obtain ⟨v, B, X', hpost, hsteps⟩ := hK m meth c ⟨T.setVm vm₁, locs, kc, ks⟩ { F0 m pc ls (r1 ++ .ref (ad f o) :: r3) with stack := r3 } (.invokespecial idx) mk (Value.ref (ad f o) :: r1.reverse).toArray X₁ rfl (by rw [C.2.2.1]; exact L.2.choose_spec.1.1) (by rw [C.2.1]; exact h) (by
      have := ax_st_sz S4
      simp [JFrame.monitorRoom]
      omega) (X₁.named hnamed) ⟨hR.2.2.1, hR.2.2.2, hP (T.setVm vm₁) hT X₁.warmed⟩
  obtain ⟨g', mk', t, L', e1, e2, hq', h1, hL, h2, h3⟩ := hpost
  obtain ⟨U', l2, c2, s2⟩ := B
  dsimp only [Pt.U, Pt.locs, Pt.cells, Pt.slots] at X' e1 e2 h1 h2 h3 hsteps
  subst h1
  subst h2
  subst h3
  exact ⟨v, (T.setVm vm₁).calling g' mk' (Value.ref (ad f o) :: r1.reverse).toArray, t, U', L', hT, X', hL, e1, e2, hq', fun target hh => hstep₁ _ (by rw [doInvoke_state]; exact hsteps.trans hh)⟩
end AP
set_option maxRecDepth 100000 in
set_option maxHeartbeats 4000000 in
theorem cp_X0_kind (ci : Nat) (q9 : vw_C) (hq9 : vwCl[ci]? = some q9) (o : Int) (P : Nat → Int → Prop) (g : Nat → Int → Int → Int) (r0 : Nat → Int → Int → Option (Nat × Int)) (n : Nat → Int → Int) (hc9 : n 5 o = (ci : Int)) (h4 : n 500 o = 4) : ax_S yX0_kind cX0_kind 1 (some FieldType.int) 0 0 0 [.inr (.inr (some (5, o)))] (P, g, r0, n) (fun r M' => r = some (.inl (0)) ∧ M' = (P, g, r0, n)) := by
  refine ax_S_of (own := 0) (by decide) rfl (fun h => absurd h (by decide)) rfl (Nat.le_of_ble_eq_true rfl) ?_
  change ax_J _ _ _ _ _ _ _ _ _ _ [some (.inr (.inr (some (5, o))))] _ _
  refine aj_run (C := True) (pc' := 1) (la' := [some (.inr (.inr (some (5, o))))]) (st' := [.inl 0]) (M' := (P, g, r0, n)) ok_X0_kind true 1 rfl trivial ?_
  refine aj_ret (r := some (.inl 0)) (ax_dec2 (i := .ireturn) (n := 1) ok_X0_kind rfl) ⟨?_, ?_, by decide, by decide⟩ rfl
  · exact ⟨rfl, rfl⟩
  · exact ax_ro_i

set_option maxRecDepth 100000 in
set_option maxHeartbeats 4000000 in
theorem cp_X7_kind (ci : Nat) (q9 : vw_C) (hq9 : vwCl[ci]? = some q9) (o : Int) (P : Nat → Int → Prop) (g : Nat → Int → Int → Int) (r0 : Nat → Int → Int → Option (Nat × Int)) (n : Nat → Int → Int) (hc9 : n 5 o = (ci : Int)) (h4 : n 500 o = 4) : ax_S yX7_kind cX7_kind 1 (some FieldType.int) 0 0 0 [.inr (.inr (some (5, o)))] (P, g, r0, n) (fun r M' => r = some (.inl (1)) ∧ M' = (P, g, r0, n)) := by
  refine ax_S_of (own := 7) (by decide) rfl (fun h => absurd h (by decide)) rfl (Nat.le_of_ble_eq_true rfl) ?_
  change ax_J _ _ _ _ _ _ _ _ _ _ [some (.inr (.inr (some (5, o))))] _ _
  refine aj_run (C := True) (pc' := 1) (la' := [some (.inr (.inr (some (5, o))))]) (st' := [.inl 1]) (M' := (P, g, r0, n)) ok_X7_kind true 1 rfl trivial ?_
  refine aj_ret (r := some (.inl 1)) (ax_dec2 (i := .ireturn) (n := 1) ok_X7_kind rfl) ⟨?_, ?_, by decide, by decide⟩ rfl
  · exact ⟨rfl, rfl⟩
  · exact ax_ro_i

set_option maxRecDepth 100000 in
set_option maxHeartbeats 4000000 in
theorem cp_X6_kind (ci : Nat) (q9 : vw_C) (hq9 : vwCl[ci]? = some q9) (o : Int) (P : Nat → Int → Prop) (g : Nat → Int → Int → Int) (r0 : Nat → Int → Int → Option (Nat × Int)) (n : Nat → Int → Int) (hc9 : n 5 o = (ci : Int)) (h4 : n 500 o = 4) : ax_S yX6_kind cX6_kind 1 (some FieldType.int) 0 0 0 [.inr (.inr (some (5, o)))] (P, g, r0, n) (fun r M' => r = some (.inl (2)) ∧ M' = (P, g, r0, n)) := by
  refine ax_S_of (own := 6) (by decide) rfl (fun h => absurd h (by decide)) rfl (Nat.le_of_ble_eq_true rfl) ?_
  change ax_J _ _ _ _ _ _ _ _ _ _ [some (.inr (.inr (some (5, o))))] _ _
  refine aj_run (C := True) (pc' := 1) (la' := [some (.inr (.inr (some (5, o))))]) (st' := [.inl 2]) (M' := (P, g, r0, n)) ok_X6_kind true 1 rfl trivial ?_
  refine aj_ret (r := some (.inl 2)) (ax_dec2 (i := .ireturn) (n := 1) ok_X6_kind rfl) ⟨?_, ?_, by decide, by decide⟩ rfl
  · exact ⟨rfl, rfl⟩
  · exact ax_ro_i

set_option maxRecDepth 100000 in
set_option maxHeartbeats 4000000 in
theorem cp_X9_kind (ci : Nat) (q9 : vw_C) (hq9 : vwCl[ci]? = some q9) (o : Int) (P : Nat → Int → Prop) (g : Nat → Int → Int → Int) (r0 : Nat → Int → Int → Option (Nat × Int)) (n : Nat → Int → Int) (hc9 : n 5 o = (ci : Int)) (h4 : n 500 o = 4) : ax_S yX9_kind cX9_kind 1 (some FieldType.int) 0 0 0 [.inr (.inr (some (5, o)))] (P, g, r0, n) (fun r M' => r = some (.inl (3)) ∧ M' = (P, g, r0, n)) := by
  refine ax_S_of (own := 9) (by decide) rfl (fun h => absurd h (by decide)) rfl (Nat.le_of_ble_eq_true rfl) ?_
  change ax_J _ _ _ _ _ _ _ _ _ _ [some (.inr (.inr (some (5, o))))] _ _
  refine aj_run (C := True) (pc' := 1) (la' := [some (.inr (.inr (some (5, o))))]) (st' := [.inl 3]) (M' := (P, g, r0, n)) ok_X9_kind true 1 rfl trivial ?_
  refine aj_ret (r := some (.inl 3)) (ax_dec2 (i := .ireturn) (n := 1) ok_X9_kind rfl) ⟨?_, ?_, by decide, by decide⟩ rfl
  · exact ⟨rfl, rfl⟩
  · exact ax_ro_i

set_option maxRecDepth 100000 in
set_option maxHeartbeats 4000000 in
theorem cp_X3_kind (ci : Nat) (q9 : vw_C) (hq9 : vwCl[ci]? = some q9) (o : Int) (P : Nat → Int → Prop) (g : Nat → Int → Int → Int) (r0 : Nat → Int → Int → Option (Nat × Int)) (n : Nat → Int → Int) (hc9 : n 5 o = (ci : Int)) (h4 : n 500 o = 4) : ax_S yX3_kind cX3_kind 1 (some FieldType.int) 0 0 0 [.inr (.inr (some (5, o)))] (P, g, r0, n) (fun r M' => r = some (.inl (4)) ∧ M' = (P, g, r0, n)) := by
  refine ax_S_of (own := 3) (by decide) rfl (fun h => absurd h (by decide)) rfl (Nat.le_of_ble_eq_true rfl) ?_
  change ax_J _ _ _ _ _ _ _ _ _ _ [some (.inr (.inr (some (5, o))))] _ _
  refine aj_run (C := True) (pc' := 1) (la' := [some (.inr (.inr (some (5, o))))]) (st' := [.inl 4]) (M' := (P, g, r0, n)) ok_X3_kind true 1 rfl trivial ?_
  refine aj_ret (r := some (.inl 4)) (ax_dec2 (i := .ireturn) (n := 1) ok_X3_kind rfl) ⟨?_, ?_, by decide, by decide⟩ rfl
  · exact ⟨rfl, rfl⟩
  · exact ax_ro_i

set_option maxRecDepth 100000 in
set_option maxHeartbeats 4000000 in
theorem cp_X1_kind (ci : Nat) (q9 : vw_C) (hq9 : vwCl[ci]? = some q9) (o : Int) (P : Nat → Int → Prop) (g : Nat → Int → Int → Int) (r0 : Nat → Int → Int → Option (Nat × Int)) (n : Nat → Int → Int) (hc9 : n 5 o = (ci : Int)) (h4 : n 500 o = 4) : ax_S yX1_kind cX1_kind 1 (some FieldType.int) 0 0 0 [.inr (.inr (some (5, o)))] (P, g, r0, n) (fun r M' => r = some (.inl (5)) ∧ M' = (P, g, r0, n)) := by
  refine ax_S_of (own := 1) (by decide) rfl (fun h => absurd h (by decide)) rfl (Nat.le_of_ble_eq_true rfl) ?_
  change ax_J _ _ _ _ _ _ _ _ _ _ [some (.inr (.inr (some (5, o))))] _ _
  refine aj_run (C := True) (pc' := 1) (la' := [some (.inr (.inr (some (5, o))))]) (st' := [.inl 5]) (M' := (P, g, r0, n)) ok_X1_kind true 1 rfl trivial ?_
  refine aj_ret (r := some (.inl 5)) (ax_dec2 (i := .ireturn) (n := 1) ok_X1_kind rfl) ⟨?_, ?_, by decide, by decide⟩ rfl
  · exact ⟨rfl, rfl⟩
  · exact ax_ro_i

set_option maxRecDepth 100000 in
set_option maxHeartbeats 4000000 in
theorem cp_X0_turns (ci : Nat) (q9 : vw_C) (hq9 : vwCl[ci]? = some q9) (o : Int) (P : Nat → Int → Prop) (g : Nat → Int → Int → Int) (r0 : Nat → Int → Int → Option (Nat × Int)) (n : Nat → Int → Int) (hc9 : n 5 o = (ci : Int)) (h4 : n 500 o = 4) : ax_S yX0_turns cX0_turns 1 (some FieldType.boolean) 0 0 0 [.inr (.inr (some (5, o)))] (P, g, r0, n) (fun r M' => r = some (.inl (wTurns 0 (g 5 o 5) (g 500 o 3))) ∧ M' = (P, g, r0, n)) := by
  refine ax_S_of (own := 0) (by decide) rfl (fun h => absurd h (by decide)) rfl (Nat.le_of_ble_eq_true rfl) ?_
  change ax_J _ _ _ _ _ _ _ _ _ _ [some (.inr (.inr (some (5, o))))] _ _
  refine aj_run (C := True) (pc' := 1) (la' := [some (.inr (.inr (some (5, o))))]) (st' := [.inl 1]) (M' := (P, g, r0, n)) ok_X0_turns true 1 rfl trivial ?_
  refine aj_ret (r := some (.inl 1)) (ax_dec2 (i := .ireturn) (n := 1) ok_X0_turns rfl) ⟨?_, ?_, by decide, by decide⟩ rfl
  · exact ⟨ax_si (by unfold wTurns; (repeat first | rw [if_pos (by omega)] | rw [if_neg (by omega)] | rw [bI_t (by omega)] | rw [bI_f (by omega)]); try first | rfl | omega), rfl⟩
  · exact ax_ro_b (by first | decide | exact bI_01)

set_option maxRecDepth 100000 in
set_option maxHeartbeats 4000000 in
theorem cp_X7_turns (ci : Nat) (q9 : vw_C) (hq9 : vwCl[ci]? = some q9) (o : Int) (P : Nat → Int → Prop) (g : Nat → Int → Int → Int) (r0 : Nat → Int → Int → Option (Nat × Int)) (n : Nat → Int → Int) (hc9 : n 5 o = (ci : Int)) (h4 : n 500 o = 4) : ax_S yX7_turns cX7_turns 1 (some FieldType.boolean) 0 0 0 [.inr (.inr (some (5, o)))] (P, g, r0, n) (fun r M' => r = some (.inl (wTurns 1 (g 5 o 5) (g 500 o 3))) ∧ M' = (P, g, r0, n)) := by
  refine ax_S_of (own := 7) (by decide) rfl (fun h => absurd h (by decide)) rfl (Nat.le_of_ble_eq_true rfl) ?_
  change ax_J _ _ _ _ _ _ _ _ _ _ [some (.inr (.inr (some (5, o))))] _ _
  refine aj_run (C := True) (pc' := 1) (la' := [some (.inr (.inr (some (5, o))))]) (st' := [.inl 0]) (M' := (P, g, r0, n)) ok_X7_turns true 1 rfl trivial ?_
  refine aj_ret (r := some (.inl 0)) (ax_dec2 (i := .ireturn) (n := 1) ok_X7_turns rfl) ⟨?_, ?_, by decide, by decide⟩ rfl
  · exact ⟨ax_si (by unfold wTurns; (repeat first | rw [if_pos (by omega)] | rw [if_neg (by omega)] | rw [bI_t (by omega)] | rw [bI_f (by omega)]); try first | rfl | omega), rfl⟩
  · exact ax_ro_b (by first | decide | exact bI_01)

set_option maxRecDepth 100000 in
set_option maxHeartbeats 4000000 in
theorem cp_X9_turns (ci : Nat) (q9 : vw_C) (hq9 : vwCl[ci]? = some q9) (o : Int) (P : Nat → Int → Prop) (g : Nat → Int → Int → Int) (r0 : Nat → Int → Int → Option (Nat × Int)) (n : Nat → Int → Int) (hc9 : n 5 o = (ci : Int)) (h4 : n 500 o = 4) : ax_S yX9_turns cX9_turns 1 (some FieldType.boolean) 1 0 0 [.inr (.inr (some (5, o)))] (P, g, r0, n) (fun r M' => r = some (.inl (wTurns 3 (g 5 o 5) (g 500 o 3))) ∧ M' = (P, g, r0, n)) := by
  refine ax_S_of (own := 9) (by decide) rfl (fun h => absurd h (by decide)) rfl (Nat.le_of_ble_eq_true rfl) ?_
  change ax_J _ _ _ _ _ _ _ _ _ _ [some (.inr (.inr (some (5, o))))] _ _
  refine aj_run (C := (0 ≤ 3 ∧ 3 < n 500 o) ∧ True) (pc' := 10) (la' := [some (.inr (.inr (some (5, o))))]) (st' := [.inl (g 500 o 3), .inl (g 5 o 5)]) (M' := (P, g, r0, n)) ok_X9_turns true 6 rfl (by refine ⟨?_, trivial⟩ <;> (omega)) ?_
  refine aj_icmp_lt (tgt := 20) (ax_dec2 (i := .if_icmp .lt 10) (n := 3) ok_X9_turns rfl) (by decide) (fun c1 => ?_) (fun c1 => ?_)
  · refine aj_run (C := True) (pc' := 25) (la' := [some (.inr (.inr (some (5, o))))]) (st' := [.inl 1]) (M' := (P, g, r0, n)) ok_X9_turns true 2 rfl trivial ?_
    refine aj_ret (r := some (.inl 1)) (ax_dec2 (i := .ireturn) (n := 1) ok_X9_turns rfl) ⟨?_, ?_, by decide, by decide⟩ rfl
    · first | exact ⟨ax_si (by unfold wTurns; (repeat first | rw [if_pos (by omega)] | rw [if_neg (by omega)] | rw [bI_t (by omega)] | rw [bI_f (by omega)]); try first | rfl | omega), rfl⟩ | (exfalso; rw [show wTurns 1 (g 5 o 5) (g 500 o 3) = 0 from rfl] at *; omega)
    · exact ax_ro_b (by decide)
  · refine aj_run (C := True) (pc' := 14) (la' := [some (.inr (.inr (some (5, o))))]) (st' := [.inr (.inr (some (5, o)))]) (M' := (P, g, r0, n)) ok_X9_turns true 1 rfl trivial ?_
    refine aj_callP (av := []) (st := []) (f := 5) (o := o) (ci := ci) cal_X7_turns (by decide) lk_9_19 (ax_T7 (i := 42) (by decide +kernel) rfl) (ax_T3 (i := 59) (by decide +kernel) rfl) ins_X7_turns hq9 rfl (fun c9 _ h9 => by have z9 := h9.trans hc9; omega) (cp_X7_turns ci q9 hq9 o _ _ _ _ hc9 h4) ⟨by decide, by decide, by decide, by decide⟩ (Nat.le_of_ble_eq_true rfl) (ax_dec2 (i := .invokespecial 19) (n := 3) ok_X9_turns rfl) (fun r M' hq => ?_)
    obtain ⟨rfl, rfl⟩ := hq
    change ax_J _ _ _ _ _ _ _ _ _ 17 [some (.inr (.inr (some (5, o))))] [.inl 0] (P, g, r0, n)
    refine aj_if_eq (tgt := 24) (ax_dec2 (i := .ifCond .eq 7) (n := 3) ok_X9_turns rfl) (by decide) (fun c2 => ?_) (fun c2 => ?_)
    · refine aj_run (C := True) (pc' := 25) (la' := [some (.inr (.inr (some (5, o))))]) (st' := [.inl 0]) (M' := (P, g, r0, n)) ok_X9_turns true 1 rfl trivial ?_
      refine aj_ret (r := some (.inl 0)) (ax_dec2 (i := .ireturn) (n := 1) ok_X9_turns rfl) ⟨?_, ?_, by decide, by decide⟩ rfl
      · first | exact ⟨ax_si (by unfold wTurns; (repeat first | rw [if_pos (by omega)] | rw [if_neg (by omega)] | rw [bI_t (by omega)] | rw [bI_f (by omega)]); try first | rfl | omega), rfl⟩ | (exfalso; rw [show wTurns 1 (g 5 o 5) (g 500 o 3) = 0 from rfl] at *; omega)
      · exact ax_ro_b (by decide)
    · exact absurd c2 (by omega)

set_option maxRecDepth 100000 in
set_option maxHeartbeats 4000000 in
theorem cp_X3_turns (ci : Nat) (q9 : vw_C) (hq9 : vwCl[ci]? = some q9) (o : Int) (P : Nat → Int → Prop) (g : Nat → Int → Int → Int) (r0 : Nat → Int → Int → Option (Nat × Int)) (n : Nat → Int → Int) (hc9 : n 5 o = (ci : Int)) (h4 : n 500 o = 4) : ax_S yX3_turns cX3_turns 1 (some FieldType.boolean) 1 0 0 [.inr (.inr (some (5, o)))] (P, g, r0, n) (fun r M' => r = some (.inl (wTurns 4 (g 5 o 5) (g 500 o 3))) ∧ M' = (P, g, r0, n)) := by
  refine ax_S_of (own := 3) (by decide) rfl (fun h => absurd h (by decide)) rfl (Nat.le_of_ble_eq_true rfl) ?_
  change ax_J _ _ _ _ _ _ _ _ _ _ [some (.inr (.inr (some (5, o))))] _ _
  refine aj_run (C := (0 ≤ 3 ∧ 3 < n 500 o) ∧ True) (pc' := 10) (la' := [some (.inr (.inr (some (5, o))))]) (st' := [.inl (g 500 o 3), .inl (g 5 o 5)]) (M' := (P, g, r0, n)) ok_X3_turns true 6 rfl (by refine ⟨?_, trivial⟩ <;> (omega)) ?_
  refine aj_icmp_eq (tgt := 24) (ax_dec2 (i := .if_icmp .eq 14) (n := 3) ok_X3_turns rfl) (by decide) (fun c1 => ?_) (fun c1 => ?_)
  · refine aj_run (C := True) (pc' := 25) (la' := [some (.inr (.inr (some (5, o))))]) (st' := [.inl 0]) (M' := (P, g, r0, n)) ok_X3_turns true 1 rfl trivial ?_
    refine aj_ret (r := some (.inl 0)) (ax_dec2 (i := .ireturn) (n := 1) ok_X3_turns rfl) ⟨?_, ?_, by decide, by decide⟩ rfl
    · first | exact ⟨ax_si (by unfold wTurns; (repeat first | rw [if_pos (by omega)] | rw [if_neg (by omega)] | rw [bI_t (by omega)] | rw [bI_f (by omega)]); try first | rfl | omega), rfl⟩ | (exfalso; rw [show wTurns 0 (g 5 o 5) (g 500 o 3) = 1 from rfl] at *; omega)
    · exact ax_ro_b (by decide)
  · refine aj_run (C := True) (pc' := 14) (la' := [some (.inr (.inr (some (5, o))))]) (st' := [.inr (.inr (some (5, o)))]) (M' := (P, g, r0, n)) ok_X3_turns true 1 rfl trivial ?_
    refine aj_callPU (x := ⟨"AntsTurn$Shy", "turns", "()Z"⟩) (owner := "AntsTurn$Ant") (av := []) (st := []) (f := 5) (o := o) (ci := ci) cal_X0_turns (by decide) lk_3_19 (ax_T4 (i := 24) (by decide +kernel) rfl) (ax_T3 (i := 79) (by decide +kernel) rfl) (ax_T3 (i := 39) (by decide +kernel) rfl) ins_X0_turns hq9 rfl (fun c9 _ h9 => by have z9 := h9.trans hc9; omega) (cp_X0_turns ci q9 hq9 o _ _ _ _ hc9 h4) ⟨by decide, by decide, by decide, by decide⟩ (Nat.le_of_ble_eq_true rfl) (ax_dec2 (i := .invokespecial 19) (n := 3) ok_X3_turns rfl) (fun r M' hq => ?_)
    obtain ⟨rfl, rfl⟩ := hq
    change ax_J _ _ _ _ _ _ _ _ _ 17 [some (.inr (.inr (some (5, o))))] [.inl 1] (P, g, r0, n)
    refine aj_if_eq (tgt := 24) (ax_dec2 (i := .ifCond .eq 7) (n := 3) ok_X3_turns rfl) (by decide) (fun c2 => ?_) (fun c2 => ?_)
    · exact absurd c2 (by omega)
    · refine aj_run (C := True) (pc' := 25) (la' := [some (.inr (.inr (some (5, o))))]) (st' := [.inl 1]) (M' := (P, g, r0, n)) ok_X3_turns true 2 rfl trivial ?_
      refine aj_ret (r := some (.inl 1)) (ax_dec2 (i := .ireturn) (n := 1) ok_X3_turns rfl) ⟨?_, ?_, by decide, by decide⟩ rfl
      · first | exact ⟨ax_si (by unfold wTurns; (repeat first | rw [if_pos (by omega)] | rw [if_neg (by omega)] | rw [bI_t (by omega)] | rw [bI_f (by omega)]); try first | rfl | omega), rfl⟩ | (exfalso; rw [show wTurns 0 (g 5 o 5) (g 500 o 3) = 1 from rfl] at *; omega)
      · exact ax_ro_b (by decide)

set_option maxRecDepth 100000 in
set_option maxHeartbeats 4000000 in
theorem cp_X0_returns (ci : Nat) (q9 : vw_C) (hq9 : vwCl[ci]? = some q9) (o : Int) (P : Nat → Int → Prop) (g : Nat → Int → Int → Int) (r0 : Nat → Int → Int → Option (Nat × Int)) (n : Nat → Int → Int) (hc9 : n 5 o = (ci : Int)) (h4 : n 500 o = 4) : ax_S yX0_returns cX0_returns 1 (some FieldType.boolean) 0 0 0 [.inr (.inr (some (5, o)))] (P, g, r0, n) (fun r M' => r = some (.inl (wBacks 0 (g 5 o 7) (g 500 o 3))) ∧ M' = (P, g, r0, n)) := by
  refine ax_S_of (own := 0) (by decide) rfl (fun h => absurd h (by decide)) rfl (Nat.le_of_ble_eq_true rfl) ?_
  change ax_J _ _ _ _ _ _ _ _ _ _ [some (.inr (.inr (some (5, o))))] _ _
  refine aj_run (C := True) (pc' := 1) (la' := [some (.inr (.inr (some (5, o))))]) (st' := [.inl 0]) (M' := (P, g, r0, n)) ok_X0_returns true 1 rfl trivial ?_
  refine aj_ret (r := some (.inl 0)) (ax_dec2 (i := .ireturn) (n := 1) ok_X0_returns rfl) ⟨?_, ?_, by decide, by decide⟩ rfl
  · exact ⟨ax_si (by unfold wBacks; (repeat first | rw [if_pos (by omega)] | rw [if_neg (by omega)] | rw [bI_t (by omega)] | rw [bI_f (by omega)]); try first | rfl | omega), rfl⟩
  · exact ax_ro_b (by first | decide | exact bI_01)

set_option maxRecDepth 100000 in
set_option maxHeartbeats 4000000 in
theorem cp_X6_returns (ci : Nat) (q9 : vw_C) (hq9 : vwCl[ci]? = some q9) (o : Int) (P : Nat → Int → Prop) (g : Nat → Int → Int → Int) (r0 : Nat → Int → Int → Option (Nat × Int)) (n : Nat → Int → Int) (hc9 : n 5 o = (ci : Int)) (h4 : n 500 o = 4) : ax_S yX6_returns cX6_returns 1 (some FieldType.boolean) 0 0 0 [.inr (.inr (some (5, o)))] (P, g, r0, n) (fun r M' => r = some (.inl (wBacks 2 (g 5 o 7) (g 500 o 3))) ∧ M' = (P, g, r0, n)) := by
  refine ax_S_of (own := 6) (by decide) rfl (fun h => absurd h (by decide)) rfl (Nat.le_of_ble_eq_true rfl) ?_
  change ax_J _ _ _ _ _ _ _ _ _ _ [some (.inr (.inr (some (5, o))))] _ _
  refine aj_run (C := (0 ≤ 3 ∧ 3 < n 500 o) ∧ True) (pc' := 10) (la' := [some (.inr (.inr (some (5, o))))]) (st' := [.inl (g 500 o 3), .inl (g 5 o 7)]) (M' := (P, g, r0, n)) ok_X6_returns true 6 rfl (by refine ⟨?_, trivial⟩ <;> (omega)) ?_
  refine aj_icmp_ge (tgt := 17) (ax_dec2 (i := .if_icmp .ge 7) (n := 3) ok_X6_returns rfl) (by decide) (fun c1 => ?_) (fun c1 => ?_)
  · refine aj_run (C := True) (pc' := 18) (la' := [some (.inr (.inr (some (5, o))))]) (st' := [.inl 0]) (M' := (P, g, r0, n)) ok_X6_returns true 1 rfl trivial ?_
    refine aj_ret (r := some (.inl 0)) (ax_dec2 (i := .ireturn) (n := 1) ok_X6_returns rfl) ⟨?_, ?_, by decide, by decide⟩ rfl
    · exact ⟨ax_si (by unfold wBacks; (repeat first | rw [if_pos (by omega)] | rw [if_neg (by omega)] | rw [bI_t (by omega)] | rw [bI_f (by omega)]); try first | rfl | omega), rfl⟩
    · exact ax_ro_b (by first | decide | exact bI_01)
  · refine aj_run (C := True) (pc' := 18) (la' := [some (.inr (.inr (some (5, o))))]) (st' := [.inl 1]) (M' := (P, g, r0, n)) ok_X6_returns true 2 rfl trivial ?_
    refine aj_ret (r := some (.inl 1)) (ax_dec2 (i := .ireturn) (n := 1) ok_X6_returns rfl) ⟨?_, ?_, by decide, by decide⟩ rfl
    · exact ⟨ax_si (by unfold wBacks; (repeat first | rw [if_pos (by omega)] | rw [if_neg (by omega)] | rw [bI_t (by omega)] | rw [bI_f (by omega)]); try first | rfl | omega), rfl⟩
    · exact ax_ro_b (by first | decide | exact bI_01)

set_option maxRecDepth 100000 in
set_option maxHeartbeats 4000000 in
theorem cp_X3_returns (ci : Nat) (q9 : vw_C) (hq9 : vwCl[ci]? = some q9) (o : Int) (P : Nat → Int → Prop) (g : Nat → Int → Int → Int) (r0 : Nat → Int → Int → Option (Nat × Int)) (n : Nat → Int → Int) (hc9 : n 5 o = (ci : Int)) (h4 : n 500 o = 4) : ax_S yX3_returns cX3_returns 1 (some FieldType.boolean) 1 0 0 [.inr (.inr (some (5, o)))] (P, g, r0, n) (fun r M' => r = some (.inl (wBacks 4 (g 5 o 7) (g 500 o 3))) ∧ M' = (P, g, r0, n)) := by
  refine ax_S_of (own := 3) (by decide) rfl (fun h => absurd h (by decide)) rfl (Nat.le_of_ble_eq_true rfl) ?_
  change ax_J _ _ _ _ _ _ _ _ _ _ [some (.inr (.inr (some (5, o))))] _ _
  refine aj_run (C := True) (pc' := 4) (la' := [some (.inr (.inr (some (5, o))))]) (st' := [.inl (g 5 o 7)]) (M' := (P, g, r0, n)) ok_X3_returns true 2 rfl trivial ?_
  refine aj_if_eq (tgt := 14) (ax_dec2 (i := .ifCond .eq 10) (n := 3) ok_X3_returns rfl) (by decide) (fun c1 => ?_) (fun c1 => ?_)
  · refine aj_run (C := True) (pc' := 19) (la' := [some (.inr (.inr (some (5, o))))]) (st' := [.inl 1]) (M' := (P, g, r0, n)) ok_X3_returns true 2 rfl trivial ?_
    refine aj_ret (r := some (.inl 1)) (ax_dec2 (i := .ireturn) (n := 1) ok_X3_returns rfl) ⟨?_, ?_, by decide, by decide⟩ rfl
    · exact ⟨ax_si (by unfold wBacks; first | (rw [if_neg (by decide), if_pos (by decide)]; first | rw [bI_t (by omega)] | rw [bI_f (by omega)])), rfl⟩
    · exact ax_ro_b (by decide)
  · refine aj_run (C := True) (pc' := 8) (la' := [some (.inr (.inr (some (5, o))))]) (st' := [.inr (.inr (some (5, o)))]) (M' := (P, g, r0, n)) ok_X3_returns true 1 rfl trivial ?_
    refine aj_callP (av := []) (st := []) (f := 5) (o := o) (ci := ci) cal_X6_returns (by decide) lk_3_26 (ax_T7 (i := 43) (by decide +kernel) rfl) (ax_T3 (i := 79) (by decide +kernel) rfl) ins_X6_returns hq9 rfl (fun c9 _ h9 => by have z9 := h9.trans hc9; omega) (cp_X6_returns ci q9 hq9 o _ _ _ _ hc9 h4) ⟨by decide, by decide, by decide, by decide⟩ (Nat.le_of_ble_eq_true rfl) (ax_dec2 (i := .invokespecial 26) (n := 3) ok_X3_returns rfl) (fun r M' hq => ?_)
    obtain ⟨rfl, rfl⟩ := hq
    change ax_J _ _ _ _ _ _ _ _ _ 11 [some (.inr (.inr (some (5, o))))] [.inl (bI (g 5 o 7 < g 500 o 3))] (P, g, r0, n)
    refine aj_if_eq (tgt := 18) (ax_dec2 (i := .ifCond .eq 7) (n := 3) ok_X3_returns rfl) (by decide) (fun c2 => ?_) (fun c2 => ?_)
    · replace c2 := bI_e0 c2
      refine aj_run (C := True) (pc' := 19) (la' := [some (.inr (.inr (some (5, o))))]) (st' := [.inl 0]) (M' := (P, g, r0, n)) ok_X3_returns true 1 rfl trivial ?_
      refine aj_ret (r := some (.inl 0)) (ax_dec2 (i := .ireturn) (n := 1) ok_X3_returns rfl) ⟨?_, ?_, by decide, by decide⟩ rfl
      · exact ⟨ax_si (by unfold wBacks; first | (rw [if_neg (by decide), if_pos (by decide)]; first | rw [bI_t (by omega)] | rw [bI_f (by omega)])), rfl⟩
      · exact ax_ro_b (by decide)
    · replace c2 := bI_n0 c2
      refine aj_run (C := True) (pc' := 19) (la' := [some (.inr (.inr (some (5, o))))]) (st' := [.inl 1]) (M' := (P, g, r0, n)) ok_X3_returns true 2 rfl trivial ?_
      refine aj_ret (r := some (.inl 1)) (ax_dec2 (i := .ireturn) (n := 1) ok_X3_returns rfl) ⟨?_, ?_, by decide, by decide⟩ rfl
      · exact ⟨ax_si (by unfold wBacks; first | (rw [if_neg (by decide), if_pos (by decide)]; first | rw [bI_t (by omega)] | rw [bI_f (by omega)])), rfl⟩
      · exact ax_ro_b (by decide)

set_option maxRecDepth 100000 in
set_option maxHeartbeats 4000000 in
theorem cp_X1_returns (ci : Nat) (q9 : vw_C) (hq9 : vwCl[ci]? = some q9) (o : Int) (P : Nat → Int → Prop) (g : Nat → Int → Int → Int) (r0 : Nat → Int → Int → Option (Nat × Int)) (n : Nat → Int → Int) (hc9 : n 5 o = (ci : Int)) (h4 : n 500 o = 4) : ax_S yX1_returns cX1_returns 1 (some FieldType.boolean) 1 0 0 [.inr (.inr (some (5, o)))] (P, g, r0, n) (fun r M' => r = some (.inl (wBacks 5 (g 5 o 7) (g 500 o 3))) ∧ M' = (P, g, r0, n)) := by
  refine ax_S_of (own := 1) (by decide) rfl (fun h => absurd h (by decide)) rfl (Nat.le_of_ble_eq_true rfl) ?_
  change ax_J _ _ _ _ _ _ _ _ _ _ [some (.inr (.inr (some (5, o))))] _ _
  refine aj_run (C := (0 < 2) ∧ True) (pc' := 6) (la' := [some (.inr (.inr (some (5, o))))]) (st' := [.inl (Int.tmod (g 5 o 7) 2)]) (M' := (P, g, r0, n)) ok_X1_returns true 4 rfl (by refine ⟨?_, trivial⟩ <;> (omega)) ?_
  refine aj_if_ne (tgt := 20) (ax_dec2 (i := .ifCond .ne 14) (n := 3) ok_X1_returns rfl) (by decide) (fun c1 => ?_) (fun c1 => ?_)
  · refine aj_run (C := True) (pc' := 21) (la' := [some (.inr (.inr (some (5, o))))]) (st' := [.inl 0]) (M' := (P, g, r0, n)) ok_X1_returns true 1 rfl trivial ?_
    refine aj_ret (r := some (.inl 0)) (ax_dec2 (i := .ireturn) (n := 1) ok_X1_returns rfl) ⟨?_, ?_, by decide, by decide⟩ rfl
    · exact ⟨ax_si (by unfold wBacks; first | (rw [if_neg (by decide), if_neg (by decide), if_pos (by decide)]; first | rw [bI_t (by omega)] | rw [bI_f (by omega)])), rfl⟩
    · exact ax_ro_b (by decide)
  · refine aj_run (C := True) (pc' := 10) (la' := [some (.inr (.inr (some (5, o))))]) (st' := [.inr (.inr (some (5, o)))]) (M' := (P, g, r0, n)) ok_X1_returns true 1 rfl trivial ?_
    refine aj_callP (av := []) (st := []) (f := 5) (o := o) (ci := ci) cal_X6_returns (by decide) lk_1_15 (ax_T7 (i := 43) (by decide +kernel) rfl) (ax_T3 (i := 99) (by decide +kernel) rfl) ins_X6_returns hq9 rfl (fun c9 _ h9 => by have z9 := h9.trans hc9; omega) (cp_X6_returns ci q9 hq9 o _ _ _ _ hc9 h4) ⟨by decide, by decide, by decide, by decide⟩ (Nat.le_of_ble_eq_true rfl) (ax_dec2 (i := .invokespecial 15) (n := 3) ok_X1_returns rfl) (fun r M' hq => ?_)
    obtain ⟨rfl, rfl⟩ := hq
    change ax_J _ _ _ _ _ _ _ _ _ 13 [some (.inr (.inr (some (5, o))))] [.inl (bI (g 5 o 7 < g 500 o 3))] (P, g, r0, n)
    refine aj_if_eq (tgt := 20) (ax_dec2 (i := .ifCond .eq 7) (n := 3) ok_X1_returns rfl) (by decide) (fun c2 => ?_) (fun c2 => ?_)
    · replace c2 := bI_e0 c2
      refine aj_run (C := True) (pc' := 21) (la' := [some (.inr (.inr (some (5, o))))]) (st' := [.inl 0]) (M' := (P, g, r0, n)) ok_X1_returns true 1 rfl trivial ?_
      refine aj_ret (r := some (.inl 0)) (ax_dec2 (i := .ireturn) (n := 1) ok_X1_returns rfl) ⟨?_, ?_, by decide, by decide⟩ rfl
      · exact ⟨ax_si (by unfold wBacks; first | (rw [if_neg (by decide), if_neg (by decide), if_pos (by decide)]; first | rw [bI_t (by omega)] | rw [bI_f (by omega)])), rfl⟩
      · exact ax_ro_b (by decide)
    · replace c2 := bI_n0 c2
      refine aj_run (C := True) (pc' := 21) (la' := [some (.inr (.inr (some (5, o))))]) (st' := [.inl 1]) (M' := (P, g, r0, n)) ok_X1_returns true 2 rfl trivial ?_
      refine aj_ret (r := some (.inl 1)) (ax_dec2 (i := .ireturn) (n := 1) ok_X1_returns rfl) ⟨?_, ?_, by decide, by decide⟩ rfl
      · exact ⟨ax_si (by unfold wBacks; first | (rw [if_neg (by decide), if_neg (by decide), if_pos (by decide)]; first | rw [bI_t (by omega)] | rw [bI_f (by omega)])), rfl⟩
      · exact ax_ro_b (by decide)

set_option maxRecDepth 100000 in
set_option maxHeartbeats 4000000 in
theorem cp_X0_weighs (ci : Nat) (q9 : vw_C) (hq9 : vwCl[ci]? = some q9) (o : Int) (P : Nat → Int → Prop) (g : Nat → Int → Int → Int) (r0 : Nat → Int → Int → Option (Nat × Int)) (n : Nat → Int → Int) (hc9 : n 5 o = (ci : Int)) (h4 : n 500 o = 4) (hg : 0 ≤ g 500 o 3 ∧ g 500 o 3 ≤ 9) : ax_S yX0_weighs cX0_weighs 1 (some FieldType.int) 0 0 0 [.inr (.inr (some (5, o)))] (P, g, r0, n) (fun r M' => r = some (.inl (wWeighs 0 (g 500 o 3))) ∧ M' = (P, g, r0, n)) := by
  refine ax_S_of (own := 0) (by decide) rfl (fun h => absurd h (by decide)) rfl (Nat.le_of_ble_eq_true rfl) ?_
  change ax_J _ _ _ _ _ _ _ _ _ _ [some (.inr (.inr (some (5, o))))] _ _
  refine aj_run (C := (0 ≤ 3 ∧ 3 < n 500 o) ∧ True) (pc' := 6) (la' := [some (.inr (.inr (some (5, o))))]) (st' := [.inl (g 500 o 3)]) (M' := (P, g, r0, n)) ok_X0_weighs true 4 rfl (by refine ⟨?_, trivial⟩ <;> (omega)) ?_
  refine aj_ret (r := some (.inl (g 500 o 3))) (ax_dec2 (i := .ireturn) (n := 1) ok_X0_weighs rfl) ⟨?_, ?_, by decide, by decide⟩ rfl
  · exact ⟨ax_si (by unfold wWeighs; (repeat first | rw [if_pos (by omega)] | rw [if_neg (by omega)] | rw [bI_t (by omega)] | rw [bI_f (by omega)]); try first | rfl | omega), rfl⟩
  · exact ax_ro_i

set_option maxRecDepth 100000 in
set_option maxHeartbeats 4000000 in
theorem cp_X7_weighs (ci : Nat) (q9 : vw_C) (hq9 : vwCl[ci]? = some q9) (o : Int) (P : Nat → Int → Prop) (g : Nat → Int → Int → Int) (r0 : Nat → Int → Int → Option (Nat × Int)) (n : Nat → Int → Int) (hc9 : n 5 o = (ci : Int)) (h4 : n 500 o = 4) (hg : 0 ≤ g 500 o 3 ∧ g 500 o 3 ≤ 9) : ax_S yX7_weighs cX7_weighs 1 (some FieldType.int) 1 0 0 [.inr (.inr (some (5, o)))] (P, g, r0, n) (fun r M' => r = some (.inl (wWeighs 1 (g 500 o 3))) ∧ M' = (P, g, r0, n)) := by
  refine ax_S_of (own := 7) (by decide) rfl (fun h => absurd h (by decide)) rfl (Nat.le_of_ble_eq_true rfl) ?_
  change ax_J _ _ _ _ _ _ _ _ _ _ [some (.inr (.inr (some (5, o))))] _ _
  refine aj_run (C := True) (pc' := 1) (la' := [some (.inr (.inr (some (5, o))))]) (st' := [.inr (.inr (some (5, o)))]) (M' := (P, g, r0, n)) ok_X7_weighs true 1 rfl trivial ?_
  refine aj_callP (av := []) (st := []) (f := 5) (o := o) (ci := ci) cal_X0_weighs (by decide) lk_7_7 (ax_T3 (i := 152) (by decide +kernel) rfl) (ax_T3 (i := 19) (by decide +kernel) rfl) ins_X0_weighs hq9 rfl (fun c9 _ h9 => by have z9 := h9.trans hc9; omega) (cp_X0_weighs ci q9 hq9 o _ _ _ _ hc9 h4 hg) ⟨by decide, by decide, by decide, by decide⟩ (Nat.le_of_ble_eq_true rfl) (ax_dec2 (i := .invokespecial 7) (n := 3) ok_X7_weighs rfl) (fun r M' hq => ?_)
  obtain ⟨rfl, rfl⟩ := hq
  change ax_J _ _ _ _ _ _ _ _ _ 4 [some (.inr (.inr (some (5, o))))] [.inl (g 500 o 3)] (P, g, r0, n)
  refine aj_run (C := (-2147483648 ≤ (g 500 o 3) + 1 ∧ (g 500 o 3) + 1 ≤ 2147483647) ∧ True) (pc' := 6) (la' := [some (.inr (.inr (some (5, o))))]) (st' := [.inl ((g 500 o 3) + 1)]) (M' := (P, g, r0, n)) ok_X7_weighs true 2 rfl (by refine ⟨?_, trivial⟩ <;> ((have td9 := td2 hg; omega))) ?_
  refine aj_ret (r := some (.inl ((g 500 o 3) + 1))) (ax_dec2 (i := .ireturn) (n := 1) ok_X7_weighs rfl) ⟨?_, ?_, by decide, by decide⟩ rfl
  · exact ⟨rfl, rfl⟩
  · exact ax_ro_i

set_option maxRecDepth 100000 in
set_option maxHeartbeats 4000000 in
theorem cp_X6_weighs (ci : Nat) (q9 : vw_C) (hq9 : vwCl[ci]? = some q9) (o : Int) (P : Nat → Int → Prop) (g : Nat → Int → Int → Int) (r0 : Nat → Int → Int → Option (Nat × Int)) (n : Nat → Int → Int) (hc9 : n 5 o = (ci : Int)) (h4 : n 500 o = 4) (hg : 0 ≤ g 500 o 3 ∧ g 500 o 3 ≤ 9) : ax_S yX6_weighs cX6_weighs 1 (some FieldType.int) 1 0 0 [.inr (.inr (some (5, o)))] (P, g, r0, n) (fun r M' => r = some (.inl (wWeighs 2 (g 500 o 3))) ∧ M' = (P, g, r0, n)) := by
  refine ax_S_of (own := 6) (by decide) rfl (fun h => absurd h (by decide)) rfl (Nat.le_of_ble_eq_true rfl) ?_
  change ax_J _ _ _ _ _ _ _ _ _ _ [some (.inr (.inr (some (5, o))))] _ _
  refine aj_run (C := True) (pc' := 1) (la' := [some (.inr (.inr (some (5, o))))]) (st' := [.inr (.inr (some (5, o)))]) (M' := (P, g, r0, n)) ok_X6_weighs true 1 rfl trivial ?_
  refine aj_callP (av := []) (st := []) (f := 5) (o := o) (ci := ci) cal_X0_weighs (by decide) lk_6_19 (ax_T3 (i := 152) (by decide +kernel) rfl) (ax_T3 (i := 39) (by decide +kernel) rfl) ins_X0_weighs hq9 rfl (fun c9 _ h9 => by have z9 := h9.trans hc9; omega) (cp_X0_weighs ci q9 hq9 o _ _ _ _ hc9 h4 hg) ⟨by decide, by decide, by decide, by decide⟩ (Nat.le_of_ble_eq_true rfl) (ax_dec2 (i := .invokespecial 19) (n := 3) ok_X6_weighs rfl) (fun r M' hq => ?_)
  obtain ⟨rfl, rfl⟩ := hq
  change ax_J _ _ _ _ _ _ _ _ _ 4 [some (.inr (.inr (some (5, o))))] [.inl (g 500 o 3)] (P, g, r0, n)
  refine aj_run (C := (0 < 2) ∧ True) (pc' := 6) (la' := [some (.inr (.inr (some (5, o))))]) (st' := [.inl (Int.tdiv (g 500 o 3) 2)]) (M' := (P, g, r0, n)) ok_X6_weighs true 2 rfl (by refine ⟨?_, trivial⟩ <;> ((have td9 := td2 hg; omega))) ?_
  refine aj_ret (r := some (.inl (Int.tdiv (g 500 o 3) 2))) (ax_dec2 (i := .ireturn) (n := 1) ok_X6_weighs rfl) ⟨?_, ?_, by decide, by decide⟩ rfl
  · exact ⟨rfl, rfl⟩
  · exact ax_ro_i

set_option maxRecDepth 100000 in
set_option maxHeartbeats 4000000 in
theorem cp_X9_weighs (ci : Nat) (q9 : vw_C) (hq9 : vwCl[ci]? = some q9) (o : Int) (P : Nat → Int → Prop) (g : Nat → Int → Int → Int) (r0 : Nat → Int → Int → Option (Nat × Int)) (n : Nat → Int → Int) (hc9 : n 5 o = (ci : Int)) (h4 : n 500 o = 4) (hg : 0 ≤ g 500 o 3 ∧ g 500 o 3 ≤ 9) : ax_S yX9_weighs cX9_weighs 1 (some FieldType.int) 2 0 0 [.inr (.inr (some (5, o)))] (P, g, r0, n) (fun r M' => r = some (.inl (wWeighs 3 (g 500 o 3))) ∧ M' = (P, g, r0, n)) := by
  refine ax_S_of (own := 9) (by decide) rfl (fun h => absurd h (by decide)) rfl (Nat.le_of_ble_eq_true rfl) ?_
  change ax_J _ _ _ _ _ _ _ _ _ _ [some (.inr (.inr (some (5, o))))] _ _
  refine aj_run (C := True) (pc' := 2) (la' := [some (.inr (.inr (some (5, o))))]) (st' := [.inr (.inr (some (5, o))), .inl 2]) (M' := (P, g, r0, n)) ok_X9_weighs true 2 rfl trivial ?_
  refine aj_callP (av := []) (st := [.inl 2]) (f := 5) (o := o) (ci := ci) cal_X7_weighs (by decide) lk_9_23 (ax_T7 (i := 41) (by decide +kernel) rfl) (ax_T3 (i := 59) (by decide +kernel) rfl) ins_X7_weighs hq9 rfl (fun c9 _ h9 => by have z9 := h9.trans hc9; omega) (cp_X7_weighs ci q9 hq9 o _ _ _ _ hc9 h4 hg) ⟨by decide, by decide, by decide, by decide⟩ (Nat.le_of_ble_eq_true rfl) (ax_dec2 (i := .invokespecial 23) (n := 3) ok_X9_weighs rfl) (fun r M' hq => ?_)
  obtain ⟨rfl, rfl⟩ := hq
  change ax_J _ _ _ _ _ _ _ _ _ 5 [some (.inr (.inr (some (5, o))))] [.inl (g 500 o 3 + 1), .inl 2] (P, g, r0, n)
  refine aj_run (C := (-2147483648 ≤ 2 * (g 500 o 3 + 1) ∧ 2 * (g 500 o 3 + 1) ≤ 2147483647) ∧ True) (pc' := 6) (la' := [some (.inr (.inr (some (5, o))))]) (st' := [.inl (2 * (g 500 o 3 + 1))]) (M' := (P, g, r0, n)) ok_X9_weighs true 1 rfl (by refine ⟨?_, trivial⟩ <;> ((have td9 := td2 hg; omega))) ?_
  refine aj_ret (r := some (.inl (2 * (g 500 o 3 + 1)))) (ax_dec2 (i := .ireturn) (n := 1) ok_X9_weighs rfl) ⟨?_, ?_, by decide, by decide⟩ rfl
  · exact ⟨rfl, rfl⟩
  · exact ax_ro_i

set_option maxRecDepth 100000 in
set_option maxHeartbeats 4000000 in
theorem cp_X3_weighs (ci : Nat) (q9 : vw_C) (hq9 : vwCl[ci]? = some q9) (o : Int) (P : Nat → Int → Prop) (g : Nat → Int → Int → Int) (r0 : Nat → Int → Int → Option (Nat × Int)) (n : Nat → Int → Int) (hc9 : n 5 o = (ci : Int)) (h4 : n 500 o = 4) (hg : 0 ≤ g 500 o 3 ∧ g 500 o 3 ≤ 9) : ax_S yX3_weighs cX3_weighs 1 (some FieldType.int) 2 0 0 [.inr (.inr (some (5, o)))] (P, g, r0, n) (fun r M' => r = some (.inl (wWeighs 4 (g 500 o 3))) ∧ M' = (P, g, r0, n)) := by
  refine ax_S_of (own := 3) (by decide) rfl (fun h => absurd h (by decide)) rfl (Nat.le_of_ble_eq_true rfl) ?_
  change ax_J _ _ _ _ _ _ _ _ _ _ [some (.inr (.inr (some (5, o))))] _ _
  refine aj_run (C := True) (pc' := 1) (la' := [some (.inr (.inr (some (5, o))))]) (st' := [.inr (.inr (some (5, o)))]) (M' := (P, g, r0, n)) ok_X3_weighs true 1 rfl trivial ?_
  refine aj_callP (av := []) (st := []) (f := 5) (o := o) (ci := ci) cal_X6_weighs (by decide) lk_3_29 (ax_T7 (i := 40) (by decide +kernel) rfl) (ax_T3 (i := 79) (by decide +kernel) rfl) ins_X6_weighs hq9 rfl (fun c9 _ h9 => by have z9 := h9.trans hc9; omega) (cp_X6_weighs ci q9 hq9 o _ _ _ _ hc9 h4 hg) ⟨by decide, by decide, by decide, by decide⟩ (Nat.le_of_ble_eq_true rfl) (ax_dec2 (i := .invokespecial 29) (n := 3) ok_X3_weighs rfl) (fun r M' hq => ?_)
  obtain ⟨rfl, rfl⟩ := hq
  change ax_J _ _ _ _ _ _ _ _ _ 4 [some (.inr (.inr (some (5, o))))] [.inl (Int.tdiv (g 500 o 3) 2)] (P, g, r0, n)
  refine aj_run (C := (-2147483648 ≤ (Int.tdiv (g 500 o 3) 2) + 3 ∧ (Int.tdiv (g 500 o 3) 2) + 3 ≤ 2147483647) ∧ True) (pc' := 6) (la' := [some (.inr (.inr (some (5, o))))]) (st' := [.inl ((Int.tdiv (g 500 o 3) 2) + 3)]) (M' := (P, g, r0, n)) ok_X3_weighs true 2 rfl (by refine ⟨?_, trivial⟩ <;> ((have td9 := td2 hg; omega))) ?_
  refine aj_ret (r := some (.inl ((Int.tdiv (g 500 o 3) 2) + 3))) (ax_dec2 (i := .ireturn) (n := 1) ok_X3_weighs rfl) ⟨?_, ?_, by decide, by decide⟩ rfl
  · exact ⟨rfl, rfl⟩
  · exact ax_ro_i

set_option maxRecDepth 100000 in
set_option maxHeartbeats 4000000 in
theorem cp_X1_weighs (ci : Nat) (q9 : vw_C) (hq9 : vwCl[ci]? = some q9) (o : Int) (P : Nat → Int → Prop) (g : Nat → Int → Int → Int) (r0 : Nat → Int → Int → Option (Nat × Int)) (n : Nat → Int → Int) (hc9 : n 5 o = (ci : Int)) (h4 : n 500 o = 4) (hg : 0 ≤ g 500 o 3 ∧ g 500 o 3 ≤ 9) : ax_S yX1_weighs cX1_weighs 1 (some FieldType.int) 2 0 0 [.inr (.inr (some (5, o)))] (P, g, r0, n) (fun r M' => r = some (.inl (wWeighs 5 (g 500 o 3))) ∧ M' = (P, g, r0, n)) := by
  refine ax_S_of (own := 1) (by decide) rfl (fun h => absurd h (by decide)) rfl (Nat.le_of_ble_eq_true rfl) ?_
  change ax_J _ _ _ _ _ _ _ _ _ _ [some (.inr (.inr (some (5, o))))] _ _
  refine aj_run (C := True) (pc' := 1) (la' := [some (.inr (.inr (some (5, o))))]) (st' := [.inr (.inr (some (5, o)))]) (M' := (P, g, r0, n)) ok_X1_weighs true 1 rfl trivial ?_
  refine aj_callP (av := []) (st := []) (f := 5) (o := o) (ci := ci) cal_X6_weighs (by decide) lk_1_19 (ax_T7 (i := 40) (by decide +kernel) rfl) (ax_T3 (i := 99) (by decide +kernel) rfl) ins_X6_weighs hq9 rfl (fun c9 _ h9 => by have z9 := h9.trans hc9; omega) (cp_X6_weighs ci q9 hq9 o _ _ _ _ hc9 h4 hg) ⟨by decide, by decide, by decide, by decide⟩ (Nat.le_of_ble_eq_true rfl) (ax_dec2 (i := .invokespecial 19) (n := 3) ok_X1_weighs rfl) (fun r M' hq => ?_)
  obtain ⟨rfl, rfl⟩ := hq
  change ax_J _ _ _ _ _ _ _ _ _ 4 [some (.inr (.inr (some (5, o))))] [.inl (Int.tdiv (g 500 o 3) 2)] (P, g, r0, n)
  refine aj_run (C := (0 ≤ 3 ∧ 3 < n 500 o) ∧ (-2147483648 ≤ (Int.tdiv (g 500 o 3) 2) + (g 500 o 3) ∧ (Int.tdiv (g 500 o 3) 2) + (g 500 o 3) ≤ 2147483647) ∧ True) (pc' := 11) (la' := [some (.inr (.inr (some (5, o))))]) (st' := [.inl ((Int.tdiv (g 500 o 3) 2) + (g 500 o 3))]) (M' := (P, g, r0, n)) ok_X1_weighs true 5 rfl (by refine ⟨?_, ?_, trivial⟩ <;> ((have td9 := td2 hg; omega))) ?_
  refine aj_ret (r := some (.inl ((Int.tdiv (g 500 o 3) 2) + (g 500 o 3)))) (ax_dec2 (i := .ireturn) (n := 1) ok_X1_weighs rfl) ⟨?_, ?_, by decide, by decide⟩ rfl
  · exact ⟨rfl, rfl⟩
  · exact ax_ro_i

def cBegA (g : Nat → Int → Int → Int) (o fa : Int) : Nat → Int → Int → Int := ax_u3 (ax_u3 (ax_u3 (ax_u3 (ax_u3 (ax_u3 (ax_u3 (ax_u3 (ax_u3 g 5 o 2 0) 5 o 3 0) 5 o 4 fa) 5 o 5 0) 5 o 6 0) 5 o 7 0) 5 o 8 0) 5 o 9 (-1)) 5 o 10 (-1)
set_option maxRecDepth 100000 in
set_option maxHeartbeats 4000000 in
theorem cp_X0_begin (o fa : Int) (P : Nat → Int → Prop) (g : Nat → Int → Int → Int) (r0 : Nat → Int → Int → Option (Nat × Int)) (n : Nat → Int → Int) : ax_S yX0_begin cX0_begin 2 none 0 0 0 [.inr (.inr (some (5, o))), .inl fa] (P, g, r0, n) (fun r M' => r = none ∧ M' = (P, cBegA g o fa, r0, n)) := by
  refine ax_S_of (own := 0) (by decide) rfl (fun h => absurd h (by decide)) rfl (Nat.le_of_ble_eq_true rfl) ?_
  change ax_J _ _ _ _ _ _ _ _ _ _ [some (.inr (.inr (some (5, o)))), some (.inl fa)] _ _
  refine aj_run (C := (0 = 0 ∨ 0 = 1) ∧ True) (pc' := 45) (la' := [some (.inr (.inr (some (5, o)))), some (.inl fa)]) (st' := []) (M' := (P, ax_u3 (ax_u3 (ax_u3 (ax_u3 (ax_u3 (ax_u3 (ax_u3 (ax_u3 (ax_u3 g 5 o 2 0) 5 o 3 0) 5 o 4 fa) 5 o 5 0) 5 o 6 0) 5 o 7 0) 5 o 8 0) 5 o 9 (-1)) 5 o 10 (-1), r0, n)) ok_X0_begin true 27 rfl (by refine ⟨?_, trivial⟩ <;> (first | exact Or.inl rfl | omega)) ?_
  refine aj_ret (r := none) (ax_dec2 (i := .return_) (n := 1) ok_X0_begin rfl) ⟨?_, ?_, by decide, by decide⟩ rfl
  · exact ⟨rfl, rfl⟩
  · exact trivial

set_option maxRecDepth 100000 in
set_option maxHeartbeats 4000000 in
theorem cp_X0_turnRound (o : Int) (P : Nat → Int → Prop) (g : Nat → Int → Int → Int) (r0 : Nat → Int → Int → Option (Nat × Int)) (n : Nat → Int → Int) (hf : g 5 o 4 = 0 ∨ g 5 o 4 = 1) : ax_S yX0_turnRound cX0_turnRound 1 none 0 0 0 [.inr (.inr (some (5, o)))] (P, g, r0, n) (fun r M' => r = none ∧ M' = (P, ax_u3 (ax_u3 g 5 o 4 (1 - g 5 o 4)) 5 o 6 (Int.bmod (g 5 o 6 + 1) 4294967296), r0, n)) := by
  refine ax_S_of (own := 0) (by decide) rfl (fun h => absurd h (by decide)) rfl (Nat.le_of_ble_eq_true rfl) ?_
  change ax_J _ _ _ _ _ _ _ _ _ _ [some (.inr (.inr (some (5, o))))] _ _
  refine aj_run (C := (-2147483648 ≤ 1 - (g 5 o 4) ∧ 1 - (g 5 o 4) ≤ 2147483647) ∧ True) (pc' := 15) (la' := [some (.inr (.inr (some (5, o))))]) (st' := [.inl ((ax_u3 g 5 o 4 (1 - (g 5 o 4))) 5 o 6), .inr (.inr (some (5, o)))]) (M' := (P, ax_u3 g 5 o 4 (1 - (g 5 o 4)), r0, n)) ok_X0_turnRound true 9 rfl (by refine ⟨?_, trivial⟩ <;> (omega)) ?_
  refine aj_cast rfl (congrArg (fun (z9 : Int) => ([.inl z9, .inr (.inr (some (5, o)))] : List ax_V)) (show (ax_u3 g 5 o 4 (1 - (g 5 o 4))) 5 o 6 = g 5 o 6 from ax_u3_n (fun q => absurd q.2.2 (by decide)))) rfl ?_
  refine aj_run (C := True) (pc' := 16) (la' := [some (.inr (.inr (some (5, o))))]) (st' := [.inl 1, .inl (g 5 o 6), .inr (.inr (some (5, o)))]) (M' := (P, ax_u3 g 5 o 4 (1 - (g 5 o 4)), r0, n)) ok_X0_turnRound true 1 rfl trivial ?_
  refine aj_run (C := True) (pc' := 17) (la' := [some (.inr (.inr (some (5, o))))]) (st' := [.inl (Int.bmod ((g 5 o 6) + 1) 4294967296), .inr (.inr (some (5, o)))]) (M' := (P, ax_u3 g 5 o 4 (1 - (g 5 o 4)), r0, n)) ok_X0_turnRound false 1 rfl trivial ?_
  refine aj_run (C := True) (pc' := 20) (la' := [some (.inr (.inr (some (5, o))))]) (st' := []) (M' := (P, ax_u3 (ax_u3 g 5 o 4 (1 - (g 5 o 4))) 5 o 6 (Int.bmod ((g 5 o 6) + 1) 4294967296), r0, n)) ok_X0_turnRound true 1 rfl trivial ?_
  refine aj_ret (r := none) (ax_dec2 (i := .return_) (n := 1) ok_X0_turnRound rfl) ⟨?_, ?_, by decide, by decide⟩ rfl
  · exact ⟨rfl, rfl⟩
  · exact trivial

set_option maxRecDepth 100000 in
set_option maxHeartbeats 4000000 in
theorem cp_X0_leave (o b : Int) (P : Nat → Int → Prop) (g : Nat → Int → Int → Int) (r0 : Nat → Int → Int → Option (Nat × Int)) (n : Nat → Int → Int) (hf : g 5 o 4 = 0 ∨ g 5 o 4 = 1) : ax_S yX0_leave cX0_leave 2 none 0 0 0 [.inr (.inr (some (5, o))), .inl b] (P, g, r0, n) (fun r M' => r = none ∧ M' = (P, ax_u3 (ax_u3 (ax_u3 g 5 o 2 0) 5 o 9 b) 5 o 10 (1 - g 5 o 4), r0, n)) := by
  refine ax_S_of (own := 0) (by decide) rfl (fun h => absurd h (by decide)) rfl (Nat.le_of_ble_eq_true rfl) ?_
  change ax_J _ _ _ _ _ _ _ _ _ _ [some (.inr (.inr (some (5, o)))), some (.inl b)] _ _
  refine aj_run (C := (0 = 0 ∨ 0 = 1) ∧ True) (pc' := 16) (la' := [some (.inr (.inr (some (5, o)))), some (.inl b)]) (st' := [.inl ((ax_u3 (ax_u3 g 5 o 2 0) 5 o 9 b) 5 o 4), .inl 1, .inr (.inr (some (5, o)))]) (M' := (P, ax_u3 (ax_u3 g 5 o 2 0) 5 o 9 b, r0, n)) ok_X0_leave true 10 rfl (by refine ⟨?_, trivial⟩ <;> (first | exact Or.inl rfl | omega)) ?_
  refine aj_cast rfl (congrArg (fun (z9 : Int) => ([.inl z9, .inl 1, .inr (.inr (some (5, o)))] : List ax_V)) (show (ax_u3 (ax_u3 g 5 o 2 0) 5 o 9 b) 5 o 4 = g 5 o 4 from (ax_u3_n (fun q => absurd q.2.2 (by decide))).trans (ax_u3_n (fun q => absurd q.2.2 (by decide))))) rfl ?_
  refine aj_run (C := (-2147483648 ≤ 1 - (g 5 o 4) ∧ 1 - (g 5 o 4) ≤ 2147483647) ∧ True) (pc' := 20) (la' := [some (.inr (.inr (some (5, o)))), some (.inl b)]) (st' := []) (M' := (P, ax_u3 (ax_u3 (ax_u3 g 5 o 2 0) 5 o 9 b) 5 o 10 (1 - (g 5 o 4)), r0, n)) ok_X0_leave true 2 rfl (by refine ⟨?_, trivial⟩ <;> (first | exact Or.inl rfl | omega)) ?_
  refine aj_ret (r := none) (ax_dec2 (i := .return_) (n := 1) ok_X0_leave rfl) ⟨?_, ?_, by decide, by decide⟩ rfl
  · exact ⟨rfl, rfl⟩
  · exact trivial

set_option maxRecDepth 100000 in
set_option maxHeartbeats 4000000 in
theorem cp_X0_note (o : Int) (P : Nat → Int → Prop) (g : Nat → Int → Int → Int) (r0 : Nat → Int → Int → Option (Nat × Int)) (n : Nat → Int → Int) : ax_S yX0_note cX0_note 1 none 0 0 0 [.inr (.inr (some (5, o)))] (P, g, r0, n) (fun r M' => r = none ∧ M' = (P, ax_u3 (ax_u3 g 5 o 11 (g 5 o 3)) 5 o 12 (g 5 o 4), r0, n)) := by
  refine ax_S_of (own := 0) (by decide) rfl (fun h => absurd h (by decide)) rfl (Nat.le_of_ble_eq_true rfl) ?_
  change ax_J _ _ _ _ _ _ _ _ _ _ [some (.inr (.inr (some (5, o))))] _ _
  refine aj_run (C := True) (pc' := 13) (la' := [some (.inr (.inr (some (5, o))))]) (st' := [.inl ((ax_u3 g 5 o 11 (g 5 o 3)) 5 o 4), .inr (.inr (some (5, o)))]) (M' := (P, ax_u3 g 5 o 11 (g 5 o 3), r0, n)) ok_X0_note true 7 rfl trivial ?_
  refine aj_cast rfl (congrArg (fun (z9 : Int) => ([.inl z9, .inr (.inr (some (5, o)))] : List ax_V)) (show (ax_u3 g 5 o 11 (g 5 o 3)) 5 o 4 = g 5 o 4 from ax_u3_n (fun q => absurd q.2.2 (by decide)))) rfl ?_
  refine aj_run (C := True) (pc' := 16) (la' := [some (.inr (.inr (some (5, o))))]) (st' := []) (M' := (P, ax_u3 (ax_u3 g 5 o 11 (g 5 o 3)) 5 o 12 (g 5 o 4), r0, n)) ok_X0_note true 1 rfl trivial ?_
  refine aj_ret (r := none) (ax_dec2 (i := .return_) (n := 1) ok_X0_note rfl) ⟨?_, ?_, by decide, by decide⟩ rfl
  · exact ⟨rfl, rfl⟩
  · exact trivial

set_option maxRecDepth 100000 in
set_option maxHeartbeats 4000000 in
theorem cp_X0_isAsNoted (o : Int) (P : Nat → Int → Prop) (g : Nat → Int → Int → Int) (r0 : Nat → Int → Int → Option (Nat × Int)) (n : Nat → Int → Int) : ax_S yX0_isAsNoted cX0_isAsNoted 1 (some FieldType.boolean) 0 0 0 [.inr (.inr (some (5, o)))] (P, g, r0, n) (fun r M' => r = some (.inl (bI (g 5 o 3 = g 5 o 11 ∧ g 5 o 4 = g 5 o 12))) ∧ M' = (P, g, r0, n)) := by
  refine ax_S_of (own := 0) (by decide) rfl (fun h => absurd h (by decide)) rfl (Nat.le_of_ble_eq_true rfl) ?_
  change ax_J _ _ _ _ _ _ _ _ _ _ [some (.inr (.inr (some (5, o))))] _ _
  refine aj_run (C := True) (pc' := 8) (la' := [some (.inr (.inr (some (5, o))))]) (st' := [.inl (g 5 o 11), .inl (g 5 o 3)]) (M' := (P, g, r0, n)) ok_X0_isAsNoted true 4 rfl trivial ?_
  refine aj_icmp_ne (tgt := 26) (ax_dec2 (i := .if_icmp .ne 18) (n := 3) ok_X0_isAsNoted rfl) (by decide) (fun c1 => ?_) (fun c1 => ?_)
  · refine aj_run (C := True) (pc' := 27) (la' := [some (.inr (.inr (some (5, o))))]) (st' := [.inl 0]) (M' := (P, g, r0, n)) ok_X0_isAsNoted true 1 rfl trivial ?_
    refine aj_ret (r := some (.inl 0)) (ax_dec2 (i := .ireturn) (n := 1) ok_X0_isAsNoted rfl) ⟨?_, ?_, by decide, by decide⟩ rfl
    · exact ⟨ax_si (by first | rw [bI_t (by omega)] | rw [bI_f (by omega)]), rfl⟩
    · exact ax_ro_b (by decide)
  · refine aj_run (C := True) (pc' := 19) (la' := [some (.inr (.inr (some (5, o))))]) (st' := [.inl (g 5 o 12), .inl (g 5 o 4)]) (M' := (P, g, r0, n)) ok_X0_isAsNoted true 4 rfl trivial ?_
    refine aj_icmp_ne (tgt := 26) (ax_dec2 (i := .if_icmp .ne 7) (n := 3) ok_X0_isAsNoted rfl) (by decide) (fun c2 => ?_) (fun c2 => ?_)
    · refine aj_run (C := True) (pc' := 27) (la' := [some (.inr (.inr (some (5, o))))]) (st' := [.inl 0]) (M' := (P, g, r0, n)) ok_X0_isAsNoted true 1 rfl trivial ?_
      refine aj_ret (r := some (.inl 0)) (ax_dec2 (i := .ireturn) (n := 1) ok_X0_isAsNoted rfl) ⟨?_, ?_, by decide, by decide⟩ rfl
      · exact ⟨ax_si (by first | rw [bI_t (by omega)] | rw [bI_f (by omega)]), rfl⟩
      · exact ax_ro_b (by decide)
    · refine aj_run (C := True) (pc' := 27) (la' := [some (.inr (.inr (some (5, o))))]) (st' := [.inl 1]) (M' := (P, g, r0, n)) ok_X0_isAsNoted true 2 rfl trivial ?_
      refine aj_ret (r := some (.inl 1)) (ax_dec2 (i := .ireturn) (n := 1) ok_X0_isAsNoted rfl) ⟨?_, ?_, by decide, by decide⟩ rfl
      · exact ⟨ax_si (by first | rw [bI_t (by omega)] | rw [bI_f (by omega)]), rfl⟩
      · exact ax_ro_b (by decide)

