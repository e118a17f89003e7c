/-! ===== texts of the JDK; the tape's own small methods ===== -/
section AS
variable {own : Nat} {cc : ByteArray} {nL : Nat} {scr : Option (Nat × (Nat → Int32))} {R : Room} {p0 : Nat → Int → Prop} {Q : ax_Q} {kc ks pc : Nat} {la : List (Option ax_V)} {st : List ax_V} {M : ax_Mm}
/-- a call on a String constant -/
theorem aj_callK {y : MethodName} {cY : ByteArray} {nY idx d KC KS : Nat} {o : Int} {rY : Option FieldType} {av : List ax_V} {Qs : Option ax_V → ax_Mm → Prop} (hy : ax_cal y cY nY rY av.length) (hl : Cond.methodLink (ax_nm own) idx y ∈ ax_GT) (hin : Cond.instanceMethod y ∈ ax_GT) (hsel : Cond.selects "java/lang/String" y y ∈ ax_GT) (ho : 0 ≤ o ∧ o < 13)
    (hs : ax_S y cY nY rY d KC KS (.inr (.inr (some (91, o))) :: av) M Qs) (hR : ax_hav R d KC KS kc ks) (hz : ax_sz st ≤ 8) (h : decode cc pc = .ok (.invokevirtual idx, 3))
    (kk : ∀ (r : Option ax_V) (M' : ax_Mm), Qs r M' → ax_J own cc nL scr R p0 Q (kc + KC) (ks + KS) (pc + 3) la (r.toList ++ st) M') : ax_J own cc nL scr R p0 Q kc ks pc la (av.reverse ++ .inr (.inr (some (91, o))) :: st) M := by
  intro p l e s m args below meth c N0 D QQ ad0 C hret ad ls rs H locs Z L S
  obtain ⟨r1, r2, rfl, S1, S2⟩ := ax_st_app S
  have S3 := ax_st_rev S1
  rw [List.reverse_reverse] at S3
  obtain ⟨r3, rfl, hm, S4⟩ := ax_st_r S2
  have hk := vk_recv C.2.2.2.2.2.2.1.1 (i := o.toNat) (by omega) Z.2.2.2
  rw [show ((o.toNat : Nat) : Int) = o by omega, ← Z.1 91 o (Or.inr rfl)] at hk
  refine ax_goon C hret Z L S4 (va_runV (C := "java/lang/String") (As := r1.reverse) (rest := r3) (Ts := ax_GT) ⟨C.1, C.2.1, C.2.2.1, C.2.2.2.1, C.2.2.2.2.1⟩ (hs l D ad N0 (.ref (ad 91 o) :: r1.reverse) ⟨⟨hm, rfl⟩, S3⟩) ⟨ax_callB C hy hl hR, C.2.2.2.2.1 _ hin, C.2.2.2.2.1 _ hsel⟩ ⟨ax_blind, hk, ax_pre C Z⟩ rfl (by rw [ax_st_len S3]) L.2.choose_spec.1.1 (by simp) ?_ h ⟨hR.2.2.1, hR.2.2.2⟩) kk
  have := ax_st_sz S4
  simp [JFrame.monitorRoom]
  omega
end AS
/-- a contract of a method that answers the byte 0 -/
theorem ax_S_of0 {y : MethodName} {own : Nat} {cc : ByteArray} {nL : Nat} {d KC KS : Nat} {av : List ax_V} {M : ax_Mm} {Q : Option ax_V → ax_Mm → Prop} (hy : plainName y.cls = true) (hown : y.cls = ax_nm own) (hnm : 100 ≤ own → y.name = "<init>") (hav : av.all ax_nlg = true) (hn : av.length ≤ nL)
    (h : ax_J own cc nL none (ax_rm d KC KS) M.1 (fun r M' kc ks => Q r M' ∧ r = some (.inl 0) ∧ kc ≤ KC ∧ ks ≤ KS) 0 0 0 (ax_la av nL) [] M) : ax_S y cc nL (some .byte) d KC KS av M Q := by
  intro l D ad N0 rv hrv
  refine Met.ofW (cc := cc) (maxL := nL) (ret := some .byte) hy rfl ?_
  intro p e s m args below meth c s₁ B hml hv
  obtain ⟨rfl, hN, hR, hKc⟩ := hv
  have hts : ∀ w ∈ ax_GT, w.before rv.toArray s = true := fun w hw => atoms_spec (ws := .code y cc nL (some .byte) :: ax_GT) B.pre w (List.mem_cons_of_mem _ hw)
  have hC : ax_C own cc nL none p s m rv.toArray c meth N0 ad := ⟨B.exec, B.bytes, hml, by rw [← hown]; exact findClass_of_methodNamed B.named, hts, hN, hKc, (fun q h => by cases h), B.notSynchronized, (fun h => by rw [← hnm h]; exact (name_of_methodNamed B.named B.method).1)⟩
  have hlocks := B.notSynchronized
  rw [lg_entry_eq]
  refine h p l e s m rv.toArray below meth c N0 D _ ad hC ?_ ad _ _ _ _ ⟨fun _ _ _ => rfl, fun _ _ h => h, hR, va_S.rf⟩ (ax_lo_entry hav hrv hn) trivial
  intro r M' kc' ks' pc' ad' ls rs H locs hQ hdg hrs hZ
  obtain ⟨hQ, rfl, hkc, hks⟩ := hQ
  refine W.widen hkc hks ?_
  have hr := B.returns
  have key : ∀ t : State, t.heap = H → s.WarmedH t.vm → ax_Qc D ad N0 M Q rv.toArray s (.returned rs.head?) t := by
    intro t ht hW
    refine ⟨⟨_, M', ad', rs, hQ, hrs, rfl, fun f o hm => ⟨hZ.2.1 f o hm, hZ.1 f o (Or.inl hm)⟩, fun f o hm => hZ.1 f o (Or.inr hm), ?_⟩, ?_, ?_⟩
    · rw [ht]
      exact hZ.2.2.1.moved hW.alike
    · rw [ht]
      exact hZ.2.2.2.1
    · intro q h1 h2
      rw [ht]
      exact hZ.2.2.2.2.1 q h1 h2
  obtain ⟨w, rfl, z, rfl, hz⟩ := hrs
  have hz0 : z = 0 := Int32.toInt_inj.mp (by rw [hz]; rfl)
  subst hz0
  exact W.zret B.exec B.bytes hr (by decide) key hZ.2.2.2.2.2 hdg hlocks
theorem kB_t : (List.range 13).all (fun o => (List.range 40).all fun i => decide (0 ≤ kB (o : Int) i) && (decide (kB (o : Int) i ≤ 255) && decide (ax_and (kB (o : Int) i) 255 = kB (o : Int) i))) = true := by decide +kernel
theorem kB_z {o i : Int} (ho : 0 ≤ o ∧ o < 13) (hi : ¬ (0 ≤ i ∧ i < 40)) (h : 0 ≤ i) : kB o i = 0 := by
  have hl : ∀ k : Nat, k < 13 → ((ax_kbyt.getD k []).length ≤ 40) := by decide
  have := hl o.toNat (by omega)
  unfold kB
  rw [List.getD_eq_getElem?_getD (l := ax_kbyt.getD o.toNat []), List.getElem?_eq_none (by omega)]
  rfl
theorem kB_in {o i : Int} (ho : 0 ≤ o ∧ o < 13) : 0 ≤ kB o i ∧ kB o i ≤ 65535 := by
  have key : ∀ i : Int, 0 ≤ i → 0 ≤ kB o i ∧ kB o i ≤ 65535 := fun i h => by
    by_cases c : 0 ≤ i ∧ i < 40
    · have h := kB_t
      rw [List.all_eq_true] at h
      have h := h o.toNat (List.mem_range.mpr (by omega))
      rw [List.all_eq_true] at h
      have h := h i.toNat (List.mem_range.mpr (by omega))
      rw [Bool.and_eq_true, Bool.and_eq_true, decide_eq_true_eq, decide_eq_true_eq, decide_eq_true_eq, show ((o.toNat : Nat) : Int) = o by omega, show ((i.toNat : Nat) : Int) = i by omega] at h
      omega
    · rw [kB_z ho c h]
      decide
  by_cases c : 0 ≤ i
  · exact key i c
  · have e : kB o i = kB o 0 := by unfold kB; rw [show i.toNat = (0 : Int).toNat by omega]
    rw [e]
    exact key 0 (by decide)
theorem kB_and {o i : Int} (ho : 0 ≤ o ∧ o < 13) : ax_and (kB o i) 255 = kB o i := by
  have key : ∀ i : Int, 0 ≤ i → ax_and (kB o i) 255 = kB o i := fun i h => by
    by_cases c : 0 ≤ i ∧ i < 40
    · have h := kB_t
      rw [List.all_eq_true] at h
      have h := h o.toNat (List.mem_range.mpr (by omega))
      rw [List.all_eq_true] at h
      have h := h i.toNat (List.mem_range.mpr (by omega))
      rw [Bool.and_eq_true, Bool.and_eq_true, decide_eq_true_eq, decide_eq_true_eq, decide_eq_true_eq, show ((o.toNat : Nat) : Int) = o by omega, show ((i.toNat : Nat) : Int) = i by omega] at h
      exact h.2.2
    · rw [kB_z ho c h]
      decide
  by_cases c : 0 ≤ i
  · exact key i c
  · have e : kB o i = kB o 0 := by unfold kB; rw [show i.toNat = (0 : Int).toNat by omega]
    rw [e]
    exact key 0 (by decide)
theorem shr0 {x : Int} (h : 0 ≤ x ∧ x < 1000) : ax_shr x 0 = x := by
  have hh : (List.range 1000).all (fun k => decide (ax_shr (k : Int) 0 = k)) = true := by decide +kernel
  rw [List.all_eq_true] at hh
  have := hh x.toNat (List.mem_range.mpr (by omega))
  rw [decide_eq_true_eq, show ((x.toNat : Nat) : Int) = x by omega] at this
  exact this
theorem kL_b {o : Int} (ho : 0 ≤ o ∧ o < 13) : 0 ≤ kL o ∧ kL o < 1000 := by
  have := kL_in o ho.1 ho.2
  unfold kL
  omega
set_option maxRecDepth 100000 in
set_option maxHeartbeats 4000000 in
theorem cp_coder (o : Int) (P : Nat → Int → Prop) (g : Nat → Int → Int → Int) (r0 : Nat → Int → Int → Option (Nat × Int)) (n : Nat → Int → Int) (ho : 0 ≤ o ∧ o < 13) : ax_S yJ0_coder_7d493 cJ0_coder_7d493 1 (some FieldType.byte) 0 0 0 [.inr (.inr (some (91, o)))] (P, g, r0, n) (fun r M' => r = some (.inl (0)) ∧ M' = (P, g, r0, n)) := by
  refine ax_S_of0 (own := 16) (by decide) rfl (fun h => absurd h (by decide)) rfl (Nat.le_of_ble_eq_true rfl) ?_
  change ax_J _ _ _ _ _ _ _ _ _ _ [some (.inr (.inr (some (91, o))))] _ _
  refine aj_getsC (ax_T1 (i := 179) (by decide +kernel) rfl) (ax_dec2 (i := .getstatic 38) (n := 3) ok_J0_coder_7d493 rfl) ?_
  refine aj_if_eq (tgt := 13) (ax_dec2 (i := .ifCond .eq 10) (n := 3) ok_J0_coder_7d493 rfl) (by decide) (fun c1 => ?_) (fun c1 => ?_)
  · exact absurd c1 (by omega)
  · refine aj_run (C := True) (pc' := 7) (la' := [some (.inr (.inr (some (91, o))))]) (st' := [.inr (.inr (some (91, o)))]) (M' := (P, g, r0, n)) ok_J0_coder_7d493 true 1 rfl trivial ?_
    refine aj_strC (ax_T7 (i := 53) (by decide +kernel) rfl) ho (ax_dec2 (i := .getfield 15) (n := 3) ok_J0_coder_7d493 rfl) ?_
    refine aj_run (C := True) (pc' := 14) (la' := [some (.inr (.inr (some (91, o))))]) (st' := [.inl 0]) (M' := (P, g, r0, n)) ok_J0_coder_7d493 true 1 rfl trivial ?_
    refine aj_ret (r := some (.inl 0)) (ax_dec2 (i := .ireturn) (n := 1) ok_J0_coder_7d493 rfl) ⟨?_, ?_, by decide, by decide⟩ rfl
    · exact ⟨rfl, rfl⟩
    · exact rfl

set_option maxRecDepth 100000 in
set_option maxHeartbeats 4000000 in
theorem cp_len (o : Int) (P : Nat → Int → Prop) (g : Nat → Int → Int → Int) (r0 : Nat → Int → Int → Option (Nat × Int)) (n : Nat → Int → Int) (ho : 0 ≤ o ∧ o < 13) (h92 : P 92 o) : ax_S yJ0_length_8abf5 cJ0_length_8abf5 1 (some FieldType.int) 1 0 0 [.inr (.inr (some (91, o)))] (P, g, r0, n) (fun r M' => r = some (.inl (kL o)) ∧ M' = (P, g, r0, n)) := by
  refine ax_S_of (own := 16) (by decide) rfl (fun h => absurd h (by decide)) rfl (Nat.le_of_ble_eq_true rfl) ?_
  change ax_J _ _ _ _ _ _ _ _ _ _ [some (.inr (.inr (some (91, o))))] _ _
  refine aj_run (C := True) (pc' := 1) (la' := [some (.inr (.inr (some (91, o))))]) (st' := [.inr (.inr (some (91, o)))]) (M' := (P, g, r0, n)) ok_J0_length_8abf5 true 1 rfl trivial ?_
  refine aj_strV (ax_T7 (i := 52) (by decide +kernel) rfl) ho h92 (ax_dec2 (i := .getfield 9) (n := 3) ok_J0_length_8abf5 rfl) ?_
  refine aj_len92 ho (ax_dec2 (i := .arraylength) (n := 1) ok_J0_length_8abf5 rfl) ?_
  refine aj_run (C := True) (pc' := 6) (la' := [some (.inr (.inr (some (91, o))))]) (st' := [.inr (.inr (some (91, o))), .inl (kL o)]) (M' := (P, g, r0, n)) ok_J0_length_8abf5 true 1 rfl trivial ?_
  refine aj_callK (av := []) (st := [.inl (kL o)]) (o := o) cal_J0_coder_7d493 lk_16_335 ins_J0_coder_7d493 sel_J0_coder_7d493 ho (cp_coder o _ _ _ _ ho) ⟨by decide, by decide, by decide, by decide⟩ (Nat.le_of_ble_eq_true rfl) (ax_dec2 (i := .invokevirtual 335) (n := 3) ok_J0_length_8abf5 rfl) (fun r M' hq => ?_)
  obtain ⟨rfl, rfl⟩ := hq
  change ax_J _ _ _ _ _ _ _ _ _ 9 [some (.inr (.inr (some (91, o))))] [.inl 0, .inl (kL o)] (P, g, r0, n)
  refine aj_run (C := True) (pc' := 10) (la' := [some (.inr (.inr (some (91, o))))]) (st' := [.inl (ax_shr (kL o) 0)]) (M' := (P, g, r0, n)) ok_J0_length_8abf5 true 1 rfl trivial ?_
  refine aj_ret (r := some (.inl (ax_shr (kL o) 0))) (ax_dec2 (i := .ireturn) (n := 1) ok_J0_length_8abf5 rfl) ⟨?_, ?_, by decide, by decide⟩ rfl
  · exact ⟨ax_si (shr0 (kL_b ho)), rfl⟩
  · exact ax_ro_i

set_option maxRecDepth 100000 in
set_option maxHeartbeats 4000000 in
theorem cp_isLatin (o : Int) (P : Nat → Int → Prop) (g : Nat → Int → Int → Int) (r0 : Nat → Int → Int → Option (Nat × Int)) (n : Nat → Int → Int) (ho : 0 ≤ o ∧ o < 13) : ax_S yJ0_isLatin1_aae02 cJ0_isLatin1_aae02 1 (some FieldType.boolean) 0 0 0 [.inr (.inr (some (91, o)))] (P, g, r0, n) (fun r M' => r = some (.inl (1)) ∧ M' = (P, g, r0, n)) := by
  refine ax_S_of (own := 16) (by decide) rfl (fun h => absurd h (by decide)) rfl (Nat.le_of_ble_eq_true rfl) ?_
  change ax_J _ _ _ _ _ _ _ _ _ _ [some (.inr (.inr (some (91, o))))] _ _
  refine aj_getsC (ax_T1 (i := 179) (by decide +kernel) rfl) (ax_dec2 (i := .getstatic 38) (n := 3) ok_J0_isLatin1_aae02 rfl) ?_
  refine aj_if_eq (tgt := 17) (ax_dec2 (i := .ifCond .eq 14) (n := 3) ok_J0_isLatin1_aae02 rfl) (by decide) (fun c1 => ?_) (fun c1 => ?_)
  · exact absurd c1 (by omega)
  · refine aj_run (C := True) (pc' := 7) (la' := [some (.inr (.inr (some (91, o))))]) (st' := [.inr (.inr (some (91, o)))]) (M' := (P, g, r0, n)) ok_J0_isLatin1_aae02 true 1 rfl trivial ?_
    refine aj_strC (ax_T7 (i := 53) (by decide +kernel) rfl) ho (ax_dec2 (i := .getfield 15) (n := 3) ok_J0_isLatin1_aae02 rfl) ?_
    refine aj_if_ne (tgt := 17) (ax_dec2 (i := .ifCond .ne 7) (n := 3) ok_J0_isLatin1_aae02 rfl) (by decide) (fun c2 => ?_) (fun c2 => ?_)
    · exact absurd c2 (by omega)
    · refine aj_run (C := True) (pc' := 18) (la' := [some (.inr (.inr (some (91, o))))]) (st' := [.inl 1]) (M' := (P, g, r0, n)) ok_J0_isLatin1_aae02 true 2 rfl trivial ?_
      refine aj_ret (r := some (.inl 1)) (ax_dec2 (i := .ireturn) (n := 1) ok_J0_isLatin1_aae02 rfl) ⟨?_, ?_, by decide, by decide⟩ rfl
      · exact ⟨rfl, rfl⟩
      · exact ax_ro_b (by decide)

set_option maxRecDepth 100000 in
set_option maxHeartbeats 4000000 in
theorem cp_chkP (q9 : Option (Nat × Int)) (i m : Int) (P : Nat → Int → Prop) (g : Nat → Int → Int → Int) (r0 : Nat → Int → Int → Option (Nat × Int)) (n : Nat → Int → Int) (hi : 0 ≤ i ∧ i < m) : ax_S yJ3_checkIndex_8e157 cJ3_checkIndex_8e157 3 (some FieldType.int) 0 0 0 [.inl i, .inl m, .inr (.inr q9)] (P, g, r0, n) (fun r M' => r = some (.inl (i)) ∧ M' = (P, g, r0, n)) := by
  refine ax_S_of (own := 19) (by decide) rfl (fun h => absurd h (by decide)) rfl (Nat.le_of_ble_eq_true rfl) ?_
  change ax_J _ _ _ _ _ _ _ _ _ _ [some (.inl i), some (.inl m), some (.inr (.inr q9))] _ _
  refine aj_run (C := True) (pc' := 1) (la' := [some (.inl i), some (.inl m), some (.inr (.inr q9))]) (st' := [.inl i]) (M' := (P, g, r0, n)) ok_J3_checkIndex_8e157 true 1 rfl trivial ?_
  refine aj_if_lt (tgt := 9) (ax_dec2 (i := .ifCond .lt 8) (n := 3) ok_J3_checkIndex_8e157 rfl) (by decide) (fun c1 => ?_) (fun c1 => ?_)
  · exact absurd c1 (by omega)
  · refine aj_run (C := True) (pc' := 6) (la' := [some (.inl i), some (.inl m), some (.inr (.inr q9))]) (st' := [.inl m, .inl i]) (M' := (P, g, r0, n)) ok_J3_checkIndex_8e157 true 2 rfl trivial ?_
    refine aj_icmp_lt (tgt := 16) (ax_dec2 (i := .if_icmp .lt 10) (n := 3) ok_J3_checkIndex_8e157 rfl) (by decide) (fun c2 => ?_) (fun c2 => ?_)
    · refine aj_run (C := True) (pc' := 17) (la' := [some (.inl i), some (.inl m), some (.inr (.inr q9))]) (st' := [.inl i]) (M' := (P, g, r0, n)) ok_J3_checkIndex_8e157 true 1 rfl trivial ?_
      refine aj_ret (r := some (.inl i)) (ax_dec2 (i := .ireturn) (n := 1) ok_J3_checkIndex_8e157 rfl) ⟨?_, ?_, by decide, by decide⟩ rfl
      · exact ⟨rfl, rfl⟩
      · exact ax_ro_i
    · exact absurd c2 (by omega)

set_option maxRecDepth 100000 in
set_option maxHeartbeats 4000000 in
theorem cp_chk (i m : Int) (P : Nat → Int → Prop) (g : Nat → Int → Int → Int) (r0 : Nat → Int → Int → Option (Nat × Int)) (n : Nat → Int → Int) (hi : 0 ≤ i ∧ i < m) (h93 : P 93 0) : ax_S yJ0_checkIndex_df160 cJ0_checkIndex_df160 2 none 1 0 0 [.inl i, .inl m] (P, g, r0, n) (fun r M' => r = none ∧ M' = (P, g, r0, n)) := by
  refine ax_S_of (own := 16) (by decide) rfl (fun h => absurd h (by decide)) rfl (Nat.le_of_ble_eq_true rfl) ?_
  change ax_J _ _ _ _ _ _ _ _ _ _ [some (.inl i), some (.inl m)] _ _
  refine aj_run (C := True) (pc' := 2) (la' := [some (.inl i), some (.inl m)]) (st' := [.inl m, .inl i]) (M' := (P, g, r0, n)) ok_J0_checkIndex_df160 true 2 rfl trivial ?_
  refine aj_getsF (ax_T1 (i := 195) (by decide +kernel) rfl) h93 (ax_dec2 (i := .getstatic 1053) (n := 3) ok_J0_checkIndex_df160 rfl) (fun q9 => ?_)
  refine aj_callS (av := [.inl i, .inl m, .inr (.inr q9)]) (st := []) cal_J3_checkIndex_8e157 lk_16_1059 stc_J3_checkIndex_8e157 (cp_chkP q9 i m _ _ _ _ hi) ⟨by decide, by decide, by decide, by decide⟩ (Nat.le_of_ble_eq_true rfl) (ax_dec2 (i := .invokestatic 1059) (n := 3) ok_J0_checkIndex_df160 rfl) (fun r M' hq => ?_)
  obtain ⟨rfl, rfl⟩ := hq
  change ax_J _ _ _ _ _ _ _ _ _ 8 [some (.inl i), some (.inl m)] [.inl i] (P, g, r0, n)
  refine aj_run (C := True) (pc' := 9) (la' := [some (.inl i), some (.inl m)]) (st' := []) (M' := (P, g, r0, n)) ok_J0_checkIndex_df160 true 1 rfl trivial ?_
  refine aj_ret (r := none) (ax_dec2 (i := .return_) (n := 1) ok_J0_checkIndex_df160 rfl) ⟨?_, ?_, by decide, by decide⟩ rfl
  · exact ⟨rfl, rfl⟩
  · exact trivial

set_option maxRecDepth 100000 in
set_option maxHeartbeats 4000000 in
theorem cp_lch (o i : Int) (P : Nat → Int → Prop) (g : Nat → Int → Int → Int) (r0 : Nat → Int → Int → Option (Nat × Int)) (n : Nat → Int → Int) (ho : 0 ≤ o ∧ o < 13) (h93 : P 93 0) (hi : 0 ≤ i ∧ i < kL o) : ax_S yJ1_charAt_3b067 cJ1_charAt_3b067 2 (some FieldType.char) 2 0 0 [.inr (.inr (some (92, o))), .inl i] (P, g, r0, n) (fun r M' => r = some (.inl (kB o i)) ∧ M' = (P, g, r0, n)) := by
  refine ax_S_of (own := 17) (by decide) rfl (fun h => absurd h (by decide)) rfl (Nat.le_of_ble_eq_true rfl) ?_
  change ax_J _ _ _ _ _ _ _ _ _ _ [some (.inr (.inr (some (92, o)))), some (.inl i)] _ _
  refine aj_run (C := True) (pc' := 2) (la' := [some (.inr (.inr (some (92, o)))), some (.inl i)]) (st' := [.inr (.inr (some (92, o))), .inl i]) (M' := (P, g, r0, n)) ok_J1_charAt_3b067 true 2 rfl trivial ?_
  refine aj_len92 ho (ax_dec2 (i := .arraylength) (n := 1) ok_J1_charAt_3b067 rfl) ?_
  refine aj_callS (av := [.inl i, .inl (kL o)]) (st := []) cal_J0_checkIndex_df160 lk_17_9 stc_J0_checkIndex_df160 (cp_chk i (kL o) _ _ _ _ (by omega) h93) ⟨by decide, by decide, by decide, by decide⟩ (Nat.le_of_ble_eq_true rfl) (ax_dec2 (i := .invokestatic 9) (n := 3) ok_J1_charAt_3b067 rfl) (fun r M' hq => ?_)
  obtain ⟨rfl, rfl⟩ := hq
  change ax_J _ _ _ _ _ _ _ _ _ 6 [some (.inr (.inr (some (92, o)))), some (.inl i)] [] (P, g, r0, n)
  refine aj_run (C := True) (pc' := 8) (la' := [some (.inr (.inr (some (92, o)))), some (.inl i)]) (st' := [.inl i, .inr (.inr (some (92, o)))]) (M' := (P, g, r0, n)) ok_J1_charAt_3b067 true 2 rfl trivial ?_
  refine aj_ald92 ho (by omega) (ax_dec2 (i := .baload) (n := 1) ok_J1_charAt_3b067 rfl) ?_
  refine aj_run (C := True) (pc' := 13) (la' := [some (.inr (.inr (some (92, o)))), some (.inl i)]) (st' := [.inl (ax_and (kB o i) 255)]) (M' := (P, g, r0, n)) ok_J1_charAt_3b067 true 2 rfl trivial ?_
  refine aj_i2c (by rw [kB_and ho]; exact kB_in ho) (ax_dec2 (i := .i2c) (n := 1) ok_J1_charAt_3b067 rfl) ?_
  refine aj_ret (r := some (.inl (ax_and (kB o i) 255))) (ax_dec2 (i := .ireturn) (n := 1) ok_J1_charAt_3b067 rfl) ⟨?_, ?_, by decide, by decide⟩ rfl
  · exact ⟨ax_si (kB_and ho), rfl⟩
  · exact (show ax_fit .char _ from by rw [kB_and ho]; exact kB_in ho)

set_option maxRecDepth 100000 in
set_option maxHeartbeats 4000000 in
theorem cp_chr (o i : Int) (P : Nat → Int → Prop) (g : Nat → Int → Int → Int) (r0 : Nat → Int → Int → Option (Nat × Int)) (n : Nat → Int → Int) (ho : 0 ≤ o ∧ o < 13) (h92 : P 92 o) (h93 : P 93 0) (hi : 0 ≤ i ∧ i < kL o) : ax_S yJ0_charAt_5068e cJ0_charAt_5068e 2 (some FieldType.char) 3 0 0 [.inr (.inr (some (91, o))), .inl i] (P, g, r0, n) (fun r M' => r = some (.inl (kB o i)) ∧ M' = (P, g, r0, n)) := by
  refine ax_S_of (own := 16) (by decide) rfl (fun h => absurd h (by decide)) rfl (Nat.le_of_ble_eq_true rfl) ?_
  change ax_J _ _ _ _ _ _ _ _ _ _ [some (.inr (.inr (some (91, o)))), some (.inl i)] _ _
  refine aj_run (C := True) (pc' := 1) (la' := [some (.inr (.inr (some (91, o)))), some (.inl i)]) (st' := [.inr (.inr (some (91, o)))]) (M' := (P, g, r0, n)) ok_J0_charAt_5068e true 1 rfl trivial ?_
  refine aj_callK (av := []) (st := []) (o := o) cal_J0_isLatin1_aae02 lk_16_492 ins_J0_isLatin1_aae02 sel_J0_isLatin1_aae02 ho (cp_isLatin o _ _ _ _ ho) ⟨by decide, by decide, by decide, by decide⟩ (Nat.le_of_ble_eq_true rfl) (ax_dec2 (i := .invokevirtual 492) (n := 3) ok_J0_charAt_5068e rfl) (fun r M' hq => ?_)
  obtain ⟨rfl, rfl⟩ := hq
  change ax_J _ _ _ _ _ _ _ _ _ 4 [some (.inr (.inr (some (91, o)))), some (.inl i)] [.inl 1] (P, g, r0, n)
  refine aj_if_eq (tgt := 16) (ax_dec2 (i := .ifCond .eq 12) (n := 3) ok_J0_charAt_5068e rfl) (by decide) (fun c1 => ?_) (fun c1 => ?_)
  · exact absurd c1 (by omega)
  · refine aj_run (C := True) (pc' := 8) (la' := [some (.inr (.inr (some (91, o)))), some (.inl i)]) (st' := [.inr (.inr (some (91, o)))]) (M' := (P, g, r0, n)) ok_J0_charAt_5068e true 1 rfl trivial ?_
    refine aj_strV (ax_T7 (i := 52) (by decide +kernel) rfl) ho h92 (ax_dec2 (i := .getfield 9) (n := 3) ok_J0_charAt_5068e rfl) ?_
    refine aj_run (C := True) (pc' := 12) (la' := [some (.inr (.inr (some (91, o)))), some (.inl i)]) (st' := [.inl i, .inr (.inr (some (92, o)))]) (M' := (P, g, r0, n)) ok_J0_charAt_5068e true 1 rfl trivial ?_
    refine aj_callS (av := [.inr (.inr (some (92, o))), .inl i]) (st := []) cal_J1_charAt_3b067 lk_16_495 stc_J1_charAt_3b067 (cp_lch o i _ _ _ _ ho h93 hi) ⟨by decide, by decide, by decide, by decide⟩ (Nat.le_of_ble_eq_true rfl) (ax_dec2 (i := .invokestatic 495) (n := 3) ok_J0_charAt_5068e rfl) (fun r M' hq => ?_)
    obtain ⟨rfl, rfl⟩ := hq
    change ax_J _ _ _ _ _ _ _ _ _ 15 [some (.inr (.inr (some (91, o)))), some (.inl i)] [.inl (kB o i)] (P, g, r0, n)
    refine aj_ret (r := some (.inl (kB o i))) (ax_dec2 (i := .ireturn) (n := 1) ok_J0_charAt_5068e rfl) ⟨?_, ?_, by decide, by decide⟩ rfl
    · exact ⟨rfl, rfl⟩
    · exact (show ax_fit .char _ from kB_in ho)

