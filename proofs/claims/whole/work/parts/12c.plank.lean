section AMX
variable {own : Nat} {cc : ByteArray} {nL : Nat} {scr : Option (Nat × (Nat → Int32))} {R : Room} {p0 : Nat → Int → Prop} {Q : ax_Q} {kc ks pc : Nat} {la : List (Option ax_V)} {st : List ax_V} {M : ax_Mm}
theorem ax_mx {x y : Int32} : (if x < y then y else x).toInt = if x.toInt < y.toInt then y.toInt else x.toInt := by
  by_cases h : x < y
  · rw [if_pos h, if_pos (Int32.lt_iff_toInt_lt.mp h)]
  · rw [if_neg h, if_neg (fun z => h (Int32.lt_iff_toInt_lt.mpr z))]
theorem ax_mn {x y : Int32} : (if y < x then y else x).toInt = if y.toInt < x.toInt then y.toInt else x.toInt := by
  by_cases h : y < x
  · rw [if_pos h, if_pos (Int32.lt_iff_toInt_lt.mp h)]
  · rw [if_neg h, if_neg (fun z => h (Int32.lt_iff_toInt_lt.mpr z))]
theorem code_max : Cond.code Lib.Math.max.name Lib.Math.max.code 2 (some .int) ∈ ax_GT := cal_J9_max_7cf53.1
theorem code_min : Cond.code Lib.Math.min.name Lib.Math.min.code 2 (some .int) ∈ ax_GT := cal_J9_min_7cf53.1
theorem aj_mmax {idx : Nat} {x y : Int} (hl : Cond.methodLink (ax_nm own) idx yJ9_max_7cf53 ∈ ax_GT) (hR : 1 ≤ R.frames ∧ 64 ≤ R.locals) (hR2 : kc ≤ R.cells ∧ ks ≤ R.slots) (hz : ax_sz st ≤ 8) (h : decode cc pc = .ok (.invokestatic idx, 3)) (kk : ax_J own cc nL scr R p0 Q kc ks (pc + 3) la (.inl (if x < y then y else x) :: st) M) : ax_J own cc nL scr R p0 Q kc ks pc la (.inl y :: .inl x :: st) M := by
  intro p l e s m args below meth c N0 D QQ ad0 C hret ad ls rs H locs Z L S
  obtain ⟨b, w1, rfl, hb, S1⟩ := ax_st_i S
  obtain ⟨a, w2, rfl, ha, S2⟩ := ax_st_i S1
  subst hb
  subst ha
  refine va_mmax C.1 C.2.1 (by rw [C.2.2.1]; exact L.2.choose_spec.1.1.symm) C.2.2.2.1 (C.2.2.2.2.1 _ hl) (C.2.2.2.2.1 _ stc_J9_max_7cf53) (C.2.2.2.2.1 _ cal_J9_max_7cf53.2.1) (C.2.2.2.2.1 _ code_max) hR.1 ?_ hR2.1 hR2.2 h (kk p l e s m args below meth c N0 D QQ ad0 C hret ad _ _ _ _ Z L ⟨⟨_, rfl, ax_mx⟩, S2⟩)
  have := ax_st_sz S2
  have := hR.2
  omega
theorem aj_mmin {idx : Nat} {x y : Int} (hl : Cond.methodLink (ax_nm own) idx yJ9_min_7cf53 ∈ ax_GT) (hR : 1 ≤ R.frames ∧ 64 ≤ R.locals) (hR2 : kc ≤ R.cells ∧ ks ≤ R.slots) (hz : ax_sz st ≤ 8) (h : decode cc pc = .ok (.invokestatic idx, 3)) (kk : ax_J own cc nL scr R p0 Q kc ks (pc + 3) la (.inl (if y < x then y else x) :: st) M) : ax_J own cc nL scr R p0 Q kc ks pc la (.inl y :: .inl x :: st) M := by
  intro p l e s m args below meth c N0 D QQ ad0 C hret ad ls rs H locs Z L S
  obtain ⟨b, w1, rfl, hb, S1⟩ := ax_st_i S
  obtain ⟨a, w2, rfl, ha, S2⟩ := ax_st_i S1
  subst hb
  subst ha
  refine va_mmin C.1 C.2.1 (by rw [C.2.2.1]; exact L.2.choose_spec.1.1.symm) C.2.2.2.1 (C.2.2.2.2.1 _ hl) (C.2.2.2.2.1 _ stc_J9_min_7cf53) (C.2.2.2.2.1 _ cal_J9_min_7cf53.2.1) (C.2.2.2.2.1 _ code_min) hR.1 ?_ hR2.1 hR2.2 h (kk p l e s m args below meth c N0 D QQ ad0 C hret ad _ _ _ _ Z L ⟨⟨_, rfl, ax_mn⟩, S2⟩)
  have := ax_st_sz S2
  have := hR.2
  omega
end AMX
set_option maxRecDepth 100000 in
set_option maxHeartbeats 4000000 in
theorem cp_compare (a b : Int) (P : Nat → Int → Prop) (g : Nat → Int → Int → Int) (r0 : Nat → Int → Int → Option (Nat × Int)) (n : Nat → Int → Int) : ax_S yJ6_compare_7cf53 cJ6_compare_7cf53 2 (some FieldType.int) 0 0 0 [.inl a, .inl b] (P, g, r0, n) (fun r M' => r = some (.inl (if a < b then -1 else if a = b then 0 else 1)) ∧ M' = (P, g, r0, n)) := by
  refine ax_S_of (own := 13) (by decide) rfl (fun h => absurd h (by decide)) rfl (Nat.le_of_ble_eq_true rfl) ?_
  change ax_J _ _ _ _ _ _ _ _ _ _ [some (.inl a), some (.inl b)] _ _
  refine aj_run (C := True) (pc' := 2) (la' := [some (.inl a), some (.inl b)]) (st' := [.inl b, .inl a]) (M' := (P, g, r0, n)) ok_J6_compare_7cf53 true 2 rfl trivial ?_
  refine aj_icmp_ge (tgt := 9) (ax_dec2 (i := .if_icmp .ge 7) (n := 3) ok_J6_compare_7cf53 rfl) (by decide) (fun c1 => ?_) (fun c1 => ?_)
  · refine aj_run (C := True) (pc' := 11) (la' := [some (.inl a), some (.inl b)]) (st' := [.inl b, .inl a]) (M' := (P, g, r0, n)) ok_J6_compare_7cf53 true 2 rfl trivial ?_
    refine aj_icmp_ne (tgt := 18) (ax_dec2 (i := .if_icmp .ne 7) (n := 3) ok_J6_compare_7cf53 rfl) (by decide) (fun c2 => ?_) (fun c2 => ?_)
    · refine aj_run (C := True) (pc' := 19) (la' := [some (.inl a), some (.inl b)]) (st' := [.inl 1]) (M' := (P, g, r0, n)) ok_J6_compare_7cf53 true 1 rfl trivial ?_
      refine aj_ret (r := some (.inl 1)) (ax_dec2 (i := .ireturn) (n := 1) ok_J6_compare_7cf53 rfl) ⟨?_, ?_, by decide, by decide⟩ rfl
      · exact ⟨ax_si (by (repeat first | rw [if_pos (by omega)] | rw [if_neg (by omega)] | rw [bI_t (by omega)] | rw [bI_f (by omega)])), rfl⟩
      · exact ax_ro_i
    · refine aj_run (C := True) (pc' := 19) (la' := [some (.inl a), some (.inl b)]) (st' := [.inl 0]) (M' := (P, g, r0, n)) ok_J6_compare_7cf53 true 2 rfl trivial ?_
      refine aj_ret (r := some (.inl 0)) (ax_dec2 (i := .ireturn) (n := 1) ok_J6_compare_7cf53 rfl) ⟨?_, ?_, by decide, by decide⟩ rfl
      · exact ⟨ax_si (by (repeat first | rw [if_pos (by omega)] | rw [if_neg (by omega)] | rw [bI_t (by omega)] | rw [bI_f (by omega)])), rfl⟩
      · exact ax_ro_i
  · refine aj_run (C := True) (pc' := 19) (la' := [some (.inl a), some (.inl b)]) (st' := [.inl (-1)]) (M' := (P, g, r0, n)) ok_J6_compare_7cf53 true 2 rfl trivial ?_
    refine aj_ret (r := some (.inl (-1))) (ax_dec2 (i := .ireturn) (n := 1) ok_J6_compare_7cf53 rfl) ⟨?_, ?_, by decide, by decide⟩ rfl
    · exact ⟨ax_si (by (repeat first | rw [if_pos (by omega)] | rw [if_neg (by omega)] | rw [bI_t (by omega)] | rw [bI_f (by omega)])), rfl⟩
    · exact ax_ro_i

/-- Integer.bitCount, as it computes -/
def kBc (x : Int) : Int := ax_and (Int.bmod ((Int.bmod ((ax_and (Int.bmod ((Int.bmod ((ax_and (Int.bmod (x - (ax_and (ax_ush x 1) 1431655765)) 4294967296) 858993459) + (ax_and (ax_ush (Int.bmod (x - (ax_and (ax_ush x 1) 1431655765)) 4294967296) 2) 858993459)) 4294967296) + (ax_ush (Int.bmod ((ax_and (Int.bmod (x - (ax_and (ax_ush x 1) 1431655765)) 4294967296) 858993459) + (ax_and (ax_ush (Int.bmod (x - (ax_and (ax_ush x 1) 1431655765)) 4294967296) 2) 858993459)) 4294967296) 4)) 4294967296) 252645135) + (ax_ush (ax_and (Int.bmod ((Int.bmod ((ax_and (Int.bmod (x - (ax_and (ax_ush x 1) 1431655765)) 4294967296) 858993459) + (ax_and (ax_ush (Int.bmod (x - (ax_and (ax_ush x 1) 1431655765)) 4294967296) 2) 858993459)) 4294967296) + (ax_ush (Int.bmod ((ax_and (Int.bmod (x - (ax_and (ax_ush x 1) 1431655765)) 4294967296) 858993459) + (ax_and (ax_ush (Int.bmod (x - (ax_and (ax_ush x 1) 1431655765)) 4294967296) 2) 858993459)) 4294967296) 4)) 4294967296) 252645135) 8)) 4294967296) + (ax_ush (Int.bmod ((ax_and (Int.bmod ((Int.bmod ((ax_and (Int.bmod (x - (ax_and (ax_ush x 1) 1431655765)) 4294967296) 858993459) + (ax_and (ax_ush (Int.bmod (x - (ax_and (ax_ush x 1) 1431655765)) 4294967296) 2) 858993459)) 4294967296) + (ax_ush (Int.bmod ((ax_and (Int.bmod (x - (ax_and (ax_ush x 1) 1431655765)) 4294967296) 858993459) + (ax_and (ax_ush (Int.bmod (x - (ax_and (ax_ush x 1) 1431655765)) 4294967296) 2) 858993459)) 4294967296) 4)) 4294967296) 252645135) + (ax_ush (ax_and (Int.bmod ((Int.bmod ((ax_and (Int.bmod (x - (ax_and (ax_ush x 1) 1431655765)) 4294967296) 858993459) + (ax_and (ax_ush (Int.bmod (x - (ax_and (ax_ush x 1) 1431655765)) 4294967296) 2) 858993459)) 4294967296) + (ax_ush (Int.bmod ((ax_and (Int.bmod (x - (ax_and (ax_ush x 1) 1431655765)) 4294967296) 858993459) + (ax_and (ax_ush (Int.bmod (x - (ax_and (ax_ush x 1) 1431655765)) 4294967296) 2) 858993459)) 4294967296) 4)) 4294967296) 252645135) 8)) 4294967296) 16)) 4294967296) 63
set_option maxRecDepth 100000 in
set_option maxHeartbeats 4000000 in
theorem cp_bitCount (x : Int) (P : Nat → Int → Prop) (g : Nat → Int → Int → Int) (r0 : Nat → Int → Int → Option (Nat × Int)) (n : Nat → Int → Int) : ax_S yJ6_bitCount_0f7a4 cJ6_bitCount_0f7a4 1 (some FieldType.int) 0 0 0 [.inl x] (P, g, r0, n) (fun r M' => r = some (.inl (kBc x)) ∧ M' = (P, g, r0, n)) := by
  refine ax_S_of (own := 13) (by decide) rfl (fun h => absurd h (by decide)) rfl (Nat.le_of_ble_eq_true rfl) ?_
  change ax_J _ _ _ _ _ _ _ _ _ _ [some (.inl x)] _ _
  refine aj_run (C := True) (pc' := 52) (la' := [some (.inl (Int.bmod ((Int.bmod ((ax_and (Int.bmod ((Int.bmod ((ax_and (Int.bmod (x - (ax_and (ax_ush x 1) 1431655765)) 4294967296) 858993459) + (ax_and (ax_ush (Int.bmod (x - (ax_and (ax_ush x 1) 1431655765)) 4294967296) 2) 858993459)) 4294967296) + (ax_ush (Int.bmod ((ax_and (Int.bmod (x - (ax_and (ax_ush x 1) 1431655765)) 4294967296) 858993459) + (ax_and (ax_ush (Int.bmod (x - (ax_and (ax_ush x 1) 1431655765)) 4294967296) 2) 858993459)) 4294967296) 4)) 4294967296) 252645135) + (ax_ush (ax_and (Int.bmod ((Int.bmod ((ax_and (Int.bmod (x - (ax_and (ax_ush x 1) 1431655765)) 4294967296) 858993459) + (ax_and (ax_ush (Int.bmod (x - (ax_and (ax_ush x 1) 1431655765)) 4294967296) 2) 858993459)) 4294967296) + (ax_ush (Int.bmod ((ax_and (Int.bmod (x - (ax_and (ax_ush x 1) 1431655765)) 4294967296) 858993459) + (ax_and (ax_ush (Int.bmod (x - (ax_and (ax_ush x 1) 1431655765)) 4294967296) 2) 858993459)) 4294967296) 4)) 4294967296) 252645135) 8)) 4294967296) + (ax_ush (Int.bmod ((ax_and (Int.bmod ((Int.bmod ((ax_and (Int.bmod (x - (ax_and (ax_ush x 1) 1431655765)) 4294967296) 858993459) + (ax_and (ax_ush (Int.bmod (x - (ax_and (ax_ush x 1) 1431655765)) 4294967296) 2) 858993459)) 4294967296) + (ax_ush (Int.bmod ((ax_and (Int.bmod (x - (ax_and (ax_ush x 1) 1431655765)) 4294967296) 858993459) + (ax_and (ax_ush (Int.bmod (x - (ax_and (ax_ush x 1) 1431655765)) 4294967296) 2) 858993459)) 4294967296) 4)) 4294967296) 252645135) + (ax_ush (ax_and (Int.bmod ((Int.bmod ((ax_and (Int.bmod (x - (ax_and (ax_ush x 1) 1431655765)) 4294967296) 858993459) + (ax_and (ax_ush (Int.bmod (x - (ax_and (ax_ush x 1) 1431655765)) 4294967296) 2) 858993459)) 4294967296) + (ax_ush (Int.bmod ((ax_and (Int.bmod (x - (ax_and (ax_ush x 1) 1431655765)) 4294967296) 858993459) + (ax_and (ax_ush (Int.bmod (x - (ax_and (ax_ush x 1) 1431655765)) 4294967296) 2) 858993459)) 4294967296) 4)) 4294967296) 252645135) 8)) 4294967296) 16)) 4294967296))]) (st' := [.inl (ax_and (Int.bmod ((Int.bmod ((ax_and (Int.bmod ((Int.bmod ((ax_and (Int.bmod (x - (ax_and (ax_ush x 1) 1431655765)) 4294967296) 858993459) + (ax_and (ax_ush (Int.bmod (x - (ax_and (ax_ush x 1) 1431655765)) 4294967296) 2) 858993459)) 4294967296) + (ax_ush (Int.bmod ((ax_and (Int.bmod (x - (ax_and (ax_ush x 1) 1431655765)) 4294967296) 858993459) + (ax_and (ax_ush (Int.bmod (x - (ax_and (ax_ush x 1) 1431655765)) 4294967296) 2) 858993459)) 4294967296) 4)) 4294967296) 252645135) + (ax_ush (ax_and (Int.bmod ((Int.bmod ((ax_and (Int.bmod (x - (ax_and (ax_ush x 1) 1431655765)) 4294967296) 858993459) + (ax_and (ax_ush (Int.bmod (x - (ax_and (ax_ush x 1) 1431655765)) 4294967296) 2) 858993459)) 4294967296) + (ax_ush (Int.bmod ((ax_and (Int.bmod (x - (ax_and (ax_ush x 1) 1431655765)) 4294967296) 858993459) + (ax_and (ax_ush (Int.bmod (x - (ax_and (ax_ush x 1) 1431655765)) 4294967296) 2) 858993459)) 4294967296) 4)) 4294967296) 252645135) 8)) 4294967296) + (ax_ush (Int.bmod ((ax_and (Int.bmod ((Int.bmod ((ax_and (Int.bmod (x - (ax_and (ax_ush x 1) 1431655765)) 4294967296) 858993459) + (ax_and (ax_ush (Int.bmod (x - (ax_and (ax_ush x 1) 1431655765)) 4294967296) 2) 858993459)) 4294967296) + (ax_ush (Int.bmod ((ax_and (Int.bmod (x - (ax_and (ax_ush x 1) 1431655765)) 4294967296) 858993459) + (ax_and (ax_ush (Int.bmod (x - (ax_and (ax_ush x 1) 1431655765)) 4294967296) 2) 858993459)) 4294967296) 4)) 4294967296) 252645135) + (ax_ush (ax_and (Int.bmod ((Int.bmod ((ax_and (Int.bmod (x - (ax_and (ax_ush x 1) 1431655765)) 4294967296) 858993459) + (ax_and (ax_ush (Int.bmod (x - (ax_and (ax_ush x 1) 1431655765)) 4294967296) 2) 858993459)) 4294967296) + (ax_ush (Int.bmod ((ax_and (Int.bmod (x - (ax_and (ax_ush x 1) 1431655765)) 4294967296) 858993459) + (ax_and (ax_ush (Int.bmod (x - (ax_and (ax_ush x 1) 1431655765)) 4294967296) 2) 858993459)) 4294967296) 4)) 4294967296) 252645135) 8)) 4294967296) 16)) 4294967296) 63)]) (M' := (P, g, r0, n)) ok_J6_bitCount_0f7a4 false 41 rfl trivial ?_
  refine aj_ret (r := some (.inl (ax_and (Int.bmod ((Int.bmod ((ax_and (Int.bmod ((Int.bmod ((ax_and (Int.bmod (x - (ax_and (ax_ush x 1) 1431655765)) 4294967296) 858993459) + (ax_and (ax_ush (Int.bmod (x - (ax_and (ax_ush x 1) 1431655765)) 4294967296) 2) 858993459)) 4294967296) + (ax_ush (Int.bmod ((ax_and (Int.bmod (x - (ax_and (ax_ush x 1) 1431655765)) 4294967296) 858993459) + (ax_and (ax_ush (Int.bmod (x - (ax_and (ax_ush x 1) 1431655765)) 4294967296) 2) 858993459)) 4294967296) 4)) 4294967296) 252645135) + (ax_ush (ax_and (Int.bmod ((Int.bmod ((ax_and (Int.bmod (x - (ax_and (ax_ush x 1) 1431655765)) 4294967296) 858993459) + (ax_and (ax_ush (Int.bmod (x - (ax_and (ax_ush x 1) 1431655765)) 4294967296) 2) 858993459)) 4294967296) + (ax_ush (Int.bmod ((ax_and (Int.bmod (x - (ax_and (ax_ush x 1) 1431655765)) 4294967296) 858993459) + (ax_and (ax_ush (Int.bmod (x - (ax_and (ax_ush x 1) 1431655765)) 4294967296) 2) 858993459)) 4294967296) 4)) 4294967296) 252645135) 8)) 4294967296) + (ax_ush (Int.bmod ((ax_and (Int.bmod ((Int.bmod ((ax_and (Int.bmod (x - (ax_and (ax_ush x 1) 1431655765)) 4294967296) 858993459) + (ax_and (ax_ush (Int.bmod (x - (ax_and (ax_ush x 1) 1431655765)) 4294967296) 2) 858993459)) 4294967296) + (ax_ush (Int.bmod ((ax_and (Int.bmod (x - (ax_and (ax_ush x 1) 1431655765)) 4294967296) 858993459) + (ax_and (ax_ush (Int.bmod (x - (ax_and (ax_ush x 1) 1431655765)) 4294967296) 2) 858993459)) 4294967296) 4)) 4294967296) 252645135) + (ax_ush (ax_and (Int.bmod ((Int.bmod ((ax_and (Int.bmod (x - (ax_and (ax_ush x 1) 1431655765)) 4294967296) 858993459) + (ax_and (ax_ush (Int.bmod (x - (ax_and (ax_ush x 1) 1431655765)) 4294967296) 2) 858993459)) 4294967296) + (ax_ush (Int.bmod ((ax_and (Int.bmod (x - (ax_and (ax_ush x 1) 1431655765)) 4294967296) 858993459) + (ax_and (ax_ush (Int.bmod (x - (ax_and (ax_ush x 1) 1431655765)) 4294967296) 2) 858993459)) 4294967296) 4)) 4294967296) 252645135) 8)) 4294967296) 16)) 4294967296) 63))) (ax_dec2 (i := .ireturn) (n := 1) ok_J6_bitCount_0f7a4 rfl) ⟨?_, ?_, by decide, by decide⟩ rfl
  · exact ⟨rfl, rfl⟩
  · exact ax_ro_i

/-- the ants on the plank's board: where they are, their arrays, their classes -/
def cAn (P : Nat → Int → Prop) (r0 : Nat → Int → Int → Option (Nat × Int)) (n : Nat → Int → Int) (sz : Int) : Prop := (n 200 0 = 7 ∧ 0 ≤ sz ∧ sz ≤ 7) ∧ ∀ a, 0 ≤ a → a < sz → (r0 200 0 a = some (5, a) ∧ P 5 a) ∧ (n 500 a = 4 ∧ n 501 a = 4) ∧ k6 (n 5 a)
set_option maxRecDepth 100000 in
set_option maxHeartbeats 4000000 in
theorem cp_forget (P : Nat → Int → Prop) (g : Nat → Int → Int → Int) (r0 : Nat → Int → Int → Option (Nat × Int)) (n : Nat → Int → Int) (hst : 0 ≤ g 2 0 11 ∧ g 2 0 11 ≤ 1000000) : ax_S yX2_forget cX2_forget 1 none 0 0 0 [.inr (.inr (some (2, 0)))] (P, g, r0, n) (fun r M' => r = none ∧ M' = (P, ax_u3 g 2 0 11 (g 2 0 11 + 1), r0, n)) := by
  refine ax_S_of (own := 2) (by decide) rfl (fun h => absurd h (by decide)) rfl (Nat.le_of_ble_eq_true rfl) ?_
  change ax_J _ _ _ _ _ _ _ _ _ _ [some (.inr (.inr (some (2, 0))))] _ _
  refine aj_run (C := (-2147483648 ≤ (g 2 0 11) + 1 ∧ (g 2 0 11) + 1 ≤ 2147483647) ∧ True) (pc' := 10) (la' := [some (.inr (.inr (some (2, 0))))]) (st' := []) (M' := (P, ax_u3 g 2 0 11 ((g 2 0 11) + 1), r0, n)) ok_X2_forget true 6 rfl (by refine ⟨?_, trivial⟩ <;> (omega)) ?_
  refine aj_ret (r := none) (ax_dec2 (i := .return_) (n := 1) ok_X2_forget rfl) ⟨?_, ?_, by decide, by decide⟩ rfl
  · exact ⟨rfl, rfl⟩
  · exact trivial

set_option maxRecDepth 100000 in
set_option maxHeartbeats 4000000 in
theorem cp_ways (P : Nat → Int → Prop) (g : Nat → Int → Int → Int) (r0 : Nat → Int → Int → Option (Nat × Int)) (n : Nat → Int → Int) : ax_S yX2_ways cX2_ways 1 (some FieldType.int) 0 0 0 [.inr (.inr (some (2, 0)))] (P, g, r0, n) (fun r M' => r = some (.inl (ax_shl 1 (g 2 0 1))) ∧ M' = (P, g, r0, n)) := by
  refine ax_S_of (own := 2) (by decide) rfl (fun h => absurd h (by decide)) rfl (Nat.le_of_ble_eq_true rfl) ?_
  change ax_J _ _ _ _ _ _ _ _ _ _ [some (.inr (.inr (some (2, 0))))] _ _
  refine aj_run (C := True) (pc' := 6) (la' := [some (.inr (.inr (some (2, 0))))]) (st' := [.inl (ax_shl 1 (g 2 0 1))]) (M' := (P, g, r0, n)) ok_X2_ways true 4 rfl trivial ?_
  refine aj_ret (r := some (.inl (ax_shl 1 (g 2 0 1)))) (ax_dec2 (i := .ireturn) (n := 1) ok_X2_ways rfl) ⟨?_, ?_, by decide, by decide⟩ rfl
  · exact ⟨rfl, rfl⟩
  · exact ax_ro_i

set_option maxRecDepth 100000 in
set_option maxHeartbeats 4000000 in
theorem cp_wayAsTold (P : Nat → Int → Prop) (g : Nat → Int → Int → Int) (r0 : Nat → Int → Int → Option (Nat × Int)) (n : Nat → Int → Int) (hA : cAn P r0 n (g 2 0 1)) : ax_S yX2_wayAsTold cX2_wayAsTold 3 (some FieldType.int) 0 0 0 [.inr (.inr (some (2, 0)))] (P, g, r0, n) (fun r M' => r = some (.inl (wSet (fun q => g 500 q 1) (g 2 0 1))) ∧ M' = (P, g, r0, n)) := by
  have hA1 := hA.1
  refine ax_S_of (own := 2) (by decide) rfl (fun h => absurd h (by decide)) rfl (Nat.le_of_ble_eq_true rfl) ?_
  change ax_J _ _ _ _ _ _ _ _ _ _ [some (.inr (.inr (some (2, 0)))), none, none] _ _
  refine aj_run (C := True) (pc' := 4) (la' := [some (.inr (.inr (some (2, 0)))), some (.inl 0), some (.inl 0)]) (st' := []) (M' := (P, g, r0, n)) ok_X2_wayAsTold true 4 rfl trivial ?_
  refine aj_cast (congrArg (fun (z9 : Int) => ([some (.inr (.inr (some (2, 0)))), some (.inl z9), some (.inl 0)] : List (Option ax_V))) (show 0 = wSet (fun q => g 500 q 1) 0 from by rfl)) rfl rfl ?_
  refine aj_loop (σ := (Int)) (fun xL => 0 ≤ xL ∧ xL ≤ g 2 0 1) (fun xL => (g 2 0 1 - xL).toNat) (fun xL => [some (.inr (.inr (some (2, 0)))), some (.inl (wSet (fun q => g 500 q 1) xL)), some (.inl xL)]) (fun xL => []) (fun xL => (P, g, r0, n)) ?_ (0) ?_
  rotate_left
  · omega
  rintro a hI ih4
  try dsimp only at hI ih4
  obtain ⟨i1, i2⟩ := hI
  change ax_J _ _ _ _ _ _ _ _ _ 4 [some (.inr (.inr (some (2, 0)))), some (.inl (wSet (fun q => g 500 q 1) a)), some (.inl a)] [] (P, g, r0, n)
  refine aj_run (C := True) (pc' := 9) (la' := [some (.inr (.inr (some (2, 0)))), some (.inl (wSet (fun q => g 500 q 1) a)), some (.inl a)]) (st' := [.inl (g 2 0 1), .inl a]) (M' := (P, g, r0, n)) ok_X2_wayAsTold true 3 rfl trivial ?_
  refine aj_icmp_ge (tgt := 34) (ax_dec2 (i := .if_icmp .ge 25) (n := 3) ok_X2_wayAsTold rfl) (by decide) (fun c1 => ?_) (fun c1 => ?_)
  · refine aj_run (C := True) (pc' := 35) (la' := [some (.inr (.inr (some (2, 0)))), some (.inl (wSet (fun q => g 500 q 1) a)), some (.inl a)]) (st' := [.inl (wSet (fun q => g 500 q 1) a)]) (M' := (P, g, r0, n)) ok_X2_wayAsTold true 1 rfl trivial ?_
    refine aj_ret (r := some (.inl (wSet (fun q => g 500 q 1) a))) (ax_dec2 (i := .ireturn) (n := 1) ok_X2_wayAsTold rfl) ⟨?_, ?_, by decide, by decide⟩ rfl
    · exact ⟨ax_si (by rw [show a = g 2 0 1 by omega]), rfl⟩
    · exact ax_ro_i
  · refine aj_run (C := True) (pc' := 18) (la' := [some (.inr (.inr (some (2, 0)))), some (.inl (wSet (fun q => g 500 q 1) a)), some (.inl a)]) (st' := [.inl a, .inr (.inr (some (200, 0))), .inl (wSet (fun q => g 500 q 1) a)]) (M' := (P, g, r0, n)) ok_X2_wayAsTold true 4 rfl trivial ?_
    refine aj_aald (f := 200) (g := 5) (o := 0) (i := a) (u := a) (E := "AntsTurn$Ant") rfl rfl rfl ⟨by omega, by have z9 := hA.1.1; show a < n 200 0; omega⟩ (hA.2 a (by omega) (by omega)).1.1 (hA.2 a (by omega) (by omega)).1.2 (ax_dec2 (i := .aaload) (n := 1) ok_X2_wayAsTold rfl) ?_
    refine aj_run (C := (0 ≤ 1 ∧ 1 < n 500 a) ∧ (-2147483648 ≤ a + 1 ∧ a + 1 ≤ 2147483647) ∧ True) (pc' := 4) (la' := [some (.inr (.inr (some (2, 0)))), some (.inl (ax_or (wSet (fun q => g 500 q 1) a) (ax_shl (g 500 a 1) a))), some (.inl (a + 1))]) (st' := []) (M' := (P, g, r0, n)) ok_X2_wayAsTold true 9 rfl (by refine ⟨?_, ?_, trivial⟩ <;> (first | omega | (have z9 := (hA.2 a (by omega) (by omega)).2.1.1; omega))) ?_
    refine aj_cast (congrArg (fun (z9 : Int) => ([some (.inr (.inr (some (2, 0)))), some (.inl z9), some (.inl (a + 1))] : List (Option ax_V))) (show ax_or (wSet (fun q => g 500 q 1) a) (ax_shl (g 500 a 1) a) = wSet (fun q => g 500 q 1) (a + 1) from by (unfold wSet; rw [wFI_s i1]))) rfl rfl ?_
    refine ih4 (a + 1) ?_ ?_
    · omega
    · omega

def cBgV (way a j : Int) : Int := if j = 4 then ax_and (ax_shr way a) 1 else if j = 9 ∨ j = 10 then -1 else 0
def cBg (g : Nat → Int → Int → Int) (way m : Int) : Nat → Int → Int → Int := fun f o j => if f = 5 ∧ (0 ≤ o ∧ o < m) ∧ 2 ≤ j ∧ j ≤ 10 then cBgV way o j else g f o j
theorem cBg_0 {g : Nat → Int → Int → Int} {way : Int} : g = cBg g way 0 := by
  funext f o j
  unfold cBg
  rw [if_neg (by omega)]
theorem cBg_s {g : Nat → Int → Int → Int} {way a : Int} (h : 0 ≤ a) : cBegA (cBg g way a) a (ax_and (ax_shr way a) 1) = cBg g way (a + 1) := by
  funext f o j
  unfold cBegA
  by_cases q : f = 5 ∧ o = a ∧ 2 ≤ j ∧ j ≤ 10
  · obtain ⟨rfl, rfl, q1, q2⟩ := q
    have hw : cBg g way (o + 1) 5 o j = cBgV way o j := by unfold cBg; rw [if_pos ⟨rfl, by omega, q1, q2⟩]
    rw [hw]
    have e : j = 2 ∨ j = 3 ∨ j = 4 ∨ j = 5 ∨ j = 6 ∨ j = 7 ∨ j = 8 ∨ j = 9 ∨ j = 10 := by omega
    rcases e with rfl | rfl | rfl | rfl | rfl | rfl | rfl | rfl | rfl <;> simp [ax_u3, cBgV]
  · rw [ax_u3_n (by omega), ax_u3_n (by omega), ax_u3_n (by omega), ax_u3_n (by omega), ax_u3_n (by omega), ax_u3_n (by omega), ax_u3_n (by omega), ax_u3_n (by omega), ax_u3_n (by omega)]
    unfold cBg
    by_cases q2 : f = 5 ∧ (0 ≤ o ∧ o < a) ∧ 2 ≤ j ∧ j ≤ 10
    · rw [if_pos q2, if_pos (by omega)]
    · rw [if_neg q2, if_neg (by omega)]
def cBegin (g : Nat → Int → Int → Int) (way th : Int) : Nat → Int → Int → Int := ax_u3 (ax_u3 (ax_u3 (ax_u3 (ax_u3 (ax_u3 (cBg g way (g 2 0 1)) 2 0 13 th) 2 0 5 (-1)) 2 0 6 0) 2 0 7 (-1)) 2 0 12 (-1)) 2 0 8 (g 2 0 1)
set_option maxRecDepth 100000 in
set_option maxHeartbeats 4000000 in
theorem cp_begin (way th : Int) (P : Nat → Int → Prop) (g : Nat → Int → Int → Int) (r0 : Nat → Int → Int → Option (Nat × Int)) (n : Nat → Int → Int) (hA : cAn P r0 n (g 2 0 1)) (hth : th = 0 ∨ th = 1) : ax_S yX2_begin cX2_begin 4 none 9 0 0 [.inr (.inr (some (2, 0))), .inl way, .inl th] (P, g, r0, n) (fun r M' => r = none ∧ M' = (P, cBegin g way th, r0, n)) := by
  have hA1 := hA.1
  refine ax_S_of (own := 2) (by decide) rfl (fun h => absurd h (by decide)) rfl (Nat.le_of_ble_eq_true rfl) ?_
  change ax_J _ _ _ _ _ _ _ _ _ _ [some (.inr (.inr (some (2, 0)))), some (.inl way), some (.inl th), none] _ _
  refine aj_run (C := True) (pc' := 2) (la' := [some (.inr (.inr (some (2, 0)))), some (.inl way), some (.inl th), some (.inl 0)]) (st' := []) (M' := (P, g, r0, n)) ok_X2_begin true 2 rfl trivial ?_
  refine aj_cast rfl rfl (congrArg (fun z9 => ((P, z9, r0, n) : ax_Mm)) (show g = cBg g way 0 from by exact cBg_0)) ?_
  refine aj_loop (σ := (Int)) (fun xL => 0 ≤ xL ∧ xL ≤ g 2 0 1) (fun xL => (g 2 0 1 - xL).toNat) (fun xL => [some (.inr (.inr (some (2, 0)))), some (.inl way), some (.inl th), some (.inl xL)]) (fun xL => []) (fun xL => (P, cBg g way xL, r0, n)) ?_ (0) ?_
  rotate_left
  · omega
  rintro a hI ih2
  try dsimp only at hI ih2
  obtain ⟨i1, i2⟩ := hI
  change ax_J _ _ _ _ _ _ _ _ _ 2 [some (.inr (.inr (some (2, 0)))), some (.inl way), some (.inl th), some (.inl a)] [] (P, cBg g way a, r0, n)
  refine aj_run (C := True) (pc' := 7) (la' := [some (.inr (.inr (some (2, 0)))), some (.inl way), some (.inl th), some (.inl a)]) (st' := [.inl (g 2 0 1), .inl a]) (M' := (P, cBg g way a, r0, n)) ok_X2_begin true 3 rfl trivial ?_
  refine aj_icmp_ge (tgt := 30) (ax_dec2 (i := .if_icmp .ge 23) (n := 3) ok_X2_begin rfl) (by decide) (fun c1 => ?_) (fun c1 => ?_)
  · refine aj_run (C := (th = 0 ∨ th = 1) ∧ True) (pc' := 63) (la' := [some (.inr (.inr (some (2, 0)))), some (.inl way), some (.inl th), some (.inl a)]) (st' := []) (M' := (P, ax_u3 (ax_u3 (ax_u3 (ax_u3 (ax_u3 (ax_u3 (cBg g way a) 2 0 13 th) 2 0 5 (-1)) 2 0 6 0) 2 0 7 (-1)) 2 0 12 (-1)) 2 0 8 (g 2 0 1), r0, n)) ok_X2_begin true 19 rfl (by refine ⟨?_, trivial⟩ <;> (first | exact hth | omega)) ?_
    refine aj_ret (r := none) (ax_dec2 (i := .return_) (n := 1) ok_X2_begin rfl) ⟨?_, ?_, by decide, by decide⟩ rfl
    · exact ⟨rfl, by rw [show a = g 2 0 1 by omega]; rfl⟩
    · exact trivial
  · refine aj_run (C := True) (pc' := 15) (la' := [some (.inr (.inr (some (2, 0)))), some (.inl way), some (.inl th), some (.inl a)]) (st' := [.inl a, .inr (.inr (some (200, 0)))]) (M' := (P, cBg g way a, r0, n)) ok_X2_begin true 3 rfl trivial ?_
    refine aj_aald (f := 200) (g := 5) (o := 0) (i := a) (u := a) (E := "AntsTurn$Ant") rfl rfl rfl ⟨by omega, by have z9 := hA.1.1; show a < n 200 0; omega⟩ (hA.2 a (by omega) (by omega)).1.1 (hA.2 a (by omega) (by omega)).1.2 (ax_dec2 (i := .aaload) (n := 1) ok_X2_begin rfl) ?_
    refine aj_run (C := True) (pc' := 21) (la' := [some (.inr (.inr (some (2, 0)))), some (.inl way), some (.inl th), some (.inl a)]) (st' := [.inl (ax_and (ax_shr way a) 1), .inr (.inr (some (5, a)))]) (M' := (P, cBg g way a, r0, n)) ok_X2_begin true 5 rfl trivial ?_
    refine aj_d_begin lk_2_46 (hA.2 a (by omega) (by omega)).2.2 ⟨by decide, by decide, by decide, by decide⟩ (Nat.le_of_ble_eq_true rfl) (ax_dec2 (i := .invokevirtual 46) (n := 3) ok_X2_begin rfl) ?_
    change ax_J _ _ _ _ _ _ _ _ _ 24 [some (.inr (.inr (some (2, 0)))), some (.inl way), some (.inl th), some (.inl a)] [] (P, cBegA (cBg g way a) a (ax_and (ax_shr way a) 1), r0, n)
    refine aj_run (C := (-2147483648 ≤ a + 1 ∧ a + 1 ≤ 2147483647) ∧ True) (pc' := 2) (la' := [some (.inr (.inr (some (2, 0)))), some (.inl way), some (.inl th), some (.inl (a + 1))]) (st' := []) (M' := (P, cBegA (cBg g way a) a (ax_and (ax_shr way a) 1), r0, n)) ok_X2_begin true 2 rfl (by refine ⟨?_, trivial⟩ <;> (first | exact hth | omega)) ?_
    refine aj_cast rfl rfl (congrArg (fun z9 => ((P, z9, r0, n) : ax_Mm)) (show cBegA (cBg g way a) a (ax_and (ax_shr way a) 1) = cBg g way (a + 1) from by exact cBg_s i1)) ?_
    refine ih2 (a + 1) ?_ ?_
    · omega
    · omega

set_option maxRecDepth 100000 in
set_option maxHeartbeats 4000000 in
theorem cp_stepped (x : Int) (P : Nat → Int → Prop) (g : Nat → Int → Int → Int) (r0 : Nat → Int → Int → Option (Nat × Int)) (n : Nat → Int → Int) (hk : 2 ≤ g 2 0 2 ∧ g 2 0 2 ≤ 40) : ax_S yX2_stepped cX2_stepped 2 (some FieldType.int) 0 0 0 [.inr (.inr (some (2, 0))), .inl x] (P, g, r0, n) (fun r M' => r = some (.inl (if x < 0 then 2 * g 2 0 2 - 1 else if g 2 0 3 = 1 ∧ 2 * g 2 0 2 ≤ x then 0 else x)) ∧ M' = (P, g, r0, n)) := by
  refine ax_S_of (own := 2) (by decide) rfl (fun h => absurd h (by decide)) rfl (Nat.le_of_ble_eq_true rfl) ?_
  change ax_J _ _ _ _ _ _ _ _ _ _ [some (.inr (.inr (some (2, 0)))), some (.inl x)] _ _
  refine aj_run (C := True) (pc' := 1) (la' := [some (.inr (.inr (some (2, 0)))), some (.inl x)]) (st' := [.inl x]) (M' := (P, g, r0, n)) ok_X2_stepped true 1 rfl trivial ?_
  refine aj_if_ge (tgt := 13) (ax_dec2 (i := .ifCond .ge 12) (n := 3) ok_X2_stepped rfl) (by decide) (fun c1 => ?_) (fun c1 => ?_)
  · refine aj_run (C := True) (pc' := 18) (la' := [some (.inr (.inr (some (2, 0)))), some (.inl x)]) (st' := [.inl 1, .inl (g 2 0 3)]) (M' := (P, g, r0, n)) ok_X2_stepped true 3 rfl trivial ?_
    refine aj_icmp_ne (tgt := 35) (ax_dec2 (i := .if_icmp .ne 17) (n := 3) ok_X2_stepped rfl) (by decide) (fun c2 => ?_) (fun c2 => ?_)
    · refine aj_run (C := True) (pc' := 36) (la' := [some (.inr (.inr (some (2, 0)))), some (.inl x)]) (st' := [.inl x]) (M' := (P, g, r0, n)) ok_X2_stepped true 1 rfl trivial ?_
      refine aj_ret (r := some (.inl x)) (ax_dec2 (i := .ireturn) (n := 1) ok_X2_stepped rfl) ⟨?_, ?_, by decide, by decide⟩ rfl
      · exact ⟨ax_si (by (repeat first | rw [if_pos (by omega)] | rw [if_neg (by omega)] | rw [bI_t (by omega)] | rw [bI_f (by omega)])), rfl⟩
      · exact ax_ro_i
    · refine aj_run (C := (-2147483648 ≤ 2 * (g 2 0 2) ∧ 2 * (g 2 0 2) ≤ 2147483647) ∧ True) (pc' := 28) (la' := [some (.inr (.inr (some (2, 0)))), some (.inl x)]) (st' := [.inl (2 * (g 2 0 2)), .inl x]) (M' := (P, g, r0, n)) ok_X2_stepped true 5 rfl (by refine ⟨?_, trivial⟩ <;> (omega)) ?_
      refine aj_icmp_lt (tgt := 35) (ax_dec2 (i := .if_icmp .lt 7) (n := 3) ok_X2_stepped rfl) (by decide) (fun c3 => ?_) (fun c3 => ?_)
      · refine aj_run (C := True) (pc' := 36) (la' := [some (.inr (.inr (some (2, 0)))), some (.inl x)]) (st' := [.inl x]) (M' := (P, g, r0, n)) ok_X2_stepped true 1 rfl trivial ?_
        refine aj_ret (r := some (.inl x)) (ax_dec2 (i := .ireturn) (n := 1) ok_X2_stepped rfl) ⟨?_, ?_, by decide, by decide⟩ rfl
        · exact ⟨ax_si (by (repeat first | rw [if_pos (by omega)] | rw [if_neg (by omega)] | rw [bI_t (by omega)] | rw [bI_f (by omega)])), rfl⟩
        · exact ax_ro_i
      · refine aj_run (C := True) (pc' := 36) (la' := [some (.inr (.inr (some (2, 0)))), some (.inl x)]) (st' := [.inl 0]) (M' := (P, g, r0, n)) ok_X2_stepped true 2 rfl trivial ?_
        refine aj_ret (r := some (.inl 0)) (ax_dec2 (i := .ireturn) (n := 1) ok_X2_stepped rfl) ⟨?_, ?_, by decide, by decide⟩ rfl
        · exact ⟨ax_si (by (repeat first | rw [if_pos (by omega)] | rw [if_neg (by omega)] | rw [bI_t (by omega)] | rw [bI_f (by omega)])), rfl⟩
        · exact ax_ro_i
  · refine aj_run (C := (-2147483648 ≤ 2 * (g 2 0 2) ∧ 2 * (g 2 0 2) ≤ 2147483647) ∧ (-2147483648 ≤ (2 * (g 2 0 2)) - 1 ∧ (2 * (g 2 0 2)) - 1 ≤ 2147483647) ∧ True) (pc' := 12) (la' := [some (.inr (.inr (some (2, 0)))), some (.inl x)]) (st' := [.inl ((2 * (g 2 0 2)) - 1)]) (M' := (P, g, r0, n)) ok_X2_stepped true 6 rfl (by refine ⟨?_, ?_, trivial⟩ <;> (omega)) ?_
    refine aj_ret (r := some (.inl ((2 * (g 2 0 2)) - 1))) (ax_dec2 (i := .ireturn) (n := 1) ok_X2_stepped rfl) ⟨?_, ?_, by decide, by decide⟩ rfl
    · exact ⟨ax_si (by (repeat first | rw [if_pos (by omega)] | rw [if_neg (by omega)] | rw [bI_t (by omega)] | rw [bI_f (by omega)])), rfl⟩
    · exact ax_ro_i

