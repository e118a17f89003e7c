/-! ===== what the Statement gives of the start, in the words of the walks ===== -/
theorem tb_1 {w : Cond} {i : Nat} (h : tables_1_1[i]? = some w) : w ∈ lw_tbl := List.mem_append_right _ (have h := List.mem_of_getElem? h; (List.mem_append_left _ h : w ∈ tables_1))
theorem tb_2 {w : Cond} {i : Nat} (h : tables_1_2[i]? = some w) : w ∈ lw_tbl := List.mem_append_right _ (have h := List.mem_of_getElem? h; (List.mem_append_right _ (List.mem_append_left _ h) : w ∈ tables_1))
theorem tb_3 {w : Cond} {i : Nat} (h : tables_1_3[i]? = some w) : w ∈ lw_tbl := List.mem_append_right _ (have h := List.mem_of_getElem? h; (List.mem_append_right _ (List.mem_append_right _ (List.mem_append_left _ h)) : w ∈ tables_1))
theorem tb_4 {w : Cond} {i : Nat} (h : tables_1_4[i]? = some w) : w ∈ lw_tbl := List.mem_append_right _ (have h := List.mem_of_getElem? h; (List.mem_append_right _ (List.mem_append_right _ (List.mem_append_right _ (List.mem_append_left _ h))) : w ∈ tables_1))
theorem tb_5 {w : Cond} {i : Nat} (h : tables_1_5[i]? = some w) : w ∈ lw_tbl := List.mem_append_right _ (have h := List.mem_of_getElem? h; (List.mem_append_right _ (List.mem_append_right _ (List.mem_append_right _ (List.mem_append_right _ (List.mem_append_left _ h)))) : w ∈ tables_1))
theorem tb_6 {w : Cond} {i : Nat} (h : tables_1_6[i]? = some w) : w ∈ lw_tbl := List.mem_append_right _ (have h := List.mem_of_getElem? h; (List.mem_append_right _ (List.mem_append_right _ (List.mem_append_right _ (List.mem_append_right _ (List.mem_append_right _ (List.mem_append_left _ h))))) : w ∈ tables_1))
theorem tb_7 {w : Cond} {i : Nat} (h : tables_1_7[i]? = some w) : w ∈ lw_tbl := List.mem_append_right _ (have h := List.mem_of_getElem? h; (List.mem_append_right _ (List.mem_append_right _ (List.mem_append_right _ (List.mem_append_right _ (List.mem_append_right _ (List.mem_append_right _ (h)))))) : w ∈ tables_1))
def tmS (i : Nat) : Term := Term.string (ax_ks.getD i ("", 0, "")).1 (ax_ks.getD i ("", 0, "")).2.1
abbrev gvL : List Cond := flatC (Jvm.Cond.and given_1 narrow_1)
set_option maxRecDepth 100000 in
theorem st_ex' : ∀ i, i < 13 → gvL[([132, 167, 176, 186, 197, 207, 219, 232, 248, 265, 282, 300, 321] : List Nat).getD i 0]? = some (Cond.exactly (tmS i) "java/lang/String") := by decide +kernel
theorem st_ex : ∀ i, i < 13 → Cond.exactly (tmS i) "java/lang/String" ∈ gvL := fun i hi => List.mem_of_getElem? (st_ex' i hi)
set_option maxRecDepth 100000 in
theorem st_co' : ∀ i, i < 13 → gvL[([133, 168, 177, 187, 198, 208, 220, 233, 249, 266, 283, 301, 322] : List Nat).getD i 0]? = some (Cond.eq (.field (tmS i) "java/lang/String" "coder" "B") (.int 0)) := by decide +kernel
theorem st_co : ∀ i, i < 13 → Cond.eq (.field (tmS i) "java/lang/String" "coder" "B") (.int 0) ∈ gvL := fun i hi => List.mem_of_getElem? (st_co' i hi)
set_option maxRecDepth 100000 in
theorem st_ar' : ∀ i, i < 13 → gvL[([134, 169, 178, 188, 199, 209, 221, 234, 250, 267, 284, 302, 323] : List Nat).getD i 0]? = some (Cond.arrayOf (.field (tmS i) "java/lang/String" "value" "[B") .byte) := by decide +kernel
theorem st_ar : ∀ i, i < 13 → Cond.arrayOf (.field (tmS i) "java/lang/String" "value" "[B") .byte ∈ gvL := fun i hi => List.mem_of_getElem? (st_ar' i hi)
set_option maxRecDepth 100000 in
theorem st_le' : ∀ i, i < 13 → gvL[([135, 170, 179, 189, 200, 210, 222, 235, 251, 268, 285, 303, 324] : List Nat).getD i 0]? = some (Cond.eq (.length (.field (tmS i) "java/lang/String" "value" "[B")) (.int (Int32.ofNat (ax_klen.getD i 0)))) := by decide +kernel
theorem st_le : ∀ i, i < 13 → Cond.eq (.length (.field (tmS i) "java/lang/String" "value" "[B")) (.int (Int32.ofNat (ax_klen.getD i 0))) ∈ gvL := fun i hi => List.mem_of_getElem? (st_le' i hi)
set_option maxRecDepth 100000 in
theorem st_el0 : ∀ j, j < 31 → gvL[136 + j]? = some (Cond.eq (.elem (.field (tmS 0) "java/lang/String" "value" "[B") (.int (Int32.ofNat j))) (.int ((ax_kbyt.getD 0 []).getD j 0))) := by decide +kernel
set_option maxRecDepth 100000 in
theorem st_el1 : ∀ j, j < 4 → gvL[171 + j]? = some (Cond.eq (.elem (.field (tmS 1) "java/lang/String" "value" "[B") (.int (Int32.ofNat j))) (.int ((ax_kbyt.getD 1 []).getD j 0))) := by decide +kernel
set_option maxRecDepth 100000 in
theorem st_el2 : ∀ j, j < 4 → gvL[180 + j]? = some (Cond.eq (.elem (.field (tmS 2) "java/lang/String" "value" "[B") (.int (Int32.ofNat j))) (.int ((ax_kbyt.getD 2 []).getD j 0))) := by decide +kernel
set_option maxRecDepth 100000 in
theorem st_el3 : ∀ j, j < 4 → gvL[190 + j]? = some (Cond.eq (.elem (.field (tmS 3) "java/lang/String" "value" "[B") (.int (Int32.ofNat j))) (.int ((ax_kbyt.getD 3 []).getD j 0))) := by decide +kernel
set_option maxRecDepth 100000 in
theorem st_el4 : ∀ j, j < 2 → gvL[201 + j]? = some (Cond.eq (.elem (.field (tmS 4) "java/lang/String" "value" "[B") (.int (Int32.ofNat j))) (.int ((ax_kbyt.getD 4 []).getD j 0))) := by decide +kernel
set_option maxRecDepth 100000 in
theorem st_el5 : ∀ j, j < 3 → gvL[211 + j]? = some (Cond.eq (.elem (.field (tmS 5) "java/lang/String" "value" "[B") (.int (Int32.ofNat j))) (.int ((ax_kbyt.getD 5 []).getD j 0))) := by decide +kernel
set_option maxRecDepth 100000 in
theorem st_el6 : ∀ j, j < 3 → gvL[223 + j]? = some (Cond.eq (.elem (.field (tmS 6) "java/lang/String" "value" "[B") (.int (Int32.ofNat j))) (.int ((ax_kbyt.getD 6 []).getD j 0))) := by decide +kernel
set_option maxRecDepth 100000 in
theorem st_el7 : ∀ j, j < 5 → gvL[236 + j]? = some (Cond.eq (.elem (.field (tmS 7) "java/lang/String" "value" "[B") (.int (Int32.ofNat j))) (.int ((ax_kbyt.getD 7 []).getD j 0))) := by decide +kernel
set_option maxRecDepth 100000 in
theorem st_el8 : ∀ j, j < 5 → gvL[252 + j]? = some (Cond.eq (.elem (.field (tmS 8) "java/lang/String" "value" "[B") (.int (Int32.ofNat j))) (.int ((ax_kbyt.getD 8 []).getD j 0))) := by decide +kernel
set_option maxRecDepth 100000 in
theorem st_el9 : ∀ j, j < 4 → gvL[269 + j]? = some (Cond.eq (.elem (.field (tmS 9) "java/lang/String" "value" "[B") (.int (Int32.ofNat j))) (.int ((ax_kbyt.getD 9 []).getD j 0))) := by decide +kernel
set_option maxRecDepth 100000 in
theorem st_el10 : ∀ j, j < 4 → gvL[286 + j]? = some (Cond.eq (.elem (.field (tmS 10) "java/lang/String" "value" "[B") (.int (Int32.ofNat j))) (.int ((ax_kbyt.getD 10 []).getD j 0))) := by decide +kernel
set_option maxRecDepth 100000 in
theorem st_el11 : ∀ j, j < 6 → gvL[304 + j]? = some (Cond.eq (.elem (.field (tmS 11) "java/lang/String" "value" "[B") (.int (Int32.ofNat j))) (.int ((ax_kbyt.getD 11 []).getD j 0))) := by decide +kernel
set_option maxRecDepth 100000 in
theorem st_el12 : ∀ j, j < 6 → gvL[325 + j]? = some (Cond.eq (.elem (.field (tmS 12) "java/lang/String" "value" "[B") (.int (Int32.ofNat j))) (.int ((ax_kbyt.getD 12 []).getD j 0))) := by decide +kernel
theorem st_el : ∀ i, i < 13 → ∀ j, j < ax_klen.getD i 0 → Cond.eq (.elem (.field (tmS i) "java/lang/String" "value" "[B") (.int (Int32.ofNat j))) (.int ((ax_kbyt.getD i []).getD j 0)) ∈ gvL := fun i hi => by
  match i, hi with
  | 0, _ => exact fun j hj => List.mem_of_getElem? (st_el0 j hj)
  | 1, _ => exact fun j hj => List.mem_of_getElem? (st_el1 j hj)
  | 2, _ => exact fun j hj => List.mem_of_getElem? (st_el2 j hj)
  | 3, _ => exact fun j hj => List.mem_of_getElem? (st_el3 j hj)
  | 4, _ => exact fun j hj => List.mem_of_getElem? (st_el4 j hj)
  | 5, _ => exact fun j hj => List.mem_of_getElem? (st_el5 j hj)
  | 6, _ => exact fun j hj => List.mem_of_getElem? (st_el6 j hj)
  | 7, _ => exact fun j hj => List.mem_of_getElem? (st_el7 j hj)
  | 8, _ => exact fun j hj => List.mem_of_getElem? (st_el8 j hj)
  | 9, _ => exact fun j hj => List.mem_of_getElem? (st_el9 j hj)
  | 10, _ => exact fun j hj => List.mem_of_getElem? (st_el10 j hj)
  | 11, _ => exact fun j hj => List.mem_of_getElem? (st_el11 j hj)
  | 12, _ => exact fun j hj => List.mem_of_getElem? (st_el12 j hj)
set_option maxRecDepth 100000 in
theorem st_nj1 : ∀ i, i < 1 → gvL[175 + i]? = some (Cond.not (Cond.eq (tmS i) (tmS 1))) := by decide +kernel
set_option maxRecDepth 100000 in
theorem st_nj2 : ∀ i, i < 2 → gvL[184 + i]? = some (Cond.not (Cond.eq (tmS i) (tmS 2))) := by decide +kernel
set_option maxRecDepth 100000 in
theorem st_nj3 : ∀ i, i < 3 → gvL[194 + i]? = some (Cond.not (Cond.eq (tmS i) (tmS 3))) := by decide +kernel
set_option maxRecDepth 100000 in
theorem st_nj4 : ∀ i, i < 4 → gvL[203 + i]? = some (Cond.not (Cond.eq (tmS i) (tmS 4))) := by decide +kernel
set_option maxRecDepth 100000 in
theorem st_nj5 : ∀ i, i < 5 → gvL[214 + i]? = some (Cond.not (Cond.eq (tmS i) (tmS 5))) := by decide +kernel
set_option maxRecDepth 100000 in
theorem st_nj6 : ∀ i, i < 6 → gvL[226 + i]? = some (Cond.not (Cond.eq (tmS i) (tmS 6))) := by decide +kernel
set_option maxRecDepth 100000 in
theorem st_nj7 : ∀ i, i < 7 → gvL[241 + i]? = some (Cond.not (Cond.eq (tmS i) (tmS 7))) := by decide +kernel
set_option maxRecDepth 100000 in
theorem st_nj8 : ∀ i, i < 8 → gvL[257 + i]? = some (Cond.not (Cond.eq (tmS i) (tmS 8))) := by decide +kernel
set_option maxRecDepth 100000 in
theorem st_nj9 : ∀ i, i < 9 → gvL[273 + i]? = some (Cond.not (Cond.eq (tmS i) (tmS 9))) := by decide +kernel
set_option maxRecDepth 100000 in
theorem st_nj10 : ∀ i, i < 10 → gvL[290 + i]? = some (Cond.not (Cond.eq (tmS i) (tmS 10))) := by decide +kernel
set_option maxRecDepth 100000 in
theorem st_nj11 : ∀ i, i < 11 → gvL[310 + i]? = some (Cond.not (Cond.eq (tmS i) (tmS 11))) := by decide +kernel
set_option maxRecDepth 100000 in
theorem st_nj12 : ∀ i, i < 12 → gvL[331 + i]? = some (Cond.not (Cond.eq (tmS i) (tmS 12))) := by decide +kernel
theorem st_nj : ∀ j, j < 13 → ∀ i, i < j → Cond.not (Cond.eq (tmS i) (tmS j)) ∈ gvL := fun j hj => by
  match j, hj with
  | 0, _ => exact fun i h => absurd h (Nat.not_lt_zero _)
  | 1, _ => exact fun i hi => List.mem_of_getElem? (st_nj1 i hi)
  | 2, _ => exact fun i hi => List.mem_of_getElem? (st_nj2 i hi)
  | 3, _ => exact fun i hi => List.mem_of_getElem? (st_nj3 i hi)
  | 4, _ => exact fun i hi => List.mem_of_getElem? (st_nj4 i hi)
  | 5, _ => exact fun i hi => List.mem_of_getElem? (st_nj5 i hi)
  | 6, _ => exact fun i hi => List.mem_of_getElem? (st_nj6 i hi)
  | 7, _ => exact fun i hi => List.mem_of_getElem? (st_nj7 i hi)
  | 8, _ => exact fun i hi => List.mem_of_getElem? (st_nj8 i hi)
  | 9, _ => exact fun i hi => List.mem_of_getElem? (st_nj9 i hi)
  | 10, _ => exact fun i hi => List.mem_of_getElem? (st_nj10 i hi)
  | 11, _ => exact fun i hi => List.mem_of_getElem? (st_nj11 i hi)
  | 12, _ => exact fun i hi => List.mem_of_getElem? (st_nj12 i hi)
theorem st_ne : ∀ i, i < 13 → ∀ j, j < 13 → i ≠ j → Cond.not (Cond.eq (tmS i) (tmS j)) ∈ gvL ∨ Cond.not (Cond.eq (tmS j) (tmS i)) ∈ gvL := fun i hi j hj h => by
  rcases Nat.lt_or_gt_of_ne h with c | c
  · exact Or.inl (st_nj j hj i c)
  · exact Or.inr (st_nj i hi j c)
set_option maxRecDepth 100000 in
theorem st_cs : Cond.eq (.static "java/lang/String" "COMPACT_STRINGS" "Z") (.int 1) ∈ gvL ∧ Cond.isRef (.static "jdk/internal/util/Preconditions" "SIOOBE_FORMATTER" "Ljava/util/function/BiFunction;") ∈ gvL := ⟨List.mem_of_getElem? (i := 4) (by decide +kernel), List.mem_of_getElem? (i := 5) (by decide +kernel)⟩
set_option maxRecDepth 100000 in
theorem st_no : ∀ q ∈ ax_not, Cond.not (.castable q.1 q.2) ∈ gvL := List.forall_mem_cons.mpr ⟨List.mem_of_getElem? (i := 18) (by decide +kernel), List.forall_mem_cons.mpr ⟨List.mem_of_getElem? (i := 27) (by decide +kernel), List.forall_mem_cons.mpr ⟨List.mem_of_getElem? (i := 38) (by decide +kernel), List.forall_mem_cons.mpr ⟨List.mem_of_getElem? (i := 49) (by decide +kernel), List.forall_mem_cons.mpr ⟨List.mem_of_getElem? (i := 60) (by decide +kernel), List.forall_mem_cons.mpr ⟨List.mem_of_getElem? (i := 25) (by decide +kernel), List.forall_mem_cons.mpr ⟨List.mem_of_getElem? (i := 34) (by decide +kernel), List.forall_mem_cons.mpr ⟨List.mem_of_getElem? (i := 45) (by decide +kernel), List.forall_mem_cons.mpr ⟨List.mem_of_getElem? (i := 56) (by decide +kernel), List.forall_mem_cons.mpr ⟨List.mem_of_getElem? (i := 15) (by decide +kernel), List.forall_mem_cons.mpr ⟨List.mem_of_getElem? (i := 35) (by decide +kernel), List.forall_mem_cons.mpr ⟨List.mem_of_getElem? (i := 46) (by decide +kernel), List.forall_mem_cons.mpr ⟨List.mem_of_getElem? (i := 57) (by decide +kernel), List.forall_mem_cons.mpr ⟨List.mem_of_getElem? (i := 26) (by decide +kernel), List.forall_mem_cons.mpr ⟨List.mem_of_getElem? (i := 47) (by decide +kernel), List.forall_mem_cons.mpr ⟨List.mem_of_getElem? (i := 58) (by decide +kernel), List.forall_mem_cons.mpr ⟨List.mem_of_getElem? (i := 16) (by decide +kernel), List.forall_mem_cons.mpr ⟨List.mem_of_getElem? (i := 36) (by decide +kernel), List.forall_mem_cons.mpr ⟨List.mem_of_getElem? (i := 59) (by decide +kernel), List.forall_mem_cons.mpr ⟨List.mem_of_getElem? (i := 17) (by decide +kernel), List.forall_mem_cons.mpr ⟨List.mem_of_getElem? (i := 37) (by decide +kernel), List.forall_mem_cons.mpr ⟨List.mem_of_getElem? (i := 48) (by decide +kernel), fun _ h => by cases h⟩⟩⟩⟩⟩⟩⟩⟩⟩⟩⟩⟩⟩⟩⟩⟩⟩⟩⟩⟩⟩⟩
theorem st_ln : ∀ i, i < 13 → ax_klen.getD i 0 < 2 ^ 31 := by decide
theorem st_sr : ∀ q ∈ ax_ks, Cond.stringRef q.1 q.2.1 q.2.2 ∈ lw_tbl := List.forall_mem_cons.mpr ⟨(tb_1 (i := 170) (by decide +kernel)), List.forall_mem_cons.mpr ⟨(tb_2 (i := 6) (by decide +kernel)), List.forall_mem_cons.mpr ⟨(tb_2 (i := 7) (by decide +kernel)), List.forall_mem_cons.mpr ⟨(tb_2 (i := 8) (by decide +kernel)), List.forall_mem_cons.mpr ⟨(tb_2 (i := 9) (by decide +kernel)), List.forall_mem_cons.mpr ⟨(tb_2 (i := 10) (by decide +kernel)), List.forall_mem_cons.mpr ⟨(tb_2 (i := 11) (by decide +kernel)), List.forall_mem_cons.mpr ⟨(tb_2 (i := 12) (by decide +kernel)), List.forall_mem_cons.mpr ⟨(tb_2 (i := 13) (by decide +kernel)), List.forall_mem_cons.mpr ⟨(tb_2 (i := 14) (by decide +kernel)), List.forall_mem_cons.mpr ⟨(tb_2 (i := 15) (by decide +kernel)), List.forall_mem_cons.mpr ⟨(tb_2 (i := 16) (by decide +kernel)), List.forall_mem_cons.mpr ⟨(tb_2 (i := 17) (by decide +kernel)), fun _ h => by cases h⟩⟩⟩⟩⟩⟩⟩⟩⟩⟩⟩⟩⟩
theorem st_ys : ∀ q ∈ ax_yes, Cond.castable q.1 q.2 ∈ lw_tbl := List.forall_mem_cons.mpr ⟨(tb_7 (i := 44) (by decide +kernel)), List.forall_mem_cons.mpr ⟨(tb_7 (i := 46) (by decide +kernel)), List.forall_mem_cons.mpr ⟨(tb_7 (i := 45) (by decide +kernel)), List.forall_mem_cons.mpr ⟨(tb_7 (i := 47) (by decide +kernel)), List.forall_mem_cons.mpr ⟨(tb_7 (i := 48) (by decide +kernel)), List.forall_mem_cons.mpr ⟨(tb_7 (i := 49) (by decide +kernel)), List.forall_mem_cons.mpr ⟨(tb_7 (i := 50) (by decide +kernel)), List.forall_mem_cons.mpr ⟨(tb_7 (i := 51) (by decide +kernel)), fun _ h => by cases h⟩⟩⟩⟩⟩⟩⟩⟩
theorem st_ns : ∀ q ∈ ax_nst, Cond.methodLinkNest q.1 q.2.1 q.2.2.1 q.2.2.2 ∈ lw_tbl := List.forall_mem_cons.mpr ⟨(tb_1 (i := 31) (by decide +kernel)), List.forall_mem_cons.mpr ⟨(tb_1 (i := 102) (by decide +kernel)), List.forall_mem_cons.mpr ⟨(tb_1 (i := 153) (by decide +kernel)), List.forall_mem_cons.mpr ⟨(tb_2 (i := 178) (by decide +kernel)), List.forall_mem_cons.mpr ⟨(tb_2 (i := 181) (by decide +kernel)), List.forall_mem_cons.mpr ⟨(tb_3 (i := 22) (by decide +kernel)), List.forall_mem_cons.mpr ⟨(tb_3 (i := 25) (by decide +kernel)), List.forall_mem_cons.mpr ⟨(tb_3 (i := 42) (by decide +kernel)), List.forall_mem_cons.mpr ⟨(tb_3 (i := 45) (by decide +kernel)), List.forall_mem_cons.mpr ⟨(tb_3 (i := 62) (by decide +kernel)), List.forall_mem_cons.mpr ⟨(tb_3 (i := 65) (by decide +kernel)), List.forall_mem_cons.mpr ⟨(tb_3 (i := 82) (by decide +kernel)), List.forall_mem_cons.mpr ⟨(tb_3 (i := 85) (by decide +kernel)), List.forall_mem_cons.mpr ⟨(tb_3 (i := 102) (by decide +kernel)), fun _ h => by cases h⟩⟩⟩⟩⟩⟩⟩⟩⟩⟩⟩⟩⟩⟩
theorem st_K {s : State} {b : Nat} (hts : ∀ w ∈ lw_tbl, w.before #[Value.ref b] s = true) : ∃ D : va_G, ∀ (c : Nat) (q : vw_C), vwCl[c]? = some q → u_Kn s q.1 q.2.1 q.2.2 (D.1 c) (D.2 c) := by
  have hG : ∀ w ∈ ax_GT, w.before #[Value.ref b] s = true := fun w hw => hts w (List.mem_filter.mp hw).1
  have one : ∀ (C : String) (T : u_T) (N : Nat), (∀ w ∈ u_ws C T N, w ∈ ax_GT) → Cond.instantiable C N ∈ lw_tbl → ∃ pr : ClassId × (Nat → Nat), u_Kn s C T N pr.1 pr.2 := fun C T N h1 h2 => by
    obtain ⟨cC, iS, h⟩ := u_known (C := C) (T := T) (N := N) (n := N) hG h1 (hts _ h2)
    exact ⟨(cC, iS), h⟩
  have all : ∀ c : Nat, ∃ pr : ClassId × (Nat → Nat), ∀ q, vwCl[c]? = some q → u_Kn s q.1 q.2.1 q.2.2 pr.1 pr.2 := by
    intro c
    match c with
    | 0 =>
      obtain ⟨pr, h⟩ := one RX0 TX0 13 ax_lay0 (tb_3 (i := 101) (by decide +kernel))
      exact ⟨pr, fun q hq => by cases hq; exact h⟩
    | 1 =>
      obtain ⟨pr, h⟩ := one RX1 TX1 13 ax_lay1 (tb_3 (i := 81) (by decide +kernel))
      exact ⟨pr, fun q hq => by cases hq; exact h⟩
    | 2 =>
      obtain ⟨pr, h⟩ := one RX2 TX2 17 ax_lay2 (tb_1 (i := 30) (by decide +kernel))
      exact ⟨pr, fun q hq => by cases hq; exact h⟩
    | 3 =>
      obtain ⟨pr, h⟩ := one RX3 TX3 13 ax_lay3 (tb_3 (i := 61) (by decide +kernel))
      exact ⟨pr, fun q hq => by cases hq; exact h⟩
    | 4 =>
      obtain ⟨pr, h⟩ := one RX4 TX4 5 ax_lay4 (tb_2 (i := 80) (by decide +kernel))
      exact ⟨pr, fun q hq => by cases hq; exact h⟩
    | 5 =>
      obtain ⟨pr, h⟩ := one RX5 TX5 3 ax_lay5 (tb_1 (i := 152) (by decide +kernel))
      exact ⟨pr, fun q hq => by cases hq; exact h⟩
    | 6 =>
      obtain ⟨pr, h⟩ := one RX6 TX6 13 ax_lay6 (tb_3 (i := 21) (by decide +kernel))
      exact ⟨pr, fun q hq => by cases hq; exact h⟩
    | 7 =>
      obtain ⟨pr, h⟩ := one RX7 TX7 13 ax_lay7 (tb_2 (i := 177) (by decide +kernel))
      exact ⟨pr, fun q hq => by cases hq; exact h⟩
    | 8 =>
      obtain ⟨pr, h⟩ := one RX8 TX8 13 ax_lay8 (tb_1 (i := 101) (by decide +kernel))
      exact ⟨pr, fun q hq => by cases hq; exact h⟩
    | 9 =>
      obtain ⟨pr, h⟩ := one RX9 TX9 13 ax_lay9 (tb_3 (i := 41) (by decide +kernel))
      exact ⟨pr, fun q hq => by cases hq; exact h⟩
    | 10 =>
      obtain ⟨pr, h⟩ := one RX10 TX10 10 ax_lay10 (tb_1 (i := 22) (by decide +kernel))
      exact ⟨pr, fun q hq => by cases hq; exact h⟩
    | 11 =>
      obtain ⟨pr, h⟩ := one RX11 TX11 59 ax_lay11 (tb_5 (i := 74) (by decide +kernel))
      exact ⟨pr, fun q hq => by cases hq; exact h⟩
    | c + 12 => exact ⟨(0, fun _ => 0), fun q hq => by simp [vwCl] at hq⟩
  obtain ⟨f, hf⟩ := Classical.axiomOfChoice all
  exact ⟨(fun c => (f c).1, fun c => (f c).2), fun c q hq => hf c q hq⟩
/-- the constants -/
theorem st_Kc {s : State} {b : Nat} (hts : ∀ w ∈ lw_tbl, w.before #[Value.ref b] s = true) (hgv : (Jvm.Cond.and given_1 narrow_1).before #[Value.ref b] s = true) : ∃ ad : Nat → Int → Nat, ad 90 0 = b ∧ ax_Kc s ad s.heap.size := by
  have hs : ∀ c ∈ gvL, c.before #[Value.ref b] s = true := flat_of_before _ hgv
  have hA : ∀ a : Nat, a < s.heap.size → ¬ (fun q => s.heap.size ≤ q) a := fun a h => Nat.not_le.mpr h
  obtain ⟨adK, adV, hv, he⟩ := vk_Sof (args := #[Value.ref b]) (s := s) (N := 13) (tm := tmS) (len := ax_klen) (byt := ax_kbyt) (A := fun q => s.heap.size ≤ q) st_ln (fun i hi => hs _ (st_ex i hi)) (fun i hi => hs _ (st_co i hi)) (fun i hi => hs _ (st_ar i hi)) (fun i hi => hs _ (st_le i hi)) (fun i hi j hj => hs _ (st_el i hi j hj)) (fun i j hi hj h => (st_ne i hi j hj h).imp (hs _) (hs _)) hA
  have hz1 := va_Zof (A := fun q => s.heap.size ≤ q) (hts _ (tb_1 (i := 180) (by decide +kernel))) (hts _ (tb_1 (i := 5) (by decide +kernel))) (va_eqt (hs _ st_cs.1)) hA
  have hz2 := va_Zqof (A := fun q => s.heap.size ≤ q) (hts _ (tb_1 (i := 196) (by decide +kernel))) (hts _ (tb_1 (i := 7) (by decide +kernel))) (hs _ st_cs.2) hA
  obtain ⟨t, ht⟩ : ∃ t : Nat, va_Z "jdk/internal/util/Preconditions" "SIOOBE_FORMATTER" "Ljava/util/function/BiFunction;" .null (fun q => s.heap.size ≤ q) s s.heap ∨ va_Z "jdk/internal/util/Preconditions" "SIOOBE_FORMATTER" "Ljava/util/function/BiFunction;" (.ref t) (fun q => s.heap.size ≤ q) s s.heap := by
    rcases hz2 with h | ⟨t, h⟩
    · exact ⟨0, Or.inl h⟩
    · exact ⟨t, Or.inr h⟩
  refine ⟨fun f o => match f with
    | 90 => b
    | 91 => adK o.toNat
    | 92 => adV o.toNat
    | 93 => t
    | _ => 0, rfl, hv, ⟨hz1, ht⟩, fun k q hq => ?_, fun q hq => va_Nw.of rfl (hts _ (st_ys q hq)), fun q hq => va_Nc.of (hs _ (st_no q hq)), va_Nw.of rfl (hts _ (tb_2 (i := 93) (by decide +kernel))), va_AO.of (hts _ (tb_1 (i := 36) (by decide +kernel))), va_AO.of (hts _ (tb_1 (i := 149) (by decide +kernel))), va_AO.of (hts _ (tb_1 (i := 151) (by decide +kernel))), fun q hq => va_Nw.of rfl (hts _ (st_ns q hq))⟩
  have hk : k < 13 := (List.getElem?_eq_some_iff.mp hq).1
  have e1 := he k hk
  unfold tmS at e1
  rw [List.getD_eq_getElem?_getD, hq] at e1
  exact vk_R.of (hts _ (st_sr q (List.mem_of_getElem? hq))) e1
