/-! ===== straight stretches as a function: proved sound once ===== -/
def ax_csl : List (Nat × Nat × Int) := [(10, 141, (-100000)), (13, 265, 1431655765), (13, 266, 858993459), (13, 267, 252645135), (10, 251, 1103515245), (11, 281, (-100000)), (11, 310, 1103515245)]
def ax_cll : List (Nat × Nat × Int) := [(10, 240, (-4611686018427387904)), (11, 308, (-4611686018427387904)), (11, 330, 3), (11, 332, 2)]
theorem ax_csl_ok : ∀ e ∈ ax_csl, ∃ v : Int32, v.toInt = e.2.2 ∧ Cond.constant (ax_nm e.1) e.2.1 v ∈ ax_GT := List.forall_mem_cons.mpr ⟨⟨(-100000), by decide, ax_GT_in (i := 744) (by decide +kernel) rfl⟩, List.forall_mem_cons.mpr ⟨⟨1431655765, by decide, ax_GT_in (i := 790) (by decide +kernel) rfl⟩, List.forall_mem_cons.mpr ⟨⟨858993459, by decide, ax_GT_in (i := 791) (by decide +kernel) rfl⟩, List.forall_mem_cons.mpr ⟨⟨252645135, by decide, ax_GT_in (i := 792) (by decide +kernel) rfl⟩, List.forall_mem_cons.mpr ⟨⟨1103515245, by decide, ax_GT_in (i := 1010) (by decide +kernel) rfl⟩, List.forall_mem_cons.mpr ⟨⟨(-100000), by decide, ax_GT_in (i := 1379) (by decide +kernel) rfl⟩, List.forall_mem_cons.mpr ⟨⟨1103515245, by decide, ax_GT_in (i := 1511) (by decide +kernel) rfl⟩, fun _ h => absurd h List.not_mem_nil⟩⟩⟩⟩⟩⟩⟩
theorem ax_cll_ok : ∀ e ∈ ax_cll, ∃ v : Int64, v.toInt = e.2.2 ∧ Cond.constantLong (ax_nm e.1) e.2.1 v ∈ ax_GT := List.forall_mem_cons.mpr ⟨⟨(-4611686018427387904), by decide, ax_GT_in (i := 973) (by decide +kernel) rfl⟩, List.forall_mem_cons.mpr ⟨⟨(-4611686018427387904), by decide, ax_GT_in (i := 1498) (by decide +kernel) rfl⟩, List.forall_mem_cons.mpr ⟨⟨3, by decide, ax_GT_in (i := 1543) (by decide +kernel) rfl⟩, List.forall_mem_cons.mpr ⟨⟨2, by decide, ax_GT_in (i := 1544) (by decide +kernel) rfl⟩, fun _ h => absurd h List.not_mem_nil⟩⟩⟩⟩
def ax_ck (l : List (Nat × Nat × Int)) (own idx : Nat) : Option Int := match l with
  | [] => none
  | e :: r => if e.1 = own ∧ e.2.1 = idx then some e.2.2 else ax_ck r own idx
theorem ax_ck_in {l : List (Nat × Nat × Int)} {own idx : Nat} {x : Int} (h : ax_ck l own idx = some x) : (own, idx, x) ∈ l := by
  induction l with
  | nil => cases h
  | cons e r ih =>
    unfold ax_ck at h
    split at h
    · rename_i q; cases h; obtain ⟨rfl, rfl⟩ := q; exact List.mem_cons_self
    · exact List.mem_cons_of_mem _ (ih h)
theorem ax_nm_mod (own : Nat) : ax_nm (own % 100) = ax_nm own := by simp [ax_nm]
theorem ax_nfin {f k : Nat} (hk : k < ax_N f) (hr : ax_isR f k = false) : ∀ (ci : Nat) (C : String) (T : u_T) (N : Nat), ax_ok f ci = true → vwCl[ci]? = some (C, T, N) → (T k).2.2.2 = false := by
  intro ci C T N hc hq
  rw [← ax_N_mod] at hk
  have hr' : ax_isR (f % 1000) k = false := by
    unfold ax_isR at hr ⊢
    rw [ax_ty_mod]
    exact hr
  have ho := ax_ob_ok hc
  rw [← ax_ob_mod] at ho
  rw [← ax_ok_mod] at hc
  have hb : f % 1000 < 1000 := Nat.mod_lt _ (by decide)
  generalize f % 1000 = g at hk hr' ho hc hb
  have hg : g = 1 ∨ g = 2 ∨ g = 3 ∨ g = 4 ∨ g = 5 ∨ g = 6 ∨ g = 50 := by
    have e : g % 1000 = g := Nat.mod_eq_of_lt hb
    unfold ax_ob at ho
    rw [e] at ho
    split at ho <;> first | omega | cases ho
  refine ax_okc (P := fun ci => vwCl[ci]? = some (C, T, N) → (T k).2.2.2 = false) hc hg ?_ hq
  intro c hm e
  simp only [List.mem_cons, Prod.mk.injEq, List.not_mem_nil, or_false] at hm
  rcases hm with ⟨rfl, rfl⟩ | ⟨rfl, rfl⟩ | ⟨rfl, rfl⟩ | ⟨rfl, rfl⟩ | ⟨rfl, rfl⟩ | ⟨rfl, rfl⟩ | ⟨rfl, rfl⟩ | ⟨rfl, rfl⟩ | ⟨rfl, rfl⟩ | ⟨rfl, rfl⟩ | ⟨rfl, rfl⟩ | ⟨rfl, rfl⟩ <;> cases e <;> clear hr ho hc hg hq hb <;> revert k <;> decide
abbrev ax_T : Type := Nat × List (Option ax_V) × List ax_V × ax_Mm
def ax_cnd (c : Option Prop) : Prop := match c with
  | none => True
  | some p => p
def ax_ar (nw : Bool) (v : Int) (mk : Int → ax_T) : Option (Option Prop × ax_T) := if nw = true then some (some (-2147483648 ≤ v ∧ v ≤ 2147483647), mk v) else some (none, mk (Int.bmod v 4294967296))
theorem ax_ar_ok {nw : Bool} {v : Int} {mk : Int → ax_T} {c : Option Prop} {S : ax_T} (h : ax_ar nw v mk = some (c, S)) (hc : ax_cnd c) : ∃ z, Int.bmod v 4294967296 = z ∧ S = mk z := by
  unfold ax_ar at h
  split at h
  · cases h
    exact ⟨v, ax_bm hc, rfl⟩
  · cases h
    exact ⟨_, rfl, rfl⟩
/-- an array's read or write fits its family -/
def ax_elt (f : Nat) (i : Instr) : Bool := match ax_et f, i with
  | .int, .iaload => true
  | .int, .iastore => true
  | .boolean, .baload => true
  | .boolean, .bastore => true
  | .char, .caload => true
  | .char, .castore => true
  | _, _ => false
def ax_fc (ty : FieldType) (x : Int) : Option Prop := match ty with
  | .int => none
  | .boolean => some (x = 0 ∨ x = 1)
  | .char => some (0 ≤ x ∧ x ≤ 65535)
  | _ => some False
theorem ax_fc_ok {ty : FieldType} {x : Int} (h : ax_cnd (ax_fc ty x)) : ax_fit ty x := by
  cases ty <;> first | exact trivial | exact h | exact h.elim
def ax_x1 (own : Nat) (nw : Bool) (i : Instr) (n pc : Nat) (la : List (Option ax_V)) (st : List ax_V) (M : ax_Mm) : Option (Option Prop × ax_T) := match i with
  | .iconst c => if n = 1 ∧ -32768 ≤ c ∧ c ≤ 32767 then some (none, pc + 1, la, .inl c :: st, M) else none
  | .bipush c => if n = 2 ∧ -128 ≤ c ∧ c ≤ 127 then some (none, pc + 2, la, .inl c :: st, M) else none
  | .sipush c => if n = 3 ∧ -32768 ≤ c ∧ c ≤ 32767 then some (none, pc + 3, la, .inl c :: st, M) else none
  | .ldc j => match ax_ck ax_csl (own % 100) j with
    | some x => if n = 2 then some (none, pc + 2, la, .inl x :: st, M) else none
    | none => none
  | .ldc_w j => match ax_ck ax_csl (own % 100) j with
    | some x => if n = 3 then some (none, pc + 3, la, .inl x :: st, M) else none
    | none => none
  | .ldc2_w j => match ax_ck ax_cll (own % 100) j with
    | some x => if n = 3 then some (none, pc + 3, la, .inr (.inl x) :: st, M) else none
    | none => none
  | .aconst_null => if n = 1 then some (none, pc + 1, la, .inr (.inr none) :: st, M) else none
  | .lconst c => if n = 1 then some (none, pc + 1, la, .inr (.inl ((c : Nat) : Int)) :: st, M) else none
  | .iload j => match la[j]? with
    | some (some (.inl x)) => if n = 2 then some (none, pc + 2, la, .inl x :: st, M) else none
    | _ => none
  | .iload_n j => match la[(j : Nat)]? with
    | some (some (.inl x)) => if n = 1 then some (none, pc + 1, la, .inl x :: st, M) else none
    | _ => none
  | .lload j => match la[j]? with
    | some (some (.inr (.inl x))) => if n = 2 then some (none, pc + 2, la, .inr (.inl x) :: st, M) else none
    | _ => none
  | .aload j => match la[j]? with
    | some (some (.inr (.inr (some q)))) => if n = 2 then some (none, pc + 2, la, .inr (.inr (some q)) :: st, M) else none
    | _ => none
  | .aload_n j => match la[(j : Nat)]? with
    | some (some (.inr (.inr (some q)))) => if n = 1 then some (none, pc + 1, la, .inr (.inr (some q)) :: st, M) else none
    | _ => none
  | .istore j => match st with
    | .inl x :: r => if n = 2 ∧ j < la.length ∧ ax_pl la j = true then some (none, pc + 2, la.set j (some (.inl x)), r, M) else none
    | _ => none
  | .istore_n j => match st with
    | .inl x :: r => if n = 1 ∧ (j : Nat) < la.length ∧ ax_pl la j = true then some (none, pc + 1, la.set j (some (.inl x)), r, M) else none
    | _ => none
  | .astore j => match st with
    | .inr (.inr (some q)) :: r => if n = 2 ∧ j < la.length ∧ ax_pl la j = true then some (none, pc + 2, la.set j (some (.inr (.inr (some q)))), r, M) else none
    | _ => none
  | .astore_n j => match st with
    | .inr (.inr (some q)) :: r => if n = 1 ∧ (j : Nat) < la.length ∧ ax_pl la j = true then some (none, pc + 1, la.set j (some (.inr (.inr (some q)))), r, M) else none
    | _ => none
  | .lstore j => match st with
    | .inr (.inl x) :: r => if n = 2 ∧ j + 1 < la.length ∧ ax_pl la j = true then some (none, pc + 2, (la.set (j + 1) none).set j (some (.inr (.inl x))), r, M) else none
    | _ => none
  | .iinc j c => match la[j]? with
    | some (some (.inl x)) => if n = 3 ∧ ax_pl la j = true ∧ -32768 ≤ c ∧ c ≤ 32767 then ax_ar nw (x + c) (fun z => (pc + 3, la.set j (some (.inl z)), st, M)) else none
    | _ => none
  | .iadd => match st with
    | .inl y :: .inl x :: r => if n = 1 then ax_ar nw (x + y) (fun z => (pc + 1, la, .inl z :: r, M)) else none
    | _ => none
  | .isub => match st with
    | .inl y :: .inl x :: r => if n = 1 then ax_ar nw (x - y) (fun z => (pc + 1, la, .inl z :: r, M)) else none
    | _ => none
  | .imul => match st with
    | .inl y :: .inl x :: r => if n = 1 then ax_ar nw (x * y) (fun z => (pc + 1, la, .inl z :: r, M)) else none
    | _ => none
  | .ineg => match st with
    | .inl x :: r => if n = 1 then ax_ar nw (-x) (fun z => (pc + 1, la, .inl z :: r, M)) else none
    | _ => none
  | .iand => match st with
    | .inl y :: .inl x :: r => if n = 1 then some (none, pc + 1, la, .inl (ax_and x y) :: r, M) else none
    | _ => none
  | .ior => match st with
    | .inl y :: .inl x :: r => if n = 1 then some (none, pc + 1, la, .inl (ax_or x y) :: r, M) else none
    | _ => none
  | .ishl => match st with
    | .inl y :: .inl x :: r => if n = 1 then some (none, pc + 1, la, .inl (ax_shl x y) :: r, M) else none
    | _ => none
  | .ishr => match st with
    | .inl y :: .inl x :: r => if n = 1 then some (none, pc + 1, la, .inl (ax_shr x y) :: r, M) else none
    | _ => none
  | .iushr => match st with
    | .inl y :: .inl x :: r => if n = 1 then some (none, pc + 1, la, .inl (ax_ush x y) :: r, M) else none
    | _ => none
  | .idiv => match st with
    | .inl y :: .inl x :: r => if n = 1 then some (some (0 < y), pc + 1, la, .inl (Int.tdiv x y) :: r, M) else none
    | _ => none
  | .irem => match st with
    | .inl y :: .inl x :: r => if n = 1 then some (some (0 < y), pc + 1, la, .inl (Int.tmod x y) :: r, M) else none
    | _ => none
  | .i2b => match st with
    | .inl x :: r => if n = 1 then some (none, pc + 1, la, .inl (ax_i2b x) :: r, M) else none
    | _ => none
  | .i2s => match st with
    | .inl x :: r => if n = 1 then some (none, pc + 1, la, .inl (ax_i2s x) :: r, M) else none
    | _ => none
  | .i2l => match st with
    | .inl x :: r => if n = 1 then some (none, pc + 1, la, .inr (.inl x) :: r, M) else none
    | _ => none
  | .l2i => match st with
    | .inr (.inl x) :: r => if n = 1 then ax_ar nw x (fun z => (pc + 1, la, .inl z :: r, M)) else none
    | _ => none
  | .ladd => match st with
    | .inr (.inl y) :: .inr (.inl x) :: r => if n = 1 then some (none, pc + 1, la, .inr (.inl (Int.bmod (x + y) 18446744073709551616)) :: r, M) else none
    | _ => none
  | .lmul => match st with
    | .inr (.inl y) :: .inr (.inl x) :: r => if n = 1 then some (none, pc + 1, la, .inr (.inl (Int.bmod (x * y) 18446744073709551616)) :: r, M) else none
    | _ => none
  | .lcmp => match st with
    | .inr (.inl y) :: .inr (.inl x) :: r => if n = 1 then some (none, pc + 1, la, .inl (ax_cmp x y) :: r, M) else none
    | _ => none
  | .dup => match st with
    | v :: r => if n = 1 ∧ ax_nlg v = true then some (none, pc + 1, la, v :: v :: r, M) else none
    | _ => none
  | .pop => match st with
    | v :: r => if n = 1 ∧ ax_nlg v = true then some (none, pc + 1, la, r, M) else none
    | _ => none
  | .dup2 => match st with
    | v :: u :: r => if n = 1 ∧ ax_nlg v = true ∧ ax_nlg u = true then some (none, pc + 1, la, v :: u :: v :: u :: r, M) else none
    | _ => none
  | .goto off => if n = 3 ∧ 0 ≤ (pc : Int) + off then some (none, ((pc : Int) + off).toNat, la, st, M) else none
  | .getfield j => match st, ax_lkf (ax_fls own) j with
    | .inr (.inr (some (f, u))) :: r, some (g, k) => if n = 3 ∧ f % 1000 = g ∧ ax_ob f = true then
        (if ax_isR f k = true then (if ax_isA f k = true ∧ f < 1000 then some (none, pc + 3, la, .inr (.inr (some (ax_sb f + k, u))) :: r, M) else none) else some (none, pc + 3, la, .inl (M.2.1 f u k) :: r, M)) else none
    | _, _ => none
  | .putfield j => match st, ax_lkf (ax_fls own) j with
    | .inl x :: .inr (.inr (some (f, u))) :: r, some (g, k) => if n = 3 ∧ f % 1000 = g ∧ ax_ob f = true ∧ ax_isR f k = false then some (ax_fc (ax_ty f k) x, pc + 3, la, r, ax_uI M f u k x) else none
    | _, _ => none
  | .arraylength => match st with
    | .inr (.inr (some (f, u))) :: r => if n = 1 ∧ ax_ob f = false ∧ ax_hp f = true ∧ refKind (ax_et f) = false then some (none, pc + 1, la, .inl (M.2.2.2 f u) :: r, M) else none
    | _ => none
  | .iaload => match st with
    | .inl x :: .inr (.inr (some (f, u))) :: r => if n = 1 ∧ ax_ob f = false ∧ ax_hp f = true ∧ ax_et f = .int then some (some (0 ≤ x ∧ x < M.2.2.2 f u), pc + 1, la, .inl (M.2.1 f u x) :: r, M) else none
    | _ => none
  | .baload => match st with
    | .inl x :: .inr (.inr (some (f, u))) :: r => if n = 1 ∧ ax_ob f = false ∧ ax_hp f = true ∧ ax_et f = .boolean then some (some (0 ≤ x ∧ x < M.2.2.2 f u), pc + 1, la, .inl (M.2.1 f u x) :: r, M) else none
    | _ => none
  | .caload => match st with
    | .inl x :: .inr (.inr (some (f, u))) :: r => if n = 1 ∧ ax_ob f = false ∧ ax_hp f = true ∧ ax_et f = .char then some (some (0 ≤ x ∧ x < M.2.2.2 f u), pc + 1, la, .inl (M.2.1 f u x) :: r, M) else none
    | _ => none
  | .iastore => match st with
    | .inl z :: .inl x :: .inr (.inr (some (f, u))) :: r => if n = 1 ∧ ax_ob f = false ∧ ax_hp f = true ∧ ax_et f = .int then some (some (0 ≤ x ∧ x < M.2.2.2 f u), pc + 1, la, r, ax_uI M f u x z) else none
    | _ => none
  | .bastore => match st with
    | .inl z :: .inl x :: .inr (.inr (some (f, u))) :: r => if n = 1 ∧ ax_ob f = false ∧ ax_hp f = true ∧ ax_et f = .boolean then some (some ((0 ≤ x ∧ x < M.2.2.2 f u) ∧ (z = 0 ∨ z = 1)), pc + 1, la, r, ax_uI M f u x z) else none
    | _ => none
  | .castore => match st with
    | .inl z :: .inl x :: .inr (.inr (some (f, u))) :: r => if n = 1 ∧ ax_ob f = false ∧ ax_hp f = true ∧ ax_et f = .char then some (some ((0 ≤ x ∧ x < M.2.2.2 f u) ∧ (0 ≤ z ∧ z ≤ 65535)), pc + 1, la, r, ax_uI M f u x z) else none
    | _ => none
  | _ => none
section AX
variable {own : Nat} {cc : ByteArray} {nL : Nat} {scr : Option (Nat × (Nat → Int32))} {R : Room} {p0 : Nat → Int → Prop} {Q : ax_Q} {kc ks pc : Nat} {la : List (Option ax_V)} {st : List ax_V} {M : ax_Mm}
theorem ax_x1_iconst {nw : Bool} {n pc' : Nat} {la' : List (Option ax_V)} {st' : List ax_V} {M' : ax_Mm} {c : Option Prop} {z : Int} (hd : decode cc pc = .ok (.iconst z, n)) (h : ax_x1 own nw (.iconst z) n pc la st M = some (c, pc', la', st', M')) (hc : ax_cnd c) (k : ax_J own cc nL scr R p0 Q kc ks pc' la' st' M') : ax_J own cc nL scr R p0 Q kc ks pc la st M := by
  dsimp only [ax_x1] at h
  split at h
  · rename_i q; cases h; obtain ⟨rfl, q⟩ := q; exact aj_iconst q hd k
  · cases h

theorem ax_x1_bipush {nw : Bool} {n pc' : Nat} {la' : List (Option ax_V)} {st' : List ax_V} {M' : ax_Mm} {c : Option Prop} {z : Int} (hd : decode cc pc = .ok (.bipush z, n)) (h : ax_x1 own nw (.bipush z) n pc la st M = some (c, pc', la', st', M')) (hc : ax_cnd c) (k : ax_J own cc nL scr R p0 Q kc ks pc' la' st' M') : ax_J own cc nL scr R p0 Q kc ks pc la st M := by
  dsimp only [ax_x1] at h
  split at h
  · rename_i q; cases h; obtain ⟨rfl, q⟩ := q; exact aj_bipush q hd k
  · cases h

theorem ax_x1_sipush {nw : Bool} {n pc' : Nat} {la' : List (Option ax_V)} {st' : List ax_V} {M' : ax_Mm} {c : Option Prop} {z : Int} (hd : decode cc pc = .ok (.sipush z, n)) (h : ax_x1 own nw (.sipush z) n pc la st M = some (c, pc', la', st', M')) (hc : ax_cnd c) (k : ax_J own cc nL scr R p0 Q kc ks pc' la' st' M') : ax_J own cc nL scr R p0 Q kc ks pc la st M := by
  dsimp only [ax_x1] at h
  split at h
  · rename_i q; cases h; obtain ⟨rfl, q⟩ := q; exact aj_sipush q hd k
  · cases h

theorem ax_x1_ldc {nw : Bool} {n pc' : Nat} {la' : List (Option ax_V)} {st' : List ax_V} {M' : ax_Mm} {c : Option Prop} {z : Nat} (hd : decode cc pc = .ok (.ldc z, n)) (h : ax_x1 own nw (.ldc z) n pc la st M = some (c, pc', la', st', M')) (hc : ax_cnd c) (k : ax_J own cc nL scr R p0 Q kc ks pc' la' st' M') : ax_J own cc nL scr R p0 Q kc ks pc la st M := by
  dsimp only [ax_x1] at h
  split at h
  · rename_i x e; split at h
    · rename_i q; cases h; subst q; obtain ⟨v, hv, hm⟩ := ax_csl_ok _ (ax_ck_in e); rw [ax_nm_mod] at hm; exact aj_ldc hm hd (by rw [hv]; exact k)
    · cases h
  · cases h

theorem ax_x1_ldc_w {nw : Bool} {n pc' : Nat} {la' : List (Option ax_V)} {st' : List ax_V} {M' : ax_Mm} {c : Option Prop} {z : Nat} (hd : decode cc pc = .ok (.ldc_w z, n)) (h : ax_x1 own nw (.ldc_w z) n pc la st M = some (c, pc', la', st', M')) (hc : ax_cnd c) (k : ax_J own cc nL scr R p0 Q kc ks pc' la' st' M') : ax_J own cc nL scr R p0 Q kc ks pc la st M := by
  dsimp only [ax_x1] at h
  split at h
  · rename_i x e; split at h
    · rename_i q; cases h; subst q; obtain ⟨v, hv, hm⟩ := ax_csl_ok _ (ax_ck_in e); rw [ax_nm_mod] at hm; exact aj_ldcw hm hd (by rw [hv]; exact k)
    · cases h
  · cases h

theorem ax_x1_ldc2_w {nw : Bool} {n pc' : Nat} {la' : List (Option ax_V)} {st' : List ax_V} {M' : ax_Mm} {c : Option Prop} {z : Nat} (hd : decode cc pc = .ok (.ldc2_w z, n)) (h : ax_x1 own nw (.ldc2_w z) n pc la st M = some (c, pc', la', st', M')) (hc : ax_cnd c) (k : ax_J own cc nL scr R p0 Q kc ks pc' la' st' M') : ax_J own cc nL scr R p0 Q kc ks pc la st M := by
  dsimp only [ax_x1] at h
  split at h
  · rename_i x e; split at h
    · rename_i q; cases h; subst q; obtain ⟨v, hv, hm⟩ := ax_cll_ok _ (ax_ck_in e); rw [ax_nm_mod] at hm; exact aj_ldc2 hm hd (by rw [hv]; exact k)
    · cases h
  · cases h

theorem ax_x1_aconst_null {nw : Bool} {n pc' : Nat} {la' : List (Option ax_V)} {st' : List ax_V} {M' : ax_Mm} {c : Option Prop} (hd : decode cc pc = .ok (.aconst_null, n)) (h : ax_x1 own nw (.aconst_null) n pc la st M = some (c, pc', la', st', M')) (hc : ax_cnd c) (k : ax_J own cc nL scr R p0 Q kc ks pc' la' st' M') : ax_J own cc nL scr R p0 Q kc ks pc la st M := by
  dsimp only [ax_x1] at h
  split at h
  · rename_i q; cases h; subst q; exact aj_null hd k
  · cases h

theorem ax_x1_lconst {nw : Bool} {n pc' : Nat} {la' : List (Option ax_V)} {st' : List ax_V} {M' : ax_Mm} {c : Option Prop} {z : Fin 2} (hd : decode cc pc = .ok (.lconst z, n)) (h : ax_x1 own nw (.lconst z) n pc la st M = some (c, pc', la', st', M')) (hc : ax_cnd c) (k : ax_J own cc nL scr R p0 Q kc ks pc' la' st' M') : ax_J own cc nL scr R p0 Q kc ks pc la st M := by
  dsimp only [ax_x1] at h
  split at h
  · rename_i q; cases h; subst q; exact aj_lconst hd k
  · cases h

theorem ax_x1_iload {nw : Bool} {n pc' : Nat} {la' : List (Option ax_V)} {st' : List ax_V} {M' : ax_Mm} {c : Option Prop} {z : Nat} (hd : decode cc pc = .ok (.iload z, n)) (h : ax_x1 own nw (.iload z) n pc la st M = some (c, pc', la', st', M')) (hc : ax_cnd c) (k : ax_J own cc nL scr R p0 Q kc ks pc' la' st' M') : ax_J own cc nL scr R p0 Q kc ks pc la st M := by
  dsimp only [ax_x1] at h
  split at h
  · rename_i x e; split at h
    · rename_i q; cases h; subst q; exact aj_iload hd e k
    · cases h
  · cases h

theorem ax_x1_iload_n {nw : Bool} {n pc' : Nat} {la' : List (Option ax_V)} {st' : List ax_V} {M' : ax_Mm} {c : Option Prop} {z : Fin 4} (hd : decode cc pc = .ok (.iload_n z, n)) (h : ax_x1 own nw (.iload_n z) n pc la st M = some (c, pc', la', st', M')) (hc : ax_cnd c) (k : ax_J own cc nL scr R p0 Q kc ks pc' la' st' M') : ax_J own cc nL scr R p0 Q kc ks pc la st M := by
  dsimp only [ax_x1] at h
  split at h
  · rename_i x e; split at h
    · rename_i q; cases h; subst q; exact aj_iload_n rfl hd e k
    · cases h
  · cases h

theorem ax_x1_lload {nw : Bool} {n pc' : Nat} {la' : List (Option ax_V)} {st' : List ax_V} {M' : ax_Mm} {c : Option Prop} {z : Nat} (hd : decode cc pc = .ok (.lload z, n)) (h : ax_x1 own nw (.lload z) n pc la st M = some (c, pc', la', st', M')) (hc : ax_cnd c) (k : ax_J own cc nL scr R p0 Q kc ks pc' la' st' M') : ax_J own cc nL scr R p0 Q kc ks pc la st M := by
  dsimp only [ax_x1] at h
  split at h
  · rename_i x e; split at h
    · rename_i q; cases h; subst q; exact aj_lload hd e k
    · cases h
  · cases h

theorem ax_x1_aload {nw : Bool} {n pc' : Nat} {la' : List (Option ax_V)} {st' : List ax_V} {M' : ax_Mm} {c : Option Prop} {z : Nat} (hd : decode cc pc = .ok (.aload z, n)) (h : ax_x1 own nw (.aload z) n pc la st M = some (c, pc', la', st', M')) (hc : ax_cnd c) (k : ax_J own cc nL scr R p0 Q kc ks pc' la' st' M') : ax_J own cc nL scr R p0 Q kc ks pc la st M := by
  dsimp only [ax_x1] at h
  split at h
  · rename_i x e; split at h
    · rename_i q; cases h; subst q; exact aj_aload hd e k
    · cases h
  · cases h

theorem ax_x1_aload_n {nw : Bool} {n pc' : Nat} {la' : List (Option ax_V)} {st' : List ax_V} {M' : ax_Mm} {c : Option Prop} {z : Fin 4} (hd : decode cc pc = .ok (.aload_n z, n)) (h : ax_x1 own nw (.aload_n z) n pc la st M = some (c, pc', la', st', M')) (hc : ax_cnd c) (k : ax_J own cc nL scr R p0 Q kc ks pc' la' st' M') : ax_J own cc nL scr R p0 Q kc ks pc la st M := by
  dsimp only [ax_x1] at h
  split at h
  · rename_i x e; split at h
    · rename_i q; cases h; subst q; exact aj_aload_n rfl hd e k
    · cases h
  · cases h

theorem ax_x1_istore {nw : Bool} {n pc' : Nat} {la' : List (Option ax_V)} {st' : List ax_V} {M' : ax_Mm} {c : Option Prop} {z : Nat} (hd : decode cc pc = .ok (.istore z, n)) (h : ax_x1 own nw (.istore z) n pc la st M = some (c, pc', la', st', M')) (hc : ax_cnd c) (k : ax_J own cc nL scr R p0 Q kc ks pc' la' st' M') : ax_J own cc nL scr R p0 Q kc ks pc la st M := by
  dsimp only [ax_x1] at h
  split at h
  · split at h
    · rename_i q; cases h; obtain ⟨rfl, q1, q2⟩ := q; exact aj_istore hd q1 q2 k
    · cases h
  · cases h

theorem ax_x1_istore_n {nw : Bool} {n pc' : Nat} {la' : List (Option ax_V)} {st' : List ax_V} {M' : ax_Mm} {c : Option Prop} {z : Fin 4} (hd : decode cc pc = .ok (.istore_n z, n)) (h : ax_x1 own nw (.istore_n z) n pc la st M = some (c, pc', la', st', M')) (hc : ax_cnd c) (k : ax_J own cc nL scr R p0 Q kc ks pc' la' st' M') : ax_J own cc nL scr R p0 Q kc ks pc la st M := by
  dsimp only [ax_x1] at h
  split at h
  · split at h
    · rename_i q; cases h; obtain ⟨rfl, q1, q2⟩ := q; exact aj_istore_n rfl hd q1 q2 k
    · cases h
  · cases h

theorem ax_x1_astore {nw : Bool} {n pc' : Nat} {la' : List (Option ax_V)} {st' : List ax_V} {M' : ax_Mm} {c : Option Prop} {z : Nat} (hd : decode cc pc = .ok (.astore z, n)) (h : ax_x1 own nw (.astore z) n pc la st M = some (c, pc', la', st', M')) (hc : ax_cnd c) (k : ax_J own cc nL scr R p0 Q kc ks pc' la' st' M') : ax_J own cc nL scr R p0 Q kc ks pc la st M := by
  dsimp only [ax_x1] at h
  split at h
  · split at h
    · rename_i q; cases h; obtain ⟨rfl, q1, q2⟩ := q; exact aj_astore hd q1 q2 k
    · cases h
  · cases h

theorem ax_x1_astore_n {nw : Bool} {n pc' : Nat} {la' : List (Option ax_V)} {st' : List ax_V} {M' : ax_Mm} {c : Option Prop} {z : Fin 4} (hd : decode cc pc = .ok (.astore_n z, n)) (h : ax_x1 own nw (.astore_n z) n pc la st M = some (c, pc', la', st', M')) (hc : ax_cnd c) (k : ax_J own cc nL scr R p0 Q kc ks pc' la' st' M') : ax_J own cc nL scr R p0 Q kc ks pc la st M := by
  dsimp only [ax_x1] at h
  split at h
  · split at h
    · rename_i q; cases h; obtain ⟨rfl, q1, q2⟩ := q; exact aj_astore_n rfl hd q1 q2 k
    · cases h
  · cases h

theorem ax_x1_lstore {nw : Bool} {n pc' : Nat} {la' : List (Option ax_V)} {st' : List ax_V} {M' : ax_Mm} {c : Option Prop} {z : Nat} (hd : decode cc pc = .ok (.lstore z, n)) (h : ax_x1 own nw (.lstore z) n pc la st M = some (c, pc', la', st', M')) (hc : ax_cnd c) (k : ax_J own cc nL scr R p0 Q kc ks pc' la' st' M') : ax_J own cc nL scr R p0 Q kc ks pc la st M := by
  dsimp only [ax_x1] at h
  split at h
  · split at h
    · rename_i q; cases h; obtain ⟨rfl, q1, q2⟩ := q; exact aj_lstore hd q1 q2 k
    · cases h
  · cases h

theorem ax_x1_iinc {nw : Bool} {n pc' : Nat} {la' : List (Option ax_V)} {st' : List ax_V} {M' : ax_Mm} {c : Option Prop} {z : Nat} {w : Int} (hd : decode cc pc = .ok (.iinc z w, n)) (h : ax_x1 own nw (.iinc z w) n pc la st M = some (c, pc', la', st', M')) (hc : ax_cnd c) (k : ax_J own cc nL scr R p0 Q kc ks pc' la' st' M') : ax_J own cc nL scr R p0 Q kc ks pc la st M := by
  dsimp only [ax_x1] at h
  split at h
  · rename_i x e; split at h
    · rename_i q; obtain ⟨rfl, q1, q2⟩ := q; obtain ⟨v, hv, hS⟩ := ax_ar_ok h hc; cases hS; exact aj_iinc hd e q1 hv q2 k
    · cases h
  · cases h

theorem ax_x1_iadd {nw : Bool} {n pc' : Nat} {la' : List (Option ax_V)} {st' : List ax_V} {M' : ax_Mm} {c : Option Prop} (hd : decode cc pc = .ok (.iadd, n)) (h : ax_x1 own nw (.iadd) n pc la st M = some (c, pc', la', st', M')) (hc : ax_cnd c) (k : ax_J own cc nL scr R p0 Q kc ks pc' la' st' M') : ax_J own cc nL scr R p0 Q kc ks pc la st M := by
  dsimp only [ax_x1] at h
  split at h
  · split at h
    · rename_i q; subst q; obtain ⟨v, hv, hS⟩ := ax_ar_ok h hc; cases hS; exact aj_iadd hd hv k
    · cases h
  · cases h

theorem ax_x1_isub {nw : Bool} {n pc' : Nat} {la' : List (Option ax_V)} {st' : List ax_V} {M' : ax_Mm} {c : Option Prop} (hd : decode cc pc = .ok (.isub, n)) (h : ax_x1 own nw (.isub) n pc la st M = some (c, pc', la', st', M')) (hc : ax_cnd c) (k : ax_J own cc nL scr R p0 Q kc ks pc' la' st' M') : ax_J own cc nL scr R p0 Q kc ks pc la st M := by
  dsimp only [ax_x1] at h
  split at h
  · split at h
    · rename_i q; subst q; obtain ⟨v, hv, hS⟩ := ax_ar_ok h hc; cases hS; exact aj_isub hd hv k
    · cases h
  · cases h

theorem ax_x1_imul {nw : Bool} {n pc' : Nat} {la' : List (Option ax_V)} {st' : List ax_V} {M' : ax_Mm} {c : Option Prop} (hd : decode cc pc = .ok (.imul, n)) (h : ax_x1 own nw (.imul) n pc la st M = some (c, pc', la', st', M')) (hc : ax_cnd c) (k : ax_J own cc nL scr R p0 Q kc ks pc' la' st' M') : ax_J own cc nL scr R p0 Q kc ks pc la st M := by
  dsimp only [ax_x1] at h
  split at h
  · split at h
    · rename_i q; subst q; obtain ⟨v, hv, hS⟩ := ax_ar_ok h hc; cases hS; exact aj_imul hd hv k
    · cases h
  · cases h

theorem ax_x1_ineg {nw : Bool} {n pc' : Nat} {la' : List (Option ax_V)} {st' : List ax_V} {M' : ax_Mm} {c : Option Prop} (hd : decode cc pc = .ok (.ineg, n)) (h : ax_x1 own nw (.ineg) n pc la st M = some (c, pc', la', st', M')) (hc : ax_cnd c) (k : ax_J own cc nL scr R p0 Q kc ks pc' la' st' M') : ax_J own cc nL scr R p0 Q kc ks pc la st M := by
  dsimp only [ax_x1] at h
  split at h
  · split at h
    · rename_i q; subst q; obtain ⟨v, hv, hS⟩ := ax_ar_ok h hc; cases hS; exact aj_ineg hd hv k
    · cases h
  · cases h

theorem ax_x1_l2i {nw : Bool} {n pc' : Nat} {la' : List (Option ax_V)} {st' : List ax_V} {M' : ax_Mm} {c : Option Prop} (hd : decode cc pc = .ok (.l2i, n)) (h : ax_x1 own nw (.l2i) n pc la st M = some (c, pc', la', st', M')) (hc : ax_cnd c) (k : ax_J own cc nL scr R p0 Q kc ks pc' la' st' M') : ax_J own cc nL scr R p0 Q kc ks pc la st M := by
  dsimp only [ax_x1] at h
  split at h
  · split at h
    · rename_i q; subst q; obtain ⟨v, hv, hS⟩ := ax_ar_ok h hc; cases hS; exact aj_l2i hd hv k
    · cases h
  · cases h

theorem ax_x1_iand {nw : Bool} {n pc' : Nat} {la' : List (Option ax_V)} {st' : List ax_V} {M' : ax_Mm} {c : Option Prop} (hd : decode cc pc = .ok (.iand, n)) (h : ax_x1 own nw (.iand) n pc la st M = some (c, pc', la', st', M')) (hc : ax_cnd c) (k : ax_J own cc nL scr R p0 Q kc ks pc' la' st' M') : ax_J own cc nL scr R p0 Q kc ks pc la st M := by
  dsimp only [ax_x1] at h
  split at h
  · split at h
    · rename_i q; subst q; cases h; exact aj_iand hd rfl k
    · cases h
  · cases h

theorem ax_x1_ior {nw : Bool} {n pc' : Nat} {la' : List (Option ax_V)} {st' : List ax_V} {M' : ax_Mm} {c : Option Prop} (hd : decode cc pc = .ok (.ior, n)) (h : ax_x1 own nw (.ior) n pc la st M = some (c, pc', la', st', M')) (hc : ax_cnd c) (k : ax_J own cc nL scr R p0 Q kc ks pc' la' st' M') : ax_J own cc nL scr R p0 Q kc ks pc la st M := by
  dsimp only [ax_x1] at h
  split at h
  · split at h
    · rename_i q; subst q; cases h; exact aj_ior hd rfl k
    · cases h
  · cases h

theorem ax_x1_ishl {nw : Bool} {n pc' : Nat} {la' : List (Option ax_V)} {st' : List ax_V} {M' : ax_Mm} {c : Option Prop} (hd : decode cc pc = .ok (.ishl, n)) (h : ax_x1 own nw (.ishl) n pc la st M = some (c, pc', la', st', M')) (hc : ax_cnd c) (k : ax_J own cc nL scr R p0 Q kc ks pc' la' st' M') : ax_J own cc nL scr R p0 Q kc ks pc la st M := by
  dsimp only [ax_x1] at h
  split at h
  · split at h
    · rename_i q; subst q; cases h; exact aj_ishl hd rfl k
    · cases h
  · cases h

theorem ax_x1_ishr {nw : Bool} {n pc' : Nat} {la' : List (Option ax_V)} {st' : List ax_V} {M' : ax_Mm} {c : Option Prop} (hd : decode cc pc = .ok (.ishr, n)) (h : ax_x1 own nw (.ishr) n pc la st M = some (c, pc', la', st', M')) (hc : ax_cnd c) (k : ax_J own cc nL scr R p0 Q kc ks pc' la' st' M') : ax_J own cc nL scr R p0 Q kc ks pc la st M := by
  dsimp only [ax_x1] at h
  split at h
  · split at h
    · rename_i q; subst q; cases h; exact aj_ishr hd rfl k
    · cases h
  · cases h

theorem ax_x1_iushr {nw : Bool} {n pc' : Nat} {la' : List (Option ax_V)} {st' : List ax_V} {M' : ax_Mm} {c : Option Prop} (hd : decode cc pc = .ok (.iushr, n)) (h : ax_x1 own nw (.iushr) n pc la st M = some (c, pc', la', st', M')) (hc : ax_cnd c) (k : ax_J own cc nL scr R p0 Q kc ks pc' la' st' M') : ax_J own cc nL scr R p0 Q kc ks pc la st M := by
  dsimp only [ax_x1] at h
  split at h
  · split at h
    · rename_i q; subst q; cases h; exact aj_iushr hd rfl k
    · cases h
  · cases h

theorem ax_x1_i2b {nw : Bool} {n pc' : Nat} {la' : List (Option ax_V)} {st' : List ax_V} {M' : ax_Mm} {c : Option Prop} (hd : decode cc pc = .ok (.i2b, n)) (h : ax_x1 own nw (.i2b) n pc la st M = some (c, pc', la', st', M')) (hc : ax_cnd c) (k : ax_J own cc nL scr R p0 Q kc ks pc' la' st' M') : ax_J own cc nL scr R p0 Q kc ks pc la st M := by
  dsimp only [ax_x1] at h
  split at h
  · split at h
    · rename_i q; subst q; cases h; exact aj_i2b hd rfl k
    · cases h
  · cases h

theorem ax_x1_i2s {nw : Bool} {n pc' : Nat} {la' : List (Option ax_V)} {st' : List ax_V} {M' : ax_Mm} {c : Option Prop} (hd : decode cc pc = .ok (.i2s, n)) (h : ax_x1 own nw (.i2s) n pc la st M = some (c, pc', la', st', M')) (hc : ax_cnd c) (k : ax_J own cc nL scr R p0 Q kc ks pc' la' st' M') : ax_J own cc nL scr R p0 Q kc ks pc la st M := by
  dsimp only [ax_x1] at h
  split at h
  · split at h
    · rename_i q; subst q; cases h; exact aj_i2s hd rfl k
    · cases h
  · cases h

theorem ax_x1_i2l {nw : Bool} {n pc' : Nat} {la' : List (Option ax_V)} {st' : List ax_V} {M' : ax_Mm} {c : Option Prop} (hd : decode cc pc = .ok (.i2l, n)) (h : ax_x1 own nw (.i2l) n pc la st M = some (c, pc', la', st', M')) (hc : ax_cnd c) (k : ax_J own cc nL scr R p0 Q kc ks pc' la' st' M') : ax_J own cc nL scr R p0 Q kc ks pc la st M := by
  dsimp only [ax_x1] at h
  split at h
  · split at h
    · rename_i q; subst q; cases h; exact aj_i2l hd rfl k
    · cases h
  · cases h

theorem ax_x1_ladd {nw : Bool} {n pc' : Nat} {la' : List (Option ax_V)} {st' : List ax_V} {M' : ax_Mm} {c : Option Prop} (hd : decode cc pc = .ok (.ladd, n)) (h : ax_x1 own nw (.ladd) n pc la st M = some (c, pc', la', st', M')) (hc : ax_cnd c) (k : ax_J own cc nL scr R p0 Q kc ks pc' la' st' M') : ax_J own cc nL scr R p0 Q kc ks pc la st M := by
  dsimp only [ax_x1] at h
  split at h
  · split at h
    · rename_i q; subst q; cases h; exact aj_ladd hd rfl k
    · cases h
  · cases h

theorem ax_x1_lmul {nw : Bool} {n pc' : Nat} {la' : List (Option ax_V)} {st' : List ax_V} {M' : ax_Mm} {c : Option Prop} (hd : decode cc pc = .ok (.lmul, n)) (h : ax_x1 own nw (.lmul) n pc la st M = some (c, pc', la', st', M')) (hc : ax_cnd c) (k : ax_J own cc nL scr R p0 Q kc ks pc' la' st' M') : ax_J own cc nL scr R p0 Q kc ks pc la st M := by
  dsimp only [ax_x1] at h
  split at h
  · split at h
    · rename_i q; subst q; cases h; exact aj_lmul hd rfl k
    · cases h
  · cases h

theorem ax_x1_lcmp {nw : Bool} {n pc' : Nat} {la' : List (Option ax_V)} {st' : List ax_V} {M' : ax_Mm} {c : Option Prop} (hd : decode cc pc = .ok (.lcmp, n)) (h : ax_x1 own nw (.lcmp) n pc la st M = some (c, pc', la', st', M')) (hc : ax_cnd c) (k : ax_J own cc nL scr R p0 Q kc ks pc' la' st' M') : ax_J own cc nL scr R p0 Q kc ks pc la st M := by
  dsimp only [ax_x1] at h
  split at h
  · split at h
    · rename_i q; subst q; cases h; exact aj_lcmp hd rfl k
    · cases h
  · cases h

theorem ax_x1_idiv {nw : Bool} {n pc' : Nat} {la' : List (Option ax_V)} {st' : List ax_V} {M' : ax_Mm} {c : Option Prop} (hd : decode cc pc = .ok (.idiv, n)) (h : ax_x1 own nw (.idiv) n pc la st M = some (c, pc', la', st', M')) (hc : ax_cnd c) (k : ax_J own cc nL scr R p0 Q kc ks pc' la' st' M') : ax_J own cc nL scr R p0 Q kc ks pc la st M := by
  dsimp only [ax_x1] at h
  split at h
  · split at h
    · rename_i q; subst q; cases h; exact aj_idiv hc hd rfl k
    · cases h
  · cases h

theorem ax_x1_irem {nw : Bool} {n pc' : Nat} {la' : List (Option ax_V)} {st' : List ax_V} {M' : ax_Mm} {c : Option Prop} (hd : decode cc pc = .ok (.irem, n)) (h : ax_x1 own nw (.irem) n pc la st M = some (c, pc', la', st', M')) (hc : ax_cnd c) (k : ax_J own cc nL scr R p0 Q kc ks pc' la' st' M') : ax_J own cc nL scr R p0 Q kc ks pc la st M := by
  dsimp only [ax_x1] at h
  split at h
  · split at h
    · rename_i q; subst q; cases h; exact aj_irem hc hd rfl k
    · cases h
  · cases h

theorem ax_x1_dup {nw : Bool} {n pc' : Nat} {la' : List (Option ax_V)} {st' : List ax_V} {M' : ax_Mm} {c : Option Prop} (hd : decode cc pc = .ok (.dup, n)) (h : ax_x1 own nw (.dup) n pc la st M = some (c, pc', la', st', M')) (hc : ax_cnd c) (k : ax_J own cc nL scr R p0 Q kc ks pc' la' st' M') : ax_J own cc nL scr R p0 Q kc ks pc la st M := by
  dsimp only [ax_x1] at h
  split at h
  · split at h
    · rename_i q; cases h; obtain ⟨rfl, q⟩ := q; exact aj_dup hd q k
    · cases h
  · cases h

theorem ax_x1_pop {nw : Bool} {n pc' : Nat} {la' : List (Option ax_V)} {st' : List ax_V} {M' : ax_Mm} {c : Option Prop} (hd : decode cc pc = .ok (.pop, n)) (h : ax_x1 own nw (.pop) n pc la st M = some (c, pc', la', st', M')) (hc : ax_cnd c) (k : ax_J own cc nL scr R p0 Q kc ks pc' la' st' M') : ax_J own cc nL scr R p0 Q kc ks pc la st M := by
  dsimp only [ax_x1] at h
  split at h
  · split at h
    · rename_i q; cases h; obtain ⟨rfl, q⟩ := q; exact aj_pop hd q k
    · cases h
  · cases h

theorem ax_x1_dup2 {nw : Bool} {n pc' : Nat} {la' : List (Option ax_V)} {st' : List ax_V} {M' : ax_Mm} {c : Option Prop} (hd : decode cc pc = .ok (.dup2, n)) (h : ax_x1 own nw (.dup2) n pc la st M = some (c, pc', la', st', M')) (hc : ax_cnd c) (k : ax_J own cc nL scr R p0 Q kc ks pc' la' st' M') : ax_J own cc nL scr R p0 Q kc ks pc la st M := by
  dsimp only [ax_x1] at h
  split at h
  · split at h
    · rename_i q; cases h; obtain ⟨rfl, q⟩ := q; exact aj_dup2 hd q.1 q.2 k
    · cases h
  · cases h

theorem ax_x1_goto {nw : Bool} {n pc' : Nat} {la' : List (Option ax_V)} {st' : List ax_V} {M' : ax_Mm} {c : Option Prop} {z : Int} (hd : decode cc pc = .ok (.goto z, n)) (h : ax_x1 own nw (.goto z) n pc la st M = some (c, pc', la', st', M')) (hc : ax_cnd c) (k : ax_J own cc nL scr R p0 Q kc ks pc' la' st' M') : ax_J own cc nL scr R p0 Q kc ks pc la st M := by
  dsimp only [ax_x1] at h
  split at h
  · rename_i q; cases h; obtain ⟨rfl, q⟩ := q; exact aj_goto hd (by omega) k
  · cases h

theorem ax_x1_getfield {nw : Bool} {n pc' : Nat} {la' : List (Option ax_V)} {st' : List ax_V} {M' : ax_Mm} {c : Option Prop} {z : Nat} (hd : decode cc pc = .ok (.getfield z, n)) (h : ax_x1 own nw (.getfield z) n pc la st M = some (c, pc', la', st', M')) (hc : ax_cnd c) (k : ax_J own cc nL scr R p0 Q kc ks pc' la' st' M') : ax_J own cc nL scr R p0 Q kc ks pc la st M := by
  dsimp only [ax_x1] at h
  split at h
  · rename_i f u r g kk e
    split at h
    · rename_i q
      obtain ⟨rfl, rfl, q⟩ := q
      have hf := ax_lk_ok e
      split at h
      · split at h
        · rename_i q1 q2
          cases h
          exact aj_getA hf q q2.2 q2.1 hd k
        · cases h
      · rename_i q1
        cases h
        exact aj_getI hf q (by simpa using q1) hd k
    · cases h
  · cases h

theorem ax_x1_putfield {nw : Bool} {n pc' : Nat} {la' : List (Option ax_V)} {st' : List ax_V} {M' : ax_Mm} {c : Option Prop} {z : Nat} (hd : decode cc pc = .ok (.putfield z, n)) (h : ax_x1 own nw (.putfield z) n pc la st M = some (c, pc', la', st', M')) (hc : ax_cnd c) (k : ax_J own cc nL scr R p0 Q kc ks pc' la' st' M') : ax_J own cc nL scr R p0 Q kc ks pc la st M := by
  dsimp only [ax_x1] at h
  split at h
  · rename_i x f u r g kk e
    split at h
    · rename_i q
      obtain ⟨rfl, rfl, q, q1⟩ := q
      have hf := ax_lk_ok e
      cases h
      exact aj_putI hf q q1 (ax_nfin (by have := hf.1; rw [ax_N_mod] at this; exact this) q1) (ax_fc_ok hc) hd k
    · cases h
  · cases h

theorem ax_x1_arraylength {nw : Bool} {n pc' : Nat} {la' : List (Option ax_V)} {st' : List ax_V} {M' : ax_Mm} {c : Option Prop} (hd : decode cc pc = .ok (.arraylength, n)) (h : ax_x1 own nw (.arraylength) n pc la st M = some (c, pc', la', st', M')) (hc : ax_cnd c) (k : ax_J own cc nL scr R p0 Q kc ks pc' la' st' M') : ax_J own cc nL scr R p0 Q kc ks pc la st M := by
  dsimp only [ax_x1] at h
  split at h
  · split at h
    · rename_i q; cases h; obtain ⟨rfl, q1, q2, q3⟩ := q; exact aj_len q1 q2 q3 hd k
    · cases h
  · cases h

theorem ax_x1_iaload {nw : Bool} {n pc' : Nat} {la' : List (Option ax_V)} {st' : List ax_V} {M' : ax_Mm} {c : Option Prop} (hd : decode cc pc = .ok (.iaload, n)) (h : ax_x1 own nw (.iaload) n pc la st M = some (c, pc', la', st', M')) (hc : ax_cnd c) (k : ax_J own cc nL scr R p0 Q kc ks pc' la' st' M') : ax_J own cc nL scr R p0 Q kc ks pc la st M := by
  dsimp only [ax_x1] at h
  split at h
  · split at h
    · rename_i q; cases h; obtain ⟨rfl, q1, q2, q3⟩ := q; exact aj_ald q1 q2 hc (Or.inl ⟨q3, rfl⟩) hd k
    · cases h
  · cases h

theorem ax_x1_baload {nw : Bool} {n pc' : Nat} {la' : List (Option ax_V)} {st' : List ax_V} {M' : ax_Mm} {c : Option Prop} (hd : decode cc pc = .ok (.baload, n)) (h : ax_x1 own nw (.baload) n pc la st M = some (c, pc', la', st', M')) (hc : ax_cnd c) (k : ax_J own cc nL scr R p0 Q kc ks pc' la' st' M') : ax_J own cc nL scr R p0 Q kc ks pc la st M := by
  dsimp only [ax_x1] at h
  split at h
  · split at h
    · rename_i q; cases h; obtain ⟨rfl, q1, q2, q3⟩ := q; exact aj_ald q1 q2 hc (Or.inr (Or.inl ⟨q3, rfl⟩)) hd k
    · cases h
  · cases h

theorem ax_x1_caload {nw : Bool} {n pc' : Nat} {la' : List (Option ax_V)} {st' : List ax_V} {M' : ax_Mm} {c : Option Prop} (hd : decode cc pc = .ok (.caload, n)) (h : ax_x1 own nw (.caload) n pc la st M = some (c, pc', la', st', M')) (hc : ax_cnd c) (k : ax_J own cc nL scr R p0 Q kc ks pc' la' st' M') : ax_J own cc nL scr R p0 Q kc ks pc la st M := by
  dsimp only [ax_x1] at h
  split at h
  · split at h
    · rename_i q; cases h; obtain ⟨rfl, q1, q2, q3⟩ := q; exact aj_ald q1 q2 hc (Or.inr (Or.inr ⟨q3, rfl⟩)) hd k
    · cases h
  · cases h

theorem ax_x1_iastore {nw : Bool} {n pc' : Nat} {la' : List (Option ax_V)} {st' : List ax_V} {M' : ax_Mm} {c : Option Prop} (hd : decode cc pc = .ok (.iastore, n)) (h : ax_x1 own nw (.iastore) n pc la st M = some (c, pc', la', st', M')) (hc : ax_cnd c) (k : ax_J own cc nL scr R p0 Q kc ks pc' la' st' M') : ax_J own cc nL scr R p0 Q kc ks pc la st M := by
  dsimp only [ax_x1] at h
  split at h
  · split at h
    · rename_i q; cases h; obtain ⟨rfl, q1, q2, q3⟩ := q; exact aj_ast q1 q2 hc (Or.inl ⟨q3, rfl⟩) (by rw [q3]; trivial) hd k
    · cases h
  · cases h

theorem ax_x1_bastore {nw : Bool} {n pc' : Nat} {la' : List (Option ax_V)} {st' : List ax_V} {M' : ax_Mm} {c : Option Prop} (hd : decode cc pc = .ok (.bastore, n)) (h : ax_x1 own nw (.bastore) n pc la st M = some (c, pc', la', st', M')) (hc : ax_cnd c) (k : ax_J own cc nL scr R p0 Q kc ks pc' la' st' M') : ax_J own cc nL scr R p0 Q kc ks pc la st M := by
  dsimp only [ax_x1] at h
  split at h
  · split at h
    · rename_i q; cases h; obtain ⟨rfl, q1, q2, q3⟩ := q; exact aj_ast q1 q2 hc.1 (Or.inr (Or.inl ⟨q3, rfl⟩)) (by rw [q3]; exact hc.2) hd k
    · cases h
  · cases h

theorem ax_x1_castore {nw : Bool} {n pc' : Nat} {la' : List (Option ax_V)} {st' : List ax_V} {M' : ax_Mm} {c : Option Prop} (hd : decode cc pc = .ok (.castore, n)) (h : ax_x1 own nw (.castore) n pc la st M = some (c, pc', la', st', M')) (hc : ax_cnd c) (k : ax_J own cc nL scr R p0 Q kc ks pc' la' st' M') : ax_J own cc nL scr R p0 Q kc ks pc la st M := by
  dsimp only [ax_x1] at h
  split at h
  · split at h
    · rename_i q; cases h; obtain ⟨rfl, q1, q2, q3⟩ := q; exact aj_ast q1 q2 hc.1 (Or.inr (Or.inr ⟨q3, rfl⟩)) (by rw [q3]; exact hc.2) hd k
    · cases h
  · cases h

theorem ax_x1_ok {nw : Bool} {i : Instr} {n pc' : Nat} {la' : List (Option ax_V)} {st' : List ax_V} {M' : ax_Mm} {c : Option Prop} (hd : decode cc pc = .ok (i, n)) (h : ax_x1 own nw i n pc la st M = some (c, pc', la', st', M')) (hc : ax_cnd c) (k : ax_J own cc nL scr R p0 Q kc ks pc' la' st' M') : ax_J own cc nL scr R p0 Q kc ks pc la st M := by
  cases i with
  | iconst _ => exact ax_x1_iconst hd h hc k
  | bipush _ => exact ax_x1_bipush hd h hc k
  | sipush _ => exact ax_x1_sipush hd h hc k
  | ldc _ => exact ax_x1_ldc hd h hc k
  | ldc_w _ => exact ax_x1_ldc_w hd h hc k
  | ldc2_w _ => exact ax_x1_ldc2_w hd h hc k
  | aconst_null  => exact ax_x1_aconst_null hd h hc k
  | lconst _ => exact ax_x1_lconst hd h hc k
  | iload _ => exact ax_x1_iload hd h hc k
  | iload_n _ => exact ax_x1_iload_n hd h hc k
  | lload _ => exact ax_x1_lload hd h hc k
  | aload _ => exact ax_x1_aload hd h hc k
  | aload_n _ => exact ax_x1_aload_n hd h hc k
  | istore _ => exact ax_x1_istore hd h hc k
  | istore_n _ => exact ax_x1_istore_n hd h hc k
  | astore _ => exact ax_x1_astore hd h hc k
  | astore_n _ => exact ax_x1_astore_n hd h hc k
  | lstore _ => exact ax_x1_lstore hd h hc k
  | iinc _ _ => exact ax_x1_iinc hd h hc k
  | iadd  => exact ax_x1_iadd hd h hc k
  | isub  => exact ax_x1_isub hd h hc k
  | imul  => exact ax_x1_imul hd h hc k
  | ineg  => exact ax_x1_ineg hd h hc k
  | l2i  => exact ax_x1_l2i hd h hc k
  | iand  => exact ax_x1_iand hd h hc k
  | ior  => exact ax_x1_ior hd h hc k
  | ishl  => exact ax_x1_ishl hd h hc k
  | ishr  => exact ax_x1_ishr hd h hc k
  | iushr  => exact ax_x1_iushr hd h hc k
  | i2b  => exact ax_x1_i2b hd h hc k
  | i2s  => exact ax_x1_i2s hd h hc k
  | i2l  => exact ax_x1_i2l hd h hc k
  | ladd  => exact ax_x1_ladd hd h hc k
  | lmul  => exact ax_x1_lmul hd h hc k
  | lcmp  => exact ax_x1_lcmp hd h hc k
  | idiv  => exact ax_x1_idiv hd h hc k
  | irem  => exact ax_x1_irem hd h hc k
  | dup  => exact ax_x1_dup hd h hc k
  | pop  => exact ax_x1_pop hd h hc k
  | dup2  => exact ax_x1_dup2 hd h hc k
  | goto _ => exact ax_x1_goto hd h hc k
  | getfield _ => exact ax_x1_getfield hd h hc k
  | putfield _ => exact ax_x1_putfield hd h hc k
  | arraylength  => exact ax_x1_arraylength hd h hc k
  | iaload  => exact ax_x1_iaload hd h hc k
  | baload  => exact ax_x1_baload hd h hc k
  | caload  => exact ax_x1_caload hd h hc k
  | iastore  => exact ax_x1_iastore hd h hc k
  | bastore  => exact ax_x1_bastore hd h hc k
  | castore  => exact ax_x1_castore hd h hc k
  | _ => exact absurd h (by simp [ax_x1])
def ax_at (im : List (Nat × Instr × Nat)) (pc : Nat) : Option (Instr × Nat) := match im with
  | [] => none
  | e :: r => if e.1 = pc then some e.2 else ax_at r pc
theorem ax_at_in {im : List (Nat × Instr × Nat)} {pc : Nat} {q : Instr × Nat} (h : ax_at im pc = some q) : (pc, q) ∈ im := by
  induction im with
  | nil => cases h
  | cons e r ih =>
    unfold ax_at at h
    split at h
    · rename_i q; cases h; subst q; exact List.mem_cons_self
    · exact List.mem_cons_of_mem _ (ih h)
def ax_im (cc : ByteArray) (im : List (Nat × Instr × Nat)) : Prop := ∀ e ∈ im, decode cc e.1 = .ok (e.2.1, e.2.2)
theorem ax_dec {im : List (Nat × Instr × Nat)} (hi : ax_im cc im) {q : Instr × Nat} (h : ax_at im pc = some q) : decode cc pc = .ok (q.1, q.2) := hi (pc, q) (ax_at_in h)
def ax_xs (own : Nat) (im : List (Nat × Instr × Nat)) (nw : Bool) : Nat → ax_T → Option (Prop × ax_T)
  | 0, S => some (True, S)
  | n + 1, S => match ax_at im S.1 with
    | none => none
    | some q => match ax_x1 own nw q.1 q.2 S.1 S.2.1 S.2.2.1 S.2.2.2 with
      | none => none
      | some (c, S') => match ax_xs own im nw n S' with
        | none => none
        | some (C, S'') => match c with
          | none => some (C, S'')
          | some c => some (c ∧ C, S'')
theorem ax_xs_ok {im : List (Nat × Instr × Nat)} (hi : ax_im cc im) {nw : Bool} : ∀ (n : Nat) {pc : Nat} {la : List (Option ax_V)} {st : List ax_V} {M : ax_Mm} {C : Prop} {S' : ax_T}, ax_xs own im nw n (pc, la, st, M) = some (C, S') → C → ax_J own cc nL scr R p0 Q kc ks S'.1 S'.2.1 S'.2.2.1 S'.2.2.2 → ax_J own cc nL scr R p0 Q kc ks pc la st M
  | 0, _, _, _, _, _, _, h, _, k => by
    unfold ax_xs at h
    cases h
    exact k
  | n + 1, pc, la, st, M, C, S', h, hC, k => by
    unfold ax_xs at h
    dsimp only at h
    split at h
    · cases h
    · rename_i q e
      split at h
      · cases h
      · rename_i c S1 e1
        split at h
        · cases h
        · rename_i C1 S2 e2
          obtain ⟨pc1, la1, st1, M1⟩ := S1
          cases c with
          | none =>
            cases h
            exact ax_x1_ok (ax_dec hi e) e1 trivial (ax_xs_ok hi n e2 hC k)
          | some c =>
            cases h
            exact ax_x1_ok (ax_dec hi e) e1 hC.1 (ax_xs_ok hi n e2 hC.2 k)
/-- a straight stretch of n instructions, in one row -/
theorem aj_run {im : List (Nat × Instr × Nat)} (hi : ax_im cc im) (nw : Bool) (n : Nat) {C : Prop} {pc' : Nat} {la' : List (Option ax_V)} {st' : List ax_V} {M' : ax_Mm} (h : ax_xs own im nw n (pc, la, st, M) = some (C, pc', la', st', M')) (hC : C) (k : ax_J own cc nL scr R p0 Q kc ks pc' la' st' M') : ax_J own cc nL scr R p0 Q kc ks pc la st M := ax_xs_ok hi n h hC k
end AX
