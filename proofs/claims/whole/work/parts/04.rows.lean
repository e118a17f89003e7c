/-! ===== one instruction, a row: from the judgement behind it to the judgement ahead of it ===== -/
theorem ax_st_c {M : ax_Mm} {ad : Nat → Int → Nat} {v : ax_V} {vs : List ax_V} {rs : List Value} (h : ax_st M ad (v :: vs) rs) : ∃ w ws, rs = w :: ws ∧ ax_w M ad v w ∧ ax_st M ad vs ws := by
  cases rs with
  | nil => exact h.elim
  | cons w ws => exact ⟨w, ws, rfl, h.1, h.2⟩
theorem ax_st_i {M : ax_Mm} {ad : Nat → Int → Nat} {x : Int} {vs : List ax_V} {rs : List Value} (h : ax_st M ad (.inl x :: vs) rs) : ∃ (y : Int32) (ws : List Value), rs = .int y :: ws ∧ y.toInt = x ∧ ax_st M ad vs ws := by
  obtain ⟨w, ws, rfl, ⟨y, rfl, hy⟩, h1⟩ := ax_st_c h
  exact ⟨y, ws, rfl, hy, h1⟩
theorem ax_st_l {M : ax_Mm} {ad : Nat → Int → Nat} {x : Int} {vs : List ax_V} {rs : List Value} (h : ax_st M ad (.inr (.inl x) :: vs) rs) : ∃ (y : Int64) (ws : List Value), rs = .long y :: ws ∧ y.toInt = x ∧ ax_st M ad vs ws := by
  obtain ⟨w, ws, rfl, ⟨y, rfl, hy⟩, h1⟩ := ax_st_c h
  exact ⟨y, ws, rfl, hy, h1⟩
theorem ax_st_r {M : ax_Mm} {ad : Nat → Int → Nat} {f : Nat} {u : Int} {vs : List ax_V} {rs : List Value} (h : ax_st M ad (.inr (.inr (some (f, u))) :: vs) rs) : ∃ (ws : List Value), rs = .ref (ad f u) :: ws ∧ M.1 f u ∧ ax_st M ad vs ws := by
  obtain ⟨w, ws, rfl, ⟨h1, rfl⟩, h2⟩ := ax_st_c h
  exact ⟨ws, rfl, h1, h2⟩
theorem ax_bm {x : Int} (h : -2147483648 ≤ x ∧ x ≤ 2147483647) : Int.bmod x 4294967296 = x := by
  rw [Int.bmod_def]; omega
theorem ax_cat {M : ax_Mm} {ad : Nat → Int → Nat} {v : ax_V} {w : Value} (h : ax_w M ad v w) : (∃ x, v = .inr (.inl x)) ∨ w.category = 1 := by
  rcases v with x | x | _ | q
  · obtain ⟨y, rfl, -⟩ := h; exact Or.inr rfl
  · exact Or.inl ⟨x, rfl⟩
  · rw [show w = .null from h]; exact Or.inr rfl
  · rw [h.2]; exact Or.inr rfl
def ax_nlg (v : ax_V) : Bool := match v with
  | .inr (.inl _) => false
  | _ => true
theorem ax_cat1 {M : ax_Mm} {ad : Nat → Int → Nat} {v : ax_V} {w : Value} (h : ax_w M ad v w) (hv : ax_nlg v = true) : w.category = 1 := by
  rcases ax_cat h with ⟨x, rfl⟩ | h
  · simp [ax_nlg] at hv
  · exact h
def ax_and (x y : Int) : Int := (Int32.ofInt x &&& Int32.ofInt y).toInt
def ax_or (x y : Int) : Int := (Int32.ofInt x ||| Int32.ofInt y).toInt
def ax_shl (x y : Int) : Int := (Int32.ofInt x <<< (Int32.ofInt y &&& 31)).toInt
def ax_shr (x y : Int) : Int := (Int32.ofInt x >>> (Int32.ofInt y &&& 31)).toInt
def ax_ush (x y : Int) : Int := ((Int32.ofInt x).toUInt32 >>> ((Int32.ofInt y).toUInt32 &&& Int32.toUInt32 31)).toInt32.toInt
def ax_i2b (x : Int) : Int := (Int32.ofInt x).toInt8.toInt32.toInt
def ax_i2s (x : Int) : Int := (Int32.ofInt x).toInt16.toInt32.toInt
def ax_cmp (x y : Int) : Int := if y < x then 1 else if x = y then 0 else -1
/-- no long just ahead of a local -/
def ax_pl (la : List (Option ax_V)) (i : Nat) : Bool := match i with
  | 0 => true
  | q + 1 => match la[q]? with
    | some (some (.inr (.inl _))) => false
    | _ => true
theorem ax_lo_at {M : ax_Mm} {ad : Nat → Int → Nat} {nL : Nat} {la : List (Option ax_V)} {ls : Array Slot} (L : ax_lo M ad nL la ls) {i : Nat} {v : ax_V} (h : la[i]? = some (some v)) : ∃ w, ls[i]? = some (.val w) ∧ ax_w M ad v w := by
  obtain ⟨-, lv, h1, h2⟩ := L
  obtain ⟨w, h3, h4⟩ := h2 i v h
  exact ⟨w, h1.2.2 _ h3, h4⟩
theorem ax_lo_set {M : ax_Mm} {ad : Nat → Int → Nat} {nL : Nat} {la : List (Option ax_V)} {ls' : Array Slot} {lv : List (Nat × Value)} {i : Nat} {v : ax_V} {w : Value} (hn : la.length = nL) (h2 : ∀ (i : Nat) (v : ax_V), la[i]? = some (some v) → ∃ w : Value, (i, w) ∈ lv ∧ ax_w M ad v w) (hp : ax_pl la i = true) (hv : ax_w M ad v w)
    (h : lv_has ls' nL ((i, w) :: lv.filter (fun q => !(q.1 == i) && !(q.1 + 1 == i && q.2.category == 2)))) : ax_lo M ad nL (la.set i (some v)) ls' := by
  refine ⟨by simpa using hn, _, h, fun j u hj => ?_⟩
  by_cases e : j = i
  · subst e
    have hlt : j < la.length := by
      by_cases hl : j < la.length
      · exact hl
      · rw [List.getElem?_eq_none (by simpa using Nat.le_of_not_lt hl)] at hj
        cases hj
    rw [List.getElem?_set_self hlt] at hj
    cases hj
    exact ⟨w, List.mem_cons_self, hv⟩
  · rw [List.getElem?_set_ne (fun q => e q.symm)] at hj
    obtain ⟨w', h3, h4⟩ := h2 j u hj
    refine ⟨w', List.mem_cons_of_mem _ (List.mem_filter.mpr ⟨h3, ?_⟩), h4⟩
    by_cases e2 : j + 1 = i
    · subst e2
      have : w'.category = 1 := by
        rcases ax_cat h4 with ⟨x, rfl⟩ | h5
        · simp [ax_pl, hj] at hp
        · exact h5
      simp [this]
    · simp [e, e2]
theorem ax_l01 : ∀ n : Fin 2, (Int64.ofNat (n : Nat)).toInt = ((n : Nat) : Int) := by decide
section AJ
variable {own : Nat} {cc : ByteArray} {nL : Nat} {scr : Option (Nat × (Nat → Int32))} {R : Room} {p0 : Nat → Int → Prop} {Q : ax_Q} {kc ks pc : Nat} {la : List (Option ax_V)} {st : List ax_V} {M : ax_Mm}

theorem aj_iconst {n : Int} (hn : -32768 ≤ n ∧ n ≤ 32767) (h : decode cc pc = .ok (.iconst n, 1)) (k : ax_J own cc nL scr R p0 Q kc ks (pc + 1) la (.inl n :: st) M) : ax_J own cc nL scr R p0 Q kc ks pc la st M := by
  intro p l e s m args below meth c N0 D QQ ad0 C hr ad ls rs H locs Z L S
  exact lv_iconst C.1 C.2.1 h rfl (k p l e s m args below meth c N0 D QQ ad0 C hr ad _ _ _ _ Z L ⟨⟨_, rfl, by rw [Int32.toInt_ofInt]; exact ax_bm (by omega)⟩, S⟩)

theorem aj_bipush {n : Int} (hn : -128 ≤ n ∧ n ≤ 127) (h : decode cc pc = .ok (.bipush n, 2)) (k : ax_J own cc nL scr R p0 Q kc ks (pc + 2) la (.inl n :: st) M) : ax_J own cc nL scr R p0 Q kc ks pc la st M := by
  intro p l e s m args below meth c N0 D QQ ad0 C hr ad ls rs H locs Z L S
  exact lv_bipush C.1 C.2.1 h rfl (k p l e s m args below meth c N0 D QQ ad0 C hr ad _ _ _ _ Z L ⟨⟨_, rfl, by rw [Int8.toInt_toInt32, Int8.toInt_ofInt, show Int8.size = 256 from rfl, Int.bmod_def]; omega⟩, S⟩)

theorem aj_sipush {n : Int} (hn : -32768 ≤ n ∧ n ≤ 32767) (h : decode cc pc = .ok (.sipush n, 3)) (k : ax_J own cc nL scr R p0 Q kc ks (pc + 3) la (.inl n :: st) M) : ax_J own cc nL scr R p0 Q kc ks pc la st M := by
  intro p l e s m args below meth c N0 D QQ ad0 C hr ad ls rs H locs Z L S
  exact lv_sipush C.1 C.2.1 h rfl (k p l e s m args below meth c N0 D QQ ad0 C hr ad _ _ _ _ Z L ⟨⟨_, rfl, by rw [Int16.toInt_toInt32, Int16.toInt_ofInt, show Int16.size = 65536 from rfl, Int.bmod_def]; omega⟩, S⟩)

theorem aj_ldc {i : Nat} {v : Int32} (hw : Cond.constant (ax_nm own) i v ∈ ax_GT) (h : decode cc pc = .ok (.ldc i, 2)) (k : ax_J own cc nL scr R p0 Q kc ks (pc + 2) la (.inl v.toInt :: st) M) : ax_J own cc nL scr R p0 Q kc ks pc la st M := by
  intro p l e s m args below meth c N0 D QQ ad0 C hr ad ls rs H locs Z L S
  exact lv_ldc C.1 C.2.1 C.2.2.2.1 (C.2.2.2.2.1 _ hw) h (k p l e s m args below meth c N0 D QQ ad0 C hr ad _ _ _ _ Z L ⟨⟨_, rfl, rfl⟩, S⟩)

theorem aj_ldcw {i : Nat} {v : Int32} (hw : Cond.constant (ax_nm own) i v ∈ ax_GT) (h : decode cc pc = .ok (.ldc_w i, 3)) (k : ax_J own cc nL scr R p0 Q kc ks (pc + 3) la (.inl v.toInt :: st) M) : ax_J own cc nL scr R p0 Q kc ks pc la st M := by
  intro p l e s m args below meth c N0 D QQ ad0 C hr ad ls rs H locs Z L S
  exact lv_ldcw C.1 C.2.1 C.2.2.2.1 (C.2.2.2.2.1 _ hw) h (k p l e s m args below meth c N0 D QQ ad0 C hr ad _ _ _ _ Z L ⟨⟨_, rfl, rfl⟩, S⟩)

theorem aj_ldc2 {i : Nat} {v : Int64} (hw : Cond.constantLong (ax_nm own) i v ∈ ax_GT) (h : decode cc pc = .ok (.ldc2_w i, 3)) (k : ax_J own cc nL scr R p0 Q kc ks (pc + 3) la (.inr (.inl v.toInt) :: st) M) : ax_J own cc nL scr R p0 Q kc ks pc la st M := by
  intro p l e s m args below meth c N0 D QQ ad0 C hr ad ls rs H locs Z L S
  exact lv_ldc2 C.1 C.2.1 C.2.2.2.1 (C.2.2.2.2.1 _ hw) h (k p l e s m args below meth c N0 D QQ ad0 C hr ad _ _ _ _ Z L ⟨⟨_, rfl, rfl⟩, S⟩)

theorem aj_null  (h : decode cc pc = .ok (.aconst_null, 1)) (k : ax_J own cc nL scr R p0 Q kc ks (pc + 1) la (.inr (.inr none) :: st) M) : ax_J own cc nL scr R p0 Q kc ks pc la st M := by
  intro p l e s m args below meth c N0 D QQ ad0 C hr ad ls rs H locs Z L S
  exact lv_null C.1 C.2.1 h (k p l e s m args below meth c N0 D QQ ad0 C hr ad _ _ _ _ Z L ⟨rfl, S⟩)

theorem aj_lconst {n : Fin 2} (h : decode cc pc = .ok (.lconst n, 1)) (k : ax_J own cc nL scr R p0 Q kc ks (pc + 1) la (.inr (.inl ((n : Nat) : Int)) :: st) M) : ax_J own cc nL scr R p0 Q kc ks pc la st M := by
  intro p l e s m args below meth c N0 D QQ ad0 C hr ad ls rs H locs Z L S
  exact lv_lconst C.1 C.2.1 h rfl (k p l e s m args below meth c N0 D QQ ad0 C hr ad _ _ _ _ Z L ⟨⟨_, rfl, ax_l01 n⟩, S⟩)

theorem aj_iload {i : Nat} {x : Int} (h : decode cc pc = .ok (.iload i, 2)) (hl : la[i]? = some (some (.inl x))) (k : ax_J own cc nL scr R p0 Q kc ks (pc + 2) la (.inl x :: st) M) : ax_J own cc nL scr R p0 Q kc ks pc la st M := by
  intro p l e s m args below meth c N0 D QQ ad0 C hr ad ls rs H locs Z L S
  obtain ⟨w, h1, h2⟩ := ax_lo_at L hl
  obtain ⟨y, rfl, hy⟩ := h2
  exact lv_iload C.1 C.2.1 h h1 (k p l e s m args below meth c N0 D QQ ad0 C hr ad _ _ _ _ Z L ⟨⟨_, rfl, hy⟩, S⟩)

theorem aj_iload_n {q : Fin 4} {i : Nat} (hi : (q : Nat) = i) {x : Int} (h : decode cc pc = .ok (.iload_n q, 1)) (hl : la[i]? = some (some (.inl x))) (k : ax_J own cc nL scr R p0 Q kc ks (pc + 1) la (.inl x :: st) M) : ax_J own cc nL scr R p0 Q kc ks pc la st M := by
  intro p l e s m args below meth c N0 D QQ ad0 C hr ad ls rs H locs Z L S
  obtain ⟨w, h1, h2⟩ := ax_lo_at L hl
  obtain ⟨y, rfl, hy⟩ := h2
  exact lv_iload_n C.1 C.2.1 h hi h1 (k p l e s m args below meth c N0 D QQ ad0 C hr ad _ _ _ _ Z L ⟨⟨_, rfl, hy⟩, S⟩)

theorem aj_lload {i : Nat} {x : Int} (h : decode cc pc = .ok (.lload i, 2)) (hl : la[i]? = some (some (.inr (.inl x)))) (k : ax_J own cc nL scr R p0 Q kc ks (pc + 2) la (.inr (.inl x) :: st) M) : ax_J own cc nL scr R p0 Q kc ks pc la st M := by
  intro p l e s m args below meth c N0 D QQ ad0 C hr ad ls rs H locs Z L S
  obtain ⟨w, h1, h2⟩ := ax_lo_at L hl
  obtain ⟨y, rfl, hy⟩ := h2
  exact lv_lload C.1 C.2.1 h h1 (k p l e s m args below meth c N0 D QQ ad0 C hr ad _ _ _ _ Z L ⟨⟨_, rfl, hy⟩, S⟩)

theorem aj_lload_n {q : Fin 4} {i : Nat} (hi : (q : Nat) = i) {x : Int} (h : decode cc pc = .ok (.lload_n q, 1)) (hl : la[i]? = some (some (.inr (.inl x)))) (k : ax_J own cc nL scr R p0 Q kc ks (pc + 1) la (.inr (.inl x) :: st) M) : ax_J own cc nL scr R p0 Q kc ks pc la st M := by
  intro p l e s m args below meth c N0 D QQ ad0 C hr ad ls rs H locs Z L S
  obtain ⟨w, h1, h2⟩ := ax_lo_at L hl
  obtain ⟨y, rfl, hy⟩ := h2
  exact lv_lload_n C.1 C.2.1 h hi h1 (k p l e s m args below meth c N0 D QQ ad0 C hr ad _ _ _ _ Z L ⟨⟨_, rfl, hy⟩, S⟩)

theorem aj_aload {i : Nat} {f : Nat} {u : Int} (h : decode cc pc = .ok (.aload i, 2)) (hl : la[i]? = some (some (.inr (.inr (some (f, u)))))) (k : ax_J own cc nL scr R p0 Q kc ks (pc + 2) la (.inr (.inr (some (f, u))) :: st) M) : ax_J own cc nL scr R p0 Q kc ks pc la st M := by
  intro p l e s m args below meth c N0 D QQ ad0 C hr ad ls rs H locs Z L S
  obtain ⟨w, h1, h2⟩ := ax_lo_at L hl
  obtain ⟨hp, rfl⟩ := h2
  exact lv_aload C.1 C.2.1 h h1 (k p l e s m args below meth c N0 D QQ ad0 C hr ad _ _ _ _ Z L ⟨⟨hp, rfl⟩, S⟩)

theorem aj_aloadN {i : Nat} (h : decode cc pc = .ok (.aload i, 2)) (hl : la[i]? = some (some (.inr (.inr none)))) (k : ax_J own cc nL scr R p0 Q kc ks (pc + 2) la (.inr (.inr none) :: st) M) : ax_J own cc nL scr R p0 Q kc ks pc la st M := by
  intro p l e s m args below meth c N0 D QQ ad0 C hr ad ls rs H locs Z L S
  obtain ⟨w, h1, h2⟩ := ax_lo_at L hl
  rw [show w = .null from h2] at h1
  exact lv_aloadN C.1 C.2.1 h h1 (k p l e s m args below meth c N0 D QQ ad0 C hr ad _ _ _ _ Z L ⟨rfl, S⟩)

theorem aj_aload_n {q : Fin 4} {i : Nat} (hi : (q : Nat) = i) {f : Nat} {u : Int} (h : decode cc pc = .ok (.aload_n q, 1)) (hl : la[i]? = some (some (.inr (.inr (some (f, u)))))) (k : ax_J own cc nL scr R p0 Q kc ks (pc + 1) la (.inr (.inr (some (f, u))) :: st) M) : ax_J own cc nL scr R p0 Q kc ks pc la st M := by
  intro p l e s m args below meth c N0 D QQ ad0 C hr ad ls rs H locs Z L S
  obtain ⟨w, h1, h2⟩ := ax_lo_at L hl
  obtain ⟨hp, rfl⟩ := h2
  exact lv_aload_n C.1 C.2.1 h hi h1 (k p l e s m args below meth c N0 D QQ ad0 C hr ad _ _ _ _ Z L ⟨⟨hp, rfl⟩, S⟩)

theorem aj_aload_nN {q : Fin 4} {i : Nat} (hi : (q : Nat) = i) (h : decode cc pc = .ok (.aload_n q, 1)) (hl : la[i]? = some (some (.inr (.inr none)))) (k : ax_J own cc nL scr R p0 Q kc ks (pc + 1) la (.inr (.inr none) :: st) M) : ax_J own cc nL scr R p0 Q kc ks pc la st M := by
  intro p l e s m args below meth c N0 D QQ ad0 C hr ad ls rs H locs Z L S
  obtain ⟨w, h1, h2⟩ := ax_lo_at L hl
  rw [show w = .null from h2] at h1
  exact lv_aload_nN C.1 C.2.1 h hi h1 (k p l e s m args below meth c N0 D QQ ad0 C hr ad _ _ _ _ Z L ⟨rfl, S⟩)

theorem aj_istore {i : Nat} {x : Int} (h : decode cc pc = .ok (.istore i, 2)) (hi : i < la.length) (hp : ax_pl la i = true) (k : ax_J own cc nL scr R p0 Q kc ks (pc + 2) (la.set i (some (.inl x))) st M) : ax_J own cc nL scr R p0 Q kc ks pc la (.inl x :: st) M := by
  intro p l e s m args below meth c N0 D QQ ad0 C hr ad ls rs H locs Z L S
  obtain ⟨y, ws, e1, hy, S1⟩ := ax_st_i S
  clear S
  subst e1
  have S := S1
  obtain ⟨hn, lv, h1, h2⟩ := L
  exact lv_istore C.1 C.2.1 h h1 (by omega) rfl (fun ls' h3 => k p l e s m args below meth c N0 D QQ ad0 C hr ad _ _ _ _ Z (ax_lo_set hn h2 hp ⟨_, rfl, hy⟩ h3) S)

theorem aj_istore_n {q : Fin 4} {i : Nat} (hq : (q : Nat) = i) {x : Int} (h : decode cc pc = .ok (.istore_n q, 1)) (hi : i < la.length) (hp : ax_pl la i = true) (k : ax_J own cc nL scr R p0 Q kc ks (pc + 1) (la.set i (some (.inl x))) st M) : ax_J own cc nL scr R p0 Q kc ks pc la (.inl x :: st) M := by
  intro p l e s m args below meth c N0 D QQ ad0 C hr ad ls rs H locs Z L S
  obtain ⟨y, ws, e1, hy, S1⟩ := ax_st_i S
  clear S
  subst e1
  have S := S1
  obtain ⟨hn, lv, h1, h2⟩ := L
  exact lv_istore_n C.1 C.2.1 h hq h1 (by omega) rfl (fun ls' h3 => k p l e s m args below meth c N0 D QQ ad0 C hr ad _ _ _ _ Z (ax_lo_set hn h2 hp ⟨_, rfl, hy⟩ h3) S)

theorem aj_astore {i : Nat} {f : Nat} {u : Int} (h : decode cc pc = .ok (.astore i, 2)) (hi : i < la.length) (hp : ax_pl la i = true) (k : ax_J own cc nL scr R p0 Q kc ks (pc + 2) (la.set i (some (.inr (.inr (some (f, u)))))) st M) : ax_J own cc nL scr R p0 Q kc ks pc la (.inr (.inr (some (f, u))) :: st) M := by
  intro p l e s m args below meth c N0 D QQ ad0 C hr ad ls rs H locs Z L S
  obtain ⟨ws, e1, hm, S1⟩ := ax_st_r S
  clear S
  subst e1
  have S := S1
  obtain ⟨hn, lv, h1, h2⟩ := L
  exact lv_astore C.1 C.2.1 h h1 (by omega) rfl (fun ls' h3 => k p l e s m args below meth c N0 D QQ ad0 C hr ad _ _ _ _ Z (ax_lo_set hn h2 hp ⟨hm, rfl⟩ h3) S)

theorem aj_astoreN {i : Nat} (h : decode cc pc = .ok (.astore i, 2)) (hi : i < la.length) (hp : ax_pl la i = true) (k : ax_J own cc nL scr R p0 Q kc ks (pc + 2) (la.set i (some (.inr (.inr none)))) st M) : ax_J own cc nL scr R p0 Q kc ks pc la (.inr (.inr none) :: st) M := by
  intro p l e s m args below meth c N0 D QQ ad0 C hr ad ls rs H locs Z L S
  obtain ⟨w, ws, e1, hw, S1⟩ := ax_st_c S
  clear S
  subst e1
  have S := S1
  rw [show w = .null from hw]
  obtain ⟨hn, lv, h1, h2⟩ := L
  exact lv_astoreN C.1 C.2.1 h h1 (by omega) rfl (fun ls' h3 => k p l e s m args below meth c N0 D QQ ad0 C hr ad _ _ _ _ Z (ax_lo_set hn h2 hp rfl h3) S)

theorem aj_astore_n {q : Fin 4} {i : Nat} (hq : (q : Nat) = i) {f : Nat} {u : Int} (h : decode cc pc = .ok (.astore_n q, 1)) (hi : i < la.length) (hp : ax_pl la i = true) (k : ax_J own cc nL scr R p0 Q kc ks (pc + 1) (la.set i (some (.inr (.inr (some (f, u)))))) st M) : ax_J own cc nL scr R p0 Q kc ks pc la (.inr (.inr (some (f, u))) :: st) M := by
  intro p l e s m args below meth c N0 D QQ ad0 C hr ad ls rs H locs Z L S
  obtain ⟨ws, e1, hm, S1⟩ := ax_st_r S
  clear S
  subst e1
  have S := S1
  obtain ⟨hn, lv, h1, h2⟩ := L
  exact lv_astore_n C.1 C.2.1 h hq h1 (by omega) rfl (fun ls' h3 => k p l e s m args below meth c N0 D QQ ad0 C hr ad _ _ _ _ Z (ax_lo_set hn h2 hp ⟨hm, rfl⟩ h3) S)

theorem aj_astore_nN {q : Fin 4} {i : Nat} (hq : (q : Nat) = i) (h : decode cc pc = .ok (.astore_n q, 1)) (hi : i < la.length) (hp : ax_pl la i = true) (k : ax_J own cc nL scr R p0 Q kc ks (pc + 1) (la.set i (some (.inr (.inr none)))) st M) : ax_J own cc nL scr R p0 Q kc ks pc la (.inr (.inr none) :: st) M := by
  intro p l e s m args below meth c N0 D QQ ad0 C hr ad ls rs H locs Z L S
  obtain ⟨w, ws, e1, hw, S1⟩ := ax_st_c S
  clear S
  subst e1
  have S := S1
  rw [show w = .null from hw]
  obtain ⟨hn, lv, h1, h2⟩ := L
  exact lv_astore_nN C.1 C.2.1 h hq h1 (by omega) rfl (fun ls' h3 => k p l e s m args below meth c N0 D QQ ad0 C hr ad _ _ _ _ Z (ax_lo_set hn h2 hp rfl h3) S)

theorem ax_lo_set2 {M : ax_Mm} {ad : Nat → Int → Nat} {nL : Nat} {la : List (Option ax_V)} {ls' : Array Slot} {lv : List (Nat × Value)} {i : Nat} {x : Int} {w : Value} (hn : la.length = nL) (h2 : ∀ (i : Nat) (v : ax_V), la[i]? = some (some v) → ∃ w : Value, (i, w) ∈ lv ∧ ax_w M ad v w) (hp : ax_pl la i = true) (hv : ax_w M ad (.inr (.inl x)) w)
    (h : lv_has ls' nL ((i, w) :: lv.filter (fun q => !(q.1 == i) && (!(q.1 == i + 1) && !(q.1 + 1 == i && q.2.category == 2))))) : ax_lo M ad nL ((la.set (i + 1) none).set i (some (.inr (.inl x)))) ls' := by
  refine ⟨by simpa using hn, _, h, fun j u hj => ?_⟩
  by_cases e : j = i
  · subst e
    have hlt : j < (la.set (j + 1) none).length := by
      by_cases hl : j < (la.set (j + 1) none).length
      · exact hl
      · rw [List.getElem?_eq_none (by simpa using Nat.le_of_not_lt hl)] at hj
        cases hj
    rw [List.getElem?_set_self hlt] at hj
    cases hj
    exact ⟨w, List.mem_cons_self, hv⟩
  · rw [List.getElem?_set_ne (fun q => e q.symm)] at hj
    by_cases e1 : j = i + 1
    · subst e1
      by_cases hl : i + 1 < la.length
      · rw [List.getElem?_set_self hl] at hj
        cases hj
      · rw [List.getElem?_eq_none (by simpa using Nat.le_of_not_lt hl)] at hj
        cases hj
    · rw [List.getElem?_set_ne (fun q => e1 q.symm)] at hj
      obtain ⟨w', h3, h4⟩ := h2 j u hj
      refine ⟨w', List.mem_cons_of_mem _ (List.mem_filter.mpr ⟨h3, ?_⟩), h4⟩
      by_cases e2 : j + 1 = i
      · subst e2
        have : w'.category = 1 := by
          rcases ax_cat h4 with ⟨x, rfl⟩ | h5
          · simp [ax_pl, hj] at hp
          · exact h5
        simp [this]
        omega
      · simp [e, e1, e2]
theorem aj_lstore {i : Nat} {x : Int} (h : decode cc pc = .ok (.lstore i, 2)) (hi : i + 1 < la.length) (hp : ax_pl la i = true) (k : ax_J own cc nL scr R p0 Q kc ks (pc + 2) ((la.set (i + 1) none).set i (some (.inr (.inl x)))) st M) : ax_J own cc nL scr R p0 Q kc ks pc la (.inr (.inl x) :: st) M := by
  intro p l e s m args below meth c N0 D QQ ad0 C hr ad ls rs H locs Z L S
  obtain ⟨y, ws, e1, hy, S1⟩ := ax_st_l S
  clear S
  subst e1
  have S := S1
  obtain ⟨hn, lv, h1, h2⟩ := L
  exact lv_lstore C.1 C.2.1 h h1 (by omega) rfl (fun ls' h3 => k p l e s m args below meth c N0 D QQ ad0 C hr ad _ _ _ _ Z (ax_lo_set2 hn h2 hp ⟨_, rfl, hy⟩ h3) S)
theorem aj_iinc {i : Nat} {n x z : Int} (h : decode cc pc = .ok (.iinc i n, 3)) (hl : la[i]? = some (some (.inl x))) (hp : ax_pl la i = true) (hz : Int.bmod (x + n) 4294967296 = z) (hn0 : -32768 ≤ n ∧ n ≤ 32767) (k : ax_J own cc nL scr R p0 Q kc ks (pc + 3) (la.set i (some (.inl z))) st M) : ax_J own cc nL scr R p0 Q kc ks pc la st M := by
  intro p l e s m args below meth c N0 D QQ ad0 C hr ad ls rs H locs Z L S
  obtain ⟨hn, lv, h1, h2⟩ := L
  obtain ⟨w, h3, y, rfl, hy⟩ := h2 i _ hl
  obtain ⟨q, hq⟩ := List.getElem?_of_mem h3
  have hi : i < la.length := (List.getElem?_eq_some_iff.mp hl).1
  refine lv_iinc C.1 C.2.1 h h1 hq rfl (by omega) rfl (fun ls' h4 => k p l e s m args below meth c N0 D QQ ad0 C hr ad _ _ _ _ Z (ax_lo_set hn h2 hp ⟨_, rfl, ?_⟩ h4) S)
  rw [Int32.toInt_add, Int32.toInt_ofInt, hy, ax_bm (x := n) (by omega)]
  exact hz

theorem aj_iadd {x y z : Int}  (h : decode cc pc = .ok (.iadd, 1)) (hz : Int.bmod (x + y) 4294967296 = z) (k : ax_J own cc nL scr R p0 Q kc ks (pc + 1) la (.inl z :: st) M) : ax_J own cc nL scr R p0 Q kc ks pc la (.inl y :: .inl x :: st) M := by
  intro p l e s m args below meth c N0 D QQ ad0 C hr ad ls rs H locs Z L S
  obtain ⟨b, ws1, e1, hy, S1⟩ := ax_st_i S
  clear S
  subst e1
  obtain ⟨a, ws, e2, hx, S⟩ := ax_st_i S1
  clear S1
  subst e2
  subst hx; subst hy
  exact lv_iadd C.1 C.2.1 h (k p l e s m args below meth c N0 D QQ ad0 C hr ad _ _ _ _ Z L ⟨⟨_, rfl, by rw [Int32.toInt_add]; exact hz⟩, S⟩)

theorem aj_isub {x y z : Int}  (h : decode cc pc = .ok (.isub, 1)) (hz : Int.bmod (x - y) 4294967296 = z) (k : ax_J own cc nL scr R p0 Q kc ks (pc + 1) la (.inl z :: st) M) : ax_J own cc nL scr R p0 Q kc ks pc la (.inl y :: .inl x :: st) M := by
  intro p l e s m args below meth c N0 D QQ ad0 C hr ad ls rs H locs Z L S
  obtain ⟨b, ws1, e1, hy, S1⟩ := ax_st_i S
  clear S
  subst e1
  obtain ⟨a, ws, e2, hx, S⟩ := ax_st_i S1
  clear S1
  subst e2
  subst hx; subst hy
  exact lv_isub C.1 C.2.1 h (k p l e s m args below meth c N0 D QQ ad0 C hr ad _ _ _ _ Z L ⟨⟨_, rfl, by rw [Int32.toInt_sub]; exact hz⟩, S⟩)

theorem aj_imul {x y z : Int}  (h : decode cc pc = .ok (.imul, 1)) (hz : Int.bmod (x * y) 4294967296 = z) (k : ax_J own cc nL scr R p0 Q kc ks (pc + 1) la (.inl z :: st) M) : ax_J own cc nL scr R p0 Q kc ks pc la (.inl y :: .inl x :: st) M := by
  intro p l e s m args below meth c N0 D QQ ad0 C hr ad ls rs H locs Z L S
  obtain ⟨b, ws1, e1, hy, S1⟩ := ax_st_i S
  clear S
  subst e1
  obtain ⟨a, ws, e2, hx, S⟩ := ax_st_i S1
  clear S1
  subst e2
  subst hx; subst hy
  exact lv_imul C.1 C.2.1 h (k p l e s m args below meth c N0 D QQ ad0 C hr ad _ _ _ _ Z L ⟨⟨_, rfl, by rw [Int32.toInt_mul]; exact hz⟩, S⟩)

theorem aj_iand {x y z : Int}  (h : decode cc pc = .ok (.iand, 1)) (hz : ax_and x y = z) (k : ax_J own cc nL scr R p0 Q kc ks (pc + 1) la (.inl z :: st) M) : ax_J own cc nL scr R p0 Q kc ks pc la (.inl y :: .inl x :: st) M := by
  intro p l e s m args below meth c N0 D QQ ad0 C hr ad ls rs H locs Z L S
  obtain ⟨b, ws1, e1, hy, S1⟩ := ax_st_i S
  clear S
  subst e1
  obtain ⟨a, ws, e2, hx, S⟩ := ax_st_i S1
  clear S1
  subst e2
  subst hx; subst hy
  exact lv_iand C.1 C.2.1 h (k p l e s m args below meth c N0 D QQ ad0 C hr ad _ _ _ _ Z L ⟨⟨_, rfl, by rw [← hz]; simp [ax_and]⟩, S⟩)

theorem aj_ior {x y z : Int}  (h : decode cc pc = .ok (.ior, 1)) (hz : ax_or x y = z) (k : ax_J own cc nL scr R p0 Q kc ks (pc + 1) la (.inl z :: st) M) : ax_J own cc nL scr R p0 Q kc ks pc la (.inl y :: .inl x :: st) M := by
  intro p l e s m args below meth c N0 D QQ ad0 C hr ad ls rs H locs Z L S
  obtain ⟨b, ws1, e1, hy, S1⟩ := ax_st_i S
  clear S
  subst e1
  obtain ⟨a, ws, e2, hx, S⟩ := ax_st_i S1
  clear S1
  subst e2
  subst hx; subst hy
  exact lv_ior C.1 C.2.1 h (k p l e s m args below meth c N0 D QQ ad0 C hr ad _ _ _ _ Z L ⟨⟨_, rfl, by rw [← hz]; simp [ax_or]⟩, S⟩)

theorem aj_ishl {x y z : Int}  (h : decode cc pc = .ok (.ishl, 1)) (hz : ax_shl x y = z) (k : ax_J own cc nL scr R p0 Q kc ks (pc + 1) la (.inl z :: st) M) : ax_J own cc nL scr R p0 Q kc ks pc la (.inl y :: .inl x :: st) M := by
  intro p l e s m args below meth c N0 D QQ ad0 C hr ad ls rs H locs Z L S
  obtain ⟨b, ws1, e1, hy, S1⟩ := ax_st_i S
  clear S
  subst e1
  obtain ⟨a, ws, e2, hx, S⟩ := ax_st_i S1
  clear S1
  subst e2
  subst hx; subst hy
  exact lv_ishl C.1 C.2.1 h (k p l e s m args below meth c N0 D QQ ad0 C hr ad _ _ _ _ Z L ⟨⟨_, rfl, by rw [← hz]; simp [ax_shl]⟩, S⟩)

theorem aj_ishr {x y z : Int}  (h : decode cc pc = .ok (.ishr, 1)) (hz : ax_shr x y = z) (k : ax_J own cc nL scr R p0 Q kc ks (pc + 1) la (.inl z :: st) M) : ax_J own cc nL scr R p0 Q kc ks pc la (.inl y :: .inl x :: st) M := by
  intro p l e s m args below meth c N0 D QQ ad0 C hr ad ls rs H locs Z L S
  obtain ⟨b, ws1, e1, hy, S1⟩ := ax_st_i S
  clear S
  subst e1
  obtain ⟨a, ws, e2, hx, S⟩ := ax_st_i S1
  clear S1
  subst e2
  subst hx; subst hy
  exact lv_ishr C.1 C.2.1 h (k p l e s m args below meth c N0 D QQ ad0 C hr ad _ _ _ _ Z L ⟨⟨_, rfl, by rw [← hz]; simp [ax_shr]⟩, S⟩)

theorem aj_iushr {x y z : Int}  (h : decode cc pc = .ok (.iushr, 1)) (hz : ax_ush x y = z) (k : ax_J own cc nL scr R p0 Q kc ks (pc + 1) la (.inl z :: st) M) : ax_J own cc nL scr R p0 Q kc ks pc la (.inl y :: .inl x :: st) M := by
  intro p l e s m args below meth c N0 D QQ ad0 C hr ad ls rs H locs Z L S
  obtain ⟨b, ws1, e1, hy, S1⟩ := ax_st_i S
  clear S
  subst e1
  obtain ⟨a, ws, e2, hx, S⟩ := ax_st_i S1
  clear S1
  subst e2
  subst hx; subst hy
  exact lv_iushr C.1 C.2.1 h rfl (k p l e s m args below meth c N0 D QQ ad0 C hr ad _ _ _ _ Z L ⟨⟨_, rfl, by rw [← hz]; simp [ax_ush]⟩, S⟩)

theorem ax_td {x y : Int} (hy : 0 < y) (hx : -2147483648 ≤ x ∧ x ≤ 2147483647) : -2147483648 ≤ Int.tdiv x y ∧ Int.tdiv x y ≤ 2147483647 := by
  have h1 := Int.natAbs_tdiv_le_natAbs x y
  rcases Int.le_total 0 x with h | h
  · have h2 := Int.tdiv_nonneg h (Int.le_of_lt hy)
    omega
  · have h2 := Int.tdiv_nonneg (show (0 : Int) ≤ -x by omega) (Int.le_of_lt hy)
    rw [Int.neg_tdiv] at h2
    omega
theorem ax_em {x y : Int} (hx : 0 ≤ x) (hy : 0 < y) : x % y ≤ x := by
  have h1 := Int.mul_ediv_add_emod x y
  have h2 := Int.mul_nonneg (Int.le_of_lt hy) (Int.ediv_nonneg hx (Int.le_of_lt hy))
  omega
theorem ax_tm {x y : Int} (hy : 0 < y) (hx : -2147483648 ≤ x ∧ x ≤ 2147483647) : -2147483648 ≤ Int.tmod x y ∧ Int.tmod x y ≤ 2147483647 := by
  rcases Int.le_total 0 x with h | h
  · have h1 := Int.tmod_nonneg y h
    have h2 : Int.tmod x y ≤ x := by
      rw [Int.tmod_eq_emod_of_nonneg h]
      exact ax_em h hy
    omega
  · have h1 : Int.tmod x y = -(Int.tmod (-x) y) := by rw [Int.neg_tmod]; omega
    have h2 := Int.tmod_nonneg y (show (0 : Int) ≤ -x by omega)
    have h3 : Int.tmod (-x) y ≤ -x := by
      rw [Int.tmod_eq_emod_of_nonneg (by omega)]
      exact ax_em (by omega) hy
    omega
theorem ax_i32 (a : Int32) : -2147483648 ≤ a.toInt ∧ a.toInt ≤ 2147483647 := by
  have h1 := Int32.le_toInt a
  have h2 := Int32.toInt_lt a
  omega

theorem aj_idiv {x y z : Int} (hy0 : 0 < y) (h : decode cc pc = .ok (.idiv, 1)) (hz : Int.tdiv x y = z) (k : ax_J own cc nL scr R p0 Q kc ks (pc + 1) la (.inl z :: st) M) : ax_J own cc nL scr R p0 Q kc ks pc la (.inl y :: .inl x :: st) M := by
  intro p l e s m args below meth c N0 D QQ ad0 C hr ad ls rs H locs Z L S
  obtain ⟨b, ws1, e1, hy, S1⟩ := ax_st_i S
  clear S
  subst e1
  obtain ⟨a, ws, e2, hx, S⟩ := ax_st_i S1
  clear S1
  subst e2
  subst hx; subst hy
  exact lv_idiv C.1 C.2.1 h (fun e => by rw [e] at hy0; exact absurd hy0 (by decide)) (k p l e s m args below meth c N0 D QQ ad0 C hr ad _ _ _ _ Z L ⟨⟨_, rfl, by rw [Int32.toInt_div, ← hz]; exact ax_bm (ax_td hy0 (ax_i32 a))⟩, S⟩)

theorem aj_irem {x y z : Int} (hy0 : 0 < y) (h : decode cc pc = .ok (.irem, 1)) (hz : Int.tmod x y = z) (k : ax_J own cc nL scr R p0 Q kc ks (pc + 1) la (.inl z :: st) M) : ax_J own cc nL scr R p0 Q kc ks pc la (.inl y :: .inl x :: st) M := by
  intro p l e s m args below meth c N0 D QQ ad0 C hr ad ls rs H locs Z L S
  obtain ⟨b, ws1, e1, hy, S1⟩ := ax_st_i S
  clear S
  subst e1
  obtain ⟨a, ws, e2, hx, S⟩ := ax_st_i S1
  clear S1
  subst e2
  subst hx; subst hy
  exact lv_irem C.1 C.2.1 h (fun e => by rw [e] at hy0; exact absurd hy0 (by decide)) (k p l e s m args below meth c N0 D QQ ad0 C hr ad _ _ _ _ Z L ⟨⟨_, rfl, by rw [Int32.toInt_sub, Int32.toInt_mul, Int32.toInt_div, ← hz]; simp only [Int.bmod_mul_bmod, Int.sub_bmod_bmod]; rw [show a.toInt - Int.tdiv a.toInt b.toInt * b.toInt = Int.tmod a.toInt b.toInt by have := Int.tmod_add_mul_tdiv a.toInt b.toInt; have e := Int.mul_comm b.toInt (Int.tdiv a.toInt b.toInt); omega]; exact ax_bm (ax_tm hy0 (ax_i32 a))⟩, S⟩)

theorem aj_ineg {x z : Int}  (h : decode cc pc = .ok (.ineg, 1)) (hz : Int.bmod (-x) 4294967296 = z) (k : ax_J own cc nL scr R p0 Q kc ks (pc + 1) la (.inl z :: st) M) : ax_J own cc nL scr R p0 Q kc ks pc la (.inl x :: st) M := by
  intro p l e s m args below meth c N0 D QQ ad0 C hr ad ls rs H locs Z L S
  obtain ⟨a, ws, e1, hx, S1⟩ := ax_st_i S
  clear S
  subst e1
  have S := S1
  subst hx
  exact lv_ineg C.1 C.2.1 h (k p l e s m args below meth c N0 D QQ ad0 C hr ad _ _ _ _ Z L ⟨⟨_, rfl, by rw [Int32.toInt_neg]; exact hz⟩, S⟩)

theorem aj_i2b {x z : Int}  (h : decode cc pc = .ok (.i2b, 1)) (hz : ax_i2b x = z) (k : ax_J own cc nL scr R p0 Q kc ks (pc + 1) la (.inl z :: st) M) : ax_J own cc nL scr R p0 Q kc ks pc la (.inl x :: st) M := by
  intro p l e s m args below meth c N0 D QQ ad0 C hr ad ls rs H locs Z L S
  obtain ⟨a, ws, e1, hx, S1⟩ := ax_st_i S
  clear S
  subst e1
  have S := S1
  subst hx
  exact lv_i2b C.1 C.2.1 h rfl (k p l e s m args below meth c N0 D QQ ad0 C hr ad _ _ _ _ Z L ⟨⟨_, rfl, by rw [← hz]; simp [ax_i2b]⟩, S⟩)

theorem aj_i2s {x z : Int}  (h : decode cc pc = .ok (.i2s, 1)) (hz : ax_i2s x = z) (k : ax_J own cc nL scr R p0 Q kc ks (pc + 1) la (.inl z :: st) M) : ax_J own cc nL scr R p0 Q kc ks pc la (.inl x :: st) M := by
  intro p l e s m args below meth c N0 D QQ ad0 C hr ad ls rs H locs Z L S
  obtain ⟨a, ws, e1, hx, S1⟩ := ax_st_i S
  clear S
  subst e1
  have S := S1
  subst hx
  exact lv_i2s C.1 C.2.1 h rfl (k p l e s m args below meth c N0 D QQ ad0 C hr ad _ _ _ _ Z L ⟨⟨_, rfl, by rw [← hz]; simp [ax_i2s]⟩, S⟩)

theorem aj_i2l {x z : Int}  (h : decode cc pc = .ok (.i2l, 1)) (hz : x = z) (k : ax_J own cc nL scr R p0 Q kc ks (pc + 1) la (.inr (.inl z) :: st) M) : ax_J own cc nL scr R p0 Q kc ks pc la (.inl x :: st) M := by
  intro p l e s m args below meth c N0 D QQ ad0 C hr ad ls rs H locs Z L S
  obtain ⟨a, ws, e1, hx, S1⟩ := ax_st_i S
  clear S
  subst e1
  have S := S1
  subst hx
  exact lv_i2l C.1 C.2.1 h rfl (k p l e s m args below meth c N0 D QQ ad0 C hr ad _ _ _ _ Z L ⟨⟨_, rfl, by rw [← hz]; simp⟩, S⟩)

theorem aj_l2i {x z : Int}  (h : decode cc pc = .ok (.l2i, 1)) (hz : Int.bmod x 4294967296 = z) (k : ax_J own cc nL scr R p0 Q kc ks (pc + 1) la (.inl z :: st) M) : ax_J own cc nL scr R p0 Q kc ks pc la (.inr (.inl x) :: st) M := by
  intro p l e s m args below meth c N0 D QQ ad0 C hr ad ls rs H locs Z L S
  obtain ⟨a, ws, e1, hx, S1⟩ := ax_st_l S
  clear S
  subst e1
  have S := S1
  subst hx
  exact lv_l2i C.1 C.2.1 h rfl (k p l e s m args below meth c N0 D QQ ad0 C hr ad _ _ _ _ Z L ⟨⟨_, rfl, by rw [← hz]; simp⟩, S⟩)

theorem aj_ladd {x y z : Int} (h : decode cc pc = .ok (.ladd, 1)) (hz : Int.bmod (x + y) 18446744073709551616 = z) (k : ax_J own cc nL scr R p0 Q kc ks (pc + 1) la (.inr (.inl z) :: st) M) : ax_J own cc nL scr R p0 Q kc ks pc la (.inr (.inl y) :: .inr (.inl x) :: st) M := by
  intro p l e s m args below meth c N0 D QQ ad0 C hr ad ls rs H locs Z L S
  obtain ⟨b, ws1, e1, hy, S1⟩ := ax_st_l S
  clear S
  subst e1
  obtain ⟨a, ws, e2, hx, S⟩ := ax_st_l S1
  clear S1
  subst e2
  subst hx; subst hy
  exact lv_ladd C.1 C.2.1 h (k p l e s m args below meth c N0 D QQ ad0 C hr ad _ _ _ _ Z L ⟨⟨_, rfl, by rw [Int64.toInt_add]; exact hz⟩, S⟩)

theorem aj_lmul {x y z : Int} (h : decode cc pc = .ok (.lmul, 1)) (hz : Int.bmod (x * y) 18446744073709551616 = z) (k : ax_J own cc nL scr R p0 Q kc ks (pc + 1) la (.inr (.inl z) :: st) M) : ax_J own cc nL scr R p0 Q kc ks pc la (.inr (.inl y) :: .inr (.inl x) :: st) M := by
  intro p l e s m args below meth c N0 D QQ ad0 C hr ad ls rs H locs Z L S
  obtain ⟨b, ws1, e1, hy, S1⟩ := ax_st_l S
  clear S
  subst e1
  obtain ⟨a, ws, e2, hx, S⟩ := ax_st_l S1
  clear S1
  subst e2
  subst hx; subst hy
  exact lv_lmul C.1 C.2.1 h (k p l e s m args below meth c N0 D QQ ad0 C hr ad _ _ _ _ Z L ⟨⟨_, rfl, by rw [Int64.toInt_mul]; exact hz⟩, S⟩)

theorem aj_lcmp {x y z : Int} (h : decode cc pc = .ok (.lcmp, 1)) (hz : ax_cmp x y = z) (k : ax_J own cc nL scr R p0 Q kc ks (pc + 1) la (.inl z :: st) M) : ax_J own cc nL scr R p0 Q kc ks pc la (.inr (.inl y) :: .inr (.inl x) :: st) M := by
  intro p l e s m args below meth c N0 D QQ ad0 C hr ad ls rs H locs Z L S
  obtain ⟨b, ws1, e1, hy, S1⟩ := ax_st_l S
  clear S
  subst e1
  obtain ⟨a, ws, e2, hx, S⟩ := ax_st_l S1
  clear S1
  subst e2
  subst hx; subst hy
  exact W.lcmp C.1 C.2.1 h (k p l e s m args below meth c N0 D QQ ad0 C hr ad _ _ _ _ Z L ⟨⟨_, rfl, by rw [← hz]; unfold lg_cmp ax_cmp; simp only [gt_iff_lt, Int64.lt_iff_toInt_lt, ← Int64.toInt_inj]; split <;> (try split) <;> rfl⟩, S⟩)

theorem aj_dup {v : ax_V} (h : decode cc pc = .ok (.dup, 1)) (hv : ax_nlg v = true) (k : ax_J own cc nL scr R p0 Q kc ks (pc + 1) la (v :: v :: st) M) : ax_J own cc nL scr R p0 Q kc ks pc la (v :: st) M := by
  intro p l e s m args below meth c N0 D QQ ad0 C hr ad ls rs H locs Z L S
  obtain ⟨w, ws, e1, h1, S1⟩ := ax_st_c S
  clear S
  subst e1
  have S := S1
  exact lv_dup C.1 C.2.1 h (ax_cat1 h1 hv) (k p l e s m args below meth c N0 D QQ ad0 C hr ad _ _ _ _ Z L ⟨h1, h1, S⟩)

theorem aj_pop {v : ax_V} (h : decode cc pc = .ok (.pop, 1)) (hv : ax_nlg v = true) (k : ax_J own cc nL scr R p0 Q kc ks (pc + 1) la st M) : ax_J own cc nL scr R p0 Q kc ks pc la (v :: st) M := by
  intro p l e s m args below meth c N0 D QQ ad0 C hr ad ls rs H locs Z L S
  obtain ⟨w, ws, e1, h1, S1⟩ := ax_st_c S
  clear S
  subst e1
  have S := S1
  exact lv_pop C.1 C.2.1 h (ax_cat1 h1 hv) (k p l e s m args below meth c N0 D QQ ad0 C hr ad _ _ _ _ Z L S)

theorem aj_dup2 {v u : ax_V} (h : decode cc pc = .ok (.dup2, 1)) (hv : ax_nlg v = true) (hu : ax_nlg u = true) (k : ax_J own cc nL scr R p0 Q kc ks (pc + 1) la (v :: u :: v :: u :: st) M) : ax_J own cc nL scr R p0 Q kc ks pc la (v :: u :: st) M := by
  intro p l e s m args below meth c N0 D QQ ad0 C hr ad ls rs H locs Z L S
  obtain ⟨w, ws1, e1, h1, S1⟩ := ax_st_c S
  clear S
  subst e1
  obtain ⟨w2, ws, e2, h2, S⟩ := ax_st_c S1
  clear S1
  subst e2
  exact lv_dup2_11 C.1 C.2.1 h (ax_cat1 h1 hv) (ax_cat1 h2 hu) (k p l e s m args below meth c N0 D QQ ad0 C hr ad _ _ _ _ Z L ⟨h1, h2, h1, h2, S⟩)

theorem aj_goto {off : Int} {tgt : Nat} (h : decode cc pc = .ok (.goto off, 3)) (ht : (pc : Int) + off = (tgt : Int)) (k : ax_J own cc nL scr R p0 Q kc ks tgt la st M) : ax_J own cc nL scr R p0 Q kc ks pc la st M := by
  intro p l e s m args below meth c N0 D QQ ad0 C hr ad ls rs H locs Z L S
  exact lv_goto C.1 C.2.1 h ht (k p l e s m args below meth c N0 D QQ ad0 C hr ad _ _ _ _ Z L S)

theorem aj_icmp_eq {x y off : Int} {tgt : Nat} (h : decode cc pc = .ok (.if_icmp .eq off, 3)) (ht : (pc : Int) + off = (tgt : Int)) (kt : x = y → ax_J own cc nL scr R p0 Q kc ks tgt la st M) (kf : ¬ x = y → ax_J own cc nL scr R p0 Q kc ks (pc + 3) la st M) : ax_J own cc nL scr R p0 Q kc ks pc la (.inl y :: .inl x :: st) M := by
  intro p l e s m args below meth c N0 D QQ ad0 C hr ad ls rs H locs Z L S
  obtain ⟨b, ws1, e1, hy, S1⟩ := ax_st_i S
  clear S
  subst e1
  obtain ⟨a, ws, e2, hx, S⟩ := ax_st_i S1
  clear S1
  subst e2
  subst hx; subst hy
  exact lv_icmp_eq C.1 C.2.1 h ht (fun q => kt (by simpa [Int32.lt_iff_toInt_lt, Int32.le_iff_toInt_le, ← Int32.toInt_inj] using q) p l e s m args below meth c N0 D QQ ad0 C hr ad _ _ _ _ Z L S) (fun q => kf (by simpa [Int32.lt_iff_toInt_lt, Int32.le_iff_toInt_le, ← Int32.toInt_inj] using q) p l e s m args below meth c N0 D QQ ad0 C hr ad _ _ _ _ Z L S)

theorem aj_if_eq {x off : Int} {tgt : Nat} (h : decode cc pc = .ok (.ifCond .eq off, 3)) (ht : (pc : Int) + off = (tgt : Int)) (kt : x = 0 → ax_J own cc nL scr R p0 Q kc ks tgt la st M) (kf : ¬ x = 0 → ax_J own cc nL scr R p0 Q kc ks (pc + 3) la st M) : ax_J own cc nL scr R p0 Q kc ks pc la (.inl x :: st) M := by
  intro p l e s m args below meth c N0 D QQ ad0 C hr ad ls rs H locs Z L S
  obtain ⟨a, ws, e1, hx, S1⟩ := ax_st_i S
  clear S
  subst e1
  have S := S1
  subst hx
  exact lv_if_eq C.1 C.2.1 h ht (fun q => kt (by simpa [Int32.lt_iff_toInt_lt, Int32.le_iff_toInt_le, ← Int32.toInt_inj] using q) p l e s m args below meth c N0 D QQ ad0 C hr ad _ _ _ _ Z L S) (fun q => kf (by simpa [Int32.lt_iff_toInt_lt, Int32.le_iff_toInt_le, ← Int32.toInt_inj] using q) p l e s m args below meth c N0 D QQ ad0 C hr ad _ _ _ _ Z L S)

theorem aj_icmp_ne {x y off : Int} {tgt : Nat} (h : decode cc pc = .ok (.if_icmp .ne off, 3)) (ht : (pc : Int) + off = (tgt : Int)) (kt : ¬ x = y → ax_J own cc nL scr R p0 Q kc ks tgt la st M) (kf : x = y → ax_J own cc nL scr R p0 Q kc ks (pc + 3) la st M) : ax_J own cc nL scr R p0 Q kc ks pc la (.inl y :: .inl x :: st) M := by
  intro p l e s m args below meth c N0 D QQ ad0 C hr ad ls rs H locs Z L S
  obtain ⟨b, ws1, e1, hy, S1⟩ := ax_st_i S
  clear S
  subst e1
  obtain ⟨a, ws, e2, hx, S⟩ := ax_st_i S1
  clear S1
  subst e2
  subst hx; subst hy
  exact lv_icmp_ne C.1 C.2.1 h ht (fun q => kt (by simpa [Int32.lt_iff_toInt_lt, Int32.le_iff_toInt_le, ← Int32.toInt_inj] using q) p l e s m args below meth c N0 D QQ ad0 C hr ad _ _ _ _ Z L S) (fun q => kf (by simpa [Int32.lt_iff_toInt_lt, Int32.le_iff_toInt_le, ← Int32.toInt_inj] using q) p l e s m args below meth c N0 D QQ ad0 C hr ad _ _ _ _ Z L S)

theorem aj_if_ne {x off : Int} {tgt : Nat} (h : decode cc pc = .ok (.ifCond .ne off, 3)) (ht : (pc : Int) + off = (tgt : Int)) (kt : ¬ x = 0 → ax_J own cc nL scr R p0 Q kc ks tgt la st M) (kf : x = 0 → ax_J own cc nL scr R p0 Q kc ks (pc + 3) la st M) : ax_J own cc nL scr R p0 Q kc ks pc la (.inl x :: st) M := by
  intro p l e s m args below meth c N0 D QQ ad0 C hr ad ls rs H locs Z L S
  obtain ⟨a, ws, e1, hx, S1⟩ := ax_st_i S
  clear S
  subst e1
  have S := S1
  subst hx
  exact lv_if_ne C.1 C.2.1 h ht (fun q => kt (by simpa [Int32.lt_iff_toInt_lt, Int32.le_iff_toInt_le, ← Int32.toInt_inj] using q) p l e s m args below meth c N0 D QQ ad0 C hr ad _ _ _ _ Z L S) (fun q => kf (by simpa [Int32.lt_iff_toInt_lt, Int32.le_iff_toInt_le, ← Int32.toInt_inj] using q) p l e s m args below meth c N0 D QQ ad0 C hr ad _ _ _ _ Z L S)

theorem aj_icmp_lt {x y off : Int} {tgt : Nat} (h : decode cc pc = .ok (.if_icmp .lt off, 3)) (ht : (pc : Int) + off = (tgt : Int)) (kt : x < y → ax_J own cc nL scr R p0 Q kc ks tgt la st M) (kf : ¬ x < y → ax_J own cc nL scr R p0 Q kc ks (pc + 3) la st M) : ax_J own cc nL scr R p0 Q kc ks pc la (.inl y :: .inl x :: st) M := by
  intro p l e s m args below meth c N0 D QQ ad0 C hr ad ls rs H locs Z L S
  obtain ⟨b, ws1, e1, hy, S1⟩ := ax_st_i S
  clear S
  subst e1
  obtain ⟨a, ws, e2, hx, S⟩ := ax_st_i S1
  clear S1
  subst e2
  subst hx; subst hy
  exact lv_icmp_lt C.1 C.2.1 h ht (fun q => kt (by simpa [Int32.lt_iff_toInt_lt, Int32.le_iff_toInt_le, ← Int32.toInt_inj] using q) p l e s m args below meth c N0 D QQ ad0 C hr ad _ _ _ _ Z L S) (fun q => kf (by simpa [Int32.lt_iff_toInt_lt, Int32.le_iff_toInt_le, ← Int32.toInt_inj] using q) p l e s m args below meth c N0 D QQ ad0 C hr ad _ _ _ _ Z L S)

theorem aj_if_lt {x off : Int} {tgt : Nat} (h : decode cc pc = .ok (.ifCond .lt off, 3)) (ht : (pc : Int) + off = (tgt : Int)) (kt : x < 0 → ax_J own cc nL scr R p0 Q kc ks tgt la st M) (kf : ¬ x < 0 → ax_J own cc nL scr R p0 Q kc ks (pc + 3) la st M) : ax_J own cc nL scr R p0 Q kc ks pc la (.inl x :: st) M := by
  intro p l e s m args below meth c N0 D QQ ad0 C hr ad ls rs H locs Z L S
  obtain ⟨a, ws, e1, hx, S1⟩ := ax_st_i S
  clear S
  subst e1
  have S := S1
  subst hx
  exact lv_if_lt C.1 C.2.1 h ht (fun q => kt (by simpa [Int32.lt_iff_toInt_lt, Int32.le_iff_toInt_le, ← Int32.toInt_inj] using q) p l e s m args below meth c N0 D QQ ad0 C hr ad _ _ _ _ Z L S) (fun q => kf (by simpa [Int32.lt_iff_toInt_lt, Int32.le_iff_toInt_le, ← Int32.toInt_inj] using q) p l e s m args below meth c N0 D QQ ad0 C hr ad _ _ _ _ Z L S)

theorem aj_icmp_ge {x y off : Int} {tgt : Nat} (h : decode cc pc = .ok (.if_icmp .ge off, 3)) (ht : (pc : Int) + off = (tgt : Int)) (kt : y ≤ x → ax_J own cc nL scr R p0 Q kc ks tgt la st M) (kf : ¬ y ≤ x → ax_J own cc nL scr R p0 Q kc ks (pc + 3) la st M) : ax_J own cc nL scr R p0 Q kc ks pc la (.inl y :: .inl x :: st) M := by
  intro p l e s m args below meth c N0 D QQ ad0 C hr ad ls rs H locs Z L S
  obtain ⟨b, ws1, e1, hy, S1⟩ := ax_st_i S
  clear S
  subst e1
  obtain ⟨a, ws, e2, hx, S⟩ := ax_st_i S1
  clear S1
  subst e2
  subst hx; subst hy
  exact lv_icmp_ge C.1 C.2.1 h ht (fun q => kt (by simpa [Int32.lt_iff_toInt_lt, Int32.le_iff_toInt_le, ← Int32.toInt_inj] using q) p l e s m args below meth c N0 D QQ ad0 C hr ad _ _ _ _ Z L S) (fun q => kf (by simpa [Int32.lt_iff_toInt_lt, Int32.le_iff_toInt_le, ← Int32.toInt_inj] using q) p l e s m args below meth c N0 D QQ ad0 C hr ad _ _ _ _ Z L S)

theorem aj_if_ge {x off : Int} {tgt : Nat} (h : decode cc pc = .ok (.ifCond .ge off, 3)) (ht : (pc : Int) + off = (tgt : Int)) (kt : 0 ≤ x → ax_J own cc nL scr R p0 Q kc ks tgt la st M) (kf : ¬ 0 ≤ x → ax_J own cc nL scr R p0 Q kc ks (pc + 3) la st M) : ax_J own cc nL scr R p0 Q kc ks pc la (.inl x :: st) M := by
  intro p l e s m args below meth c N0 D QQ ad0 C hr ad ls rs H locs Z L S
  obtain ⟨a, ws, e1, hx, S1⟩ := ax_st_i S
  clear S
  subst e1
  have S := S1
  subst hx
  exact lv_if_ge C.1 C.2.1 h ht (fun q => kt (by simpa [Int32.lt_iff_toInt_lt, Int32.le_iff_toInt_le, ← Int32.toInt_inj] using q) p l e s m args below meth c N0 D QQ ad0 C hr ad _ _ _ _ Z L S) (fun q => kf (by simpa [Int32.lt_iff_toInt_lt, Int32.le_iff_toInt_le, ← Int32.toInt_inj] using q) p l e s m args below meth c N0 D QQ ad0 C hr ad _ _ _ _ Z L S)

theorem aj_icmp_gt {x y off : Int} {tgt : Nat} (h : decode cc pc = .ok (.if_icmp .gt off, 3)) (ht : (pc : Int) + off = (tgt : Int)) (kt : y < x → ax_J own cc nL scr R p0 Q kc ks tgt la st M) (kf : ¬ y < x → ax_J own cc nL scr R p0 Q kc ks (pc + 3) la st M) : ax_J own cc nL scr R p0 Q kc ks pc la (.inl y :: .inl x :: st) M := by
  intro p l e s m args below meth c N0 D QQ ad0 C hr ad ls rs H locs Z L S
  obtain ⟨b, ws1, e1, hy, S1⟩ := ax_st_i S
  clear S
  subst e1
  obtain ⟨a, ws, e2, hx, S⟩ := ax_st_i S1
  clear S1
  subst e2
  subst hx; subst hy
  exact lv_icmp_gt C.1 C.2.1 h ht (fun q => kt (by simpa [Int32.lt_iff_toInt_lt, Int32.le_iff_toInt_le, ← Int32.toInt_inj] using q) p l e s m args below meth c N0 D QQ ad0 C hr ad _ _ _ _ Z L S) (fun q => kf (by simpa [Int32.lt_iff_toInt_lt, Int32.le_iff_toInt_le, ← Int32.toInt_inj] using q) p l e s m args below meth c N0 D QQ ad0 C hr ad _ _ _ _ Z L S)

theorem aj_if_gt {x off : Int} {tgt : Nat} (h : decode cc pc = .ok (.ifCond .gt off, 3)) (ht : (pc : Int) + off = (tgt : Int)) (kt : 0 < x → ax_J own cc nL scr R p0 Q kc ks tgt la st M) (kf : ¬ 0 < x → ax_J own cc nL scr R p0 Q kc ks (pc + 3) la st M) : ax_J own cc nL scr R p0 Q kc ks pc la (.inl x :: st) M := by
  intro p l e s m args below meth c N0 D QQ ad0 C hr ad ls rs H locs Z L S
  obtain ⟨a, ws, e1, hx, S1⟩ := ax_st_i S
  clear S
  subst e1
  have S := S1
  subst hx
  exact lv_if_gt C.1 C.2.1 h ht (fun q => kt (by simpa [Int32.lt_iff_toInt_lt, Int32.le_iff_toInt_le, ← Int32.toInt_inj] using q) p l e s m args below meth c N0 D QQ ad0 C hr ad _ _ _ _ Z L S) (fun q => kf (by simpa [Int32.lt_iff_toInt_lt, Int32.le_iff_toInt_le, ← Int32.toInt_inj] using q) p l e s m args below meth c N0 D QQ ad0 C hr ad _ _ _ _ Z L S)

theorem aj_icmp_le {x y off : Int} {tgt : Nat} (h : decode cc pc = .ok (.if_icmp .le off, 3)) (ht : (pc : Int) + off = (tgt : Int)) (kt : x ≤ y → ax_J own cc nL scr R p0 Q kc ks tgt la st M) (kf : ¬ x ≤ y → ax_J own cc nL scr R p0 Q kc ks (pc + 3) la st M) : ax_J own cc nL scr R p0 Q kc ks pc la (.inl y :: .inl x :: st) M := by
  intro p l e s m args below meth c N0 D QQ ad0 C hr ad ls rs H locs Z L S
  obtain ⟨b, ws1, e1, hy, S1⟩ := ax_st_i S
  clear S
  subst e1
  obtain ⟨a, ws, e2, hx, S⟩ := ax_st_i S1
  clear S1
  subst e2
  subst hx; subst hy
  exact lv_icmp_le C.1 C.2.1 h ht (fun q => kt (by simpa [Int32.lt_iff_toInt_lt, Int32.le_iff_toInt_le, ← Int32.toInt_inj] using q) p l e s m args below meth c N0 D QQ ad0 C hr ad _ _ _ _ Z L S) (fun q => kf (by simpa [Int32.lt_iff_toInt_lt, Int32.le_iff_toInt_le, ← Int32.toInt_inj] using q) p l e s m args below meth c N0 D QQ ad0 C hr ad _ _ _ _ Z L S)

theorem aj_if_le {x off : Int} {tgt : Nat} (h : decode cc pc = .ok (.ifCond .le off, 3)) (ht : (pc : Int) + off = (tgt : Int)) (kt : x ≤ 0 → ax_J own cc nL scr R p0 Q kc ks tgt la st M) (kf : ¬ x ≤ 0 → ax_J own cc nL scr R p0 Q kc ks (pc + 3) la st M) : ax_J own cc nL scr R p0 Q kc ks pc la (.inl x :: st) M := by
  intro p l e s m args below meth c N0 D QQ ad0 C hr ad ls rs H locs Z L S
  obtain ⟨a, ws, e1, hx, S1⟩ := ax_st_i S
  clear S
  subst e1
  have S := S1
  subst hx
  exact lv_if_le C.1 C.2.1 h ht (fun q => kt (by simpa [Int32.lt_iff_toInt_lt, Int32.le_iff_toInt_le, ← Int32.toInt_inj] using q) p l e s m args below meth c N0 D QQ ad0 C hr ad _ _ _ _ Z L S) (fun q => kf (by simpa [Int32.lt_iff_toInt_lt, Int32.le_iff_toInt_le, ← Int32.toInt_inj] using q) p l e s m args below meth c N0 D QQ ad0 C hr ad _ _ _ _ Z L S)

theorem aj_ifnn {f : Nat} {u off : Int} {tgt : Nat} (h : decode cc pc = .ok (.ifnonnull off, 3)) (ht : (pc : Int) + off = (tgt : Int)) (k : ax_J own cc nL scr R p0 Q kc ks tgt la st M) : ax_J own cc nL scr R p0 Q kc ks pc la (.inr (.inr (some (f, u))) :: st) M := by
  intro p l e s m args below meth c N0 D QQ ad0 C hr ad ls rs H locs Z L S
  obtain ⟨ws, e1, -, S1⟩ := ax_st_r S
  clear S
  subst e1
  have S := S1
  exact lv_ifnonnull C.1 C.2.1 h ht (k p l e s m args below meth c N0 D QQ ad0 C hr ad _ _ _ _ Z L S)

theorem aj_ifnnN {off : Int} (h : decode cc pc = .ok (.ifnonnull off, 3)) (k : ax_J own cc nL scr R p0 Q kc ks (pc + 3) la st M) : ax_J own cc nL scr R p0 Q kc ks pc la (.inr (.inr none) :: st) M := by
  intro p l e s m args below meth c N0 D QQ ad0 C hr ad ls rs H locs Z L S
  obtain ⟨w, ws, e1, h1, S1⟩ := ax_st_c S
  clear S
  subst e1
  have S := S1
  rw [show w = .null from h1]
  exact lv_ifnonnullN C.1 C.2.1 h (k p l e s m args below meth c N0 D QQ ad0 C hr ad _ _ _ _ Z L S)

/-- a tableswitch: the place that x picks -/
def ax_tsw (dflt lo hi : Int) (offs : Array Int) (x : Int) : Int := if x < lo then dflt else if hi < x then dflt else offs.getD (x - lo).toNat dflt
theorem aj_tsw {dflt lo hi : Int} {offs : Array Int} {len tgt : Nat} {x : Int} (h : decode cc pc = .ok (.tableswitch dflt lo hi offs, len)) (hs : (offs.size : Int) = hi - lo + 1) (ht : (pc : Int) + ax_tsw dflt lo hi offs x = (tgt : Int)) (k : ax_J own cc nL scr R p0 Q kc ks tgt la st M) : ax_J own cc nL scr R p0 Q kc ks pc la (.inl x :: st) M := by
  intro p l e s m args below meth c N0 D QQ ad0 C hr ad ls rs H locs Z L S
  obtain ⟨a, ws, e1, hx, S1⟩ := ax_st_i S
  clear S
  subst e1
  have S := S1
  subst hx
  unfold ax_tsw at ht
  by_cases h1 : a.toInt < lo
  · rw [if_pos h1] at ht
    exact lv_tableOut C.1 C.2.1 h (Or.inl h1) ht (k p l e s m args below meth c N0 D QQ ad0 C hr ad _ _ _ _ Z L S)
  · rw [if_neg h1] at ht
    by_cases h2 : hi < a.toInt
    · rw [if_pos h2] at ht
      exact lv_tableOut C.1 C.2.1 h (Or.inr h2) ht (k p l e s m args below meth c N0 D QQ ad0 C hr ad _ _ _ _ Z L S)
    · rw [if_neg h2] at ht
      have h3 : (a.toInt - lo).toNat < offs.size := by omega
      refine lv_tableIn C.1 C.2.1 h h1 h2 (off := offs[(a.toInt - lo).toNat]) (by simp [h3]) (by rw [← ht]; simp [Array.getD, h3]) (k p l e s m args below meth c N0 D QQ ad0 C hr ad _ _ _ _ Z L S)
theorem aj_lsw {dflt : Int} {ps : Array (Int × Int)} {len tgt : Nat} {x : Int} (h : decode cc pc = .ok (.lookupswitch dflt ps, len)) (hs : (ps.toList.zip (ps.toList.drop 1)).all (fun (a, next) => a.1 < next.1) = true) (ht : (pc : Int) + Op.lookupswitch.offset ps.toList dflt x = (tgt : Int)) (k : ax_J own cc nL scr R p0 Q kc ks tgt la st M) : ax_J own cc nL scr R p0 Q kc ks pc la (.inl x :: st) M := by
  intro p l e s m args below meth c N0 D QQ ad0 C hr ad ls rs H locs Z L S
  obtain ⟨a, ws, e1, hx, S1⟩ := ax_st_i S
  clear S
  subst e1
  have S := S1
  subst hx
  exact lv_lookup C.1 C.2.1 h hs rfl ht (k p l e s m args below meth c N0 D QQ ad0 C hr ad _ _ _ _ Z L S)
/-- the end of a method -/
theorem aj_ret {r : Option ax_V} (h : decode cc pc = .ok (ax_ri r, 1)) (hq : Q r M kc ks) (hs : st = r.toList) : ax_J own cc nL scr R p0 Q kc ks pc la st M := by
  intro p l e s m args below meth c N0 D QQ ad0 C hr ad ls rs H locs Z L S
  refine hr r M kc ks pc ad ls rs H locs hq h ?_ Z
  subst hs
  cases r with
  | none =>
    cases rs with
    | nil => rfl
    | cons a b => exact S.elim
  | some v =>
    obtain ⟨w, ws, rfl, h1, h2⟩ := ax_st_c S
    cases ws with
    | nil => exact ⟨w, rfl, h1⟩
    | cons a b => exact h2.elim
end AJ
