/-! ===== rows of the instructions that read and write the world ===== -/
def ax_u3 {α : Type} (g : Nat → Int → Int → α) (f : Nat) (o j : Int) (x : α) : Nat → Int → Int → α := fun f' o' j' => if f' = f ∧ o' = o ∧ j' = j then x else g f' o' j'
def ax_uI (M : ax_Mm) (f : Nat) (o j x : Int) : ax_Mm := (M.1, ax_u3 M.2.1 f o j x, M.2.2.1, M.2.2.2)
def ax_uR (M : ax_Mm) (f : Nat) (o j : Int) (x : Option (Nat × Int)) : ax_Mm := (M.1, M.2.1, ax_u3 M.2.2.1 f o j x, M.2.2.2)
theorem ax_u3_s {α : Type} {g : Nat → Int → Int → α} {f : Nat} {o j : Int} {x : α} : ax_u3 g f o j x f o j = x := by simp [ax_u3]
theorem ax_u3_n {α : Type} {g : Nat → Int → Int → α} {f f' : Nat} {o j o' j' : Int} {x : α} (h : ¬ (f' = f ∧ o' = o ∧ j' = j)) : ax_u3 g f o j x f' o' j' = g f' o' j' := by simp [ax_u3, h]
theorem ax_E_congr {M M' : ax_Mm} {ad : Nat → Int → Nat} {tys : List (ClassId × FieldType)} {f : Nat} {o : Int} {en : va_E} (h1 : M'.1 = M.1) (h2 : ∀ j, M'.2.1 f o j = M.2.1 f o j) (h3 : ∀ j, M'.2.2.1 f o j = M.2.2.1 f o j) (h4 : M'.2.2.2 f o = M.2.2.2 f o) (h : ax_E M ad tys f o en) : ax_E M' ad tys f o en := by
  unfold ax_E at h ⊢
  simp only [ax_fd, ax_ref, h1, h2, h3, h4] at h ⊢
  exact h
theorem ax_ad_q {A : Nat → Prop} {ws : va_W} (hD : va_D A ws) {q q' : Nat} {a a' : Nat} {en en' : va_E} (h : ws[q]? = some (a, en)) (h' : ws[q']? = some (a', en')) (hne : a ≠ a') : q ≠ q' := by
  intro e
  subst e
  rw [h] at h'
  cases h'
  exact hne rfl
theorem ax_R_set {D : va_G} {N0 : Nat} {s : State} {ad : Nat → Int → Nat} {M M' : ax_Mm} {H1 : Heap} {ws : va_W} {tys : List (ClassId × FieldType)} {q0 f : Nat} {o : Int} {en en' : va_E} (hK : va_K D vwCl tys s)
    (hP : va_P D vwCl (ws.set q0 (ad f o, en')) H1) (hD0 : va_D (fun q => N0 ≤ q) ws) (hD : va_D (fun q => N0 ≤ q) (ws.set q0 (ad f o, en')))
    (hc : ∀ (f : Nat) (o : Int), M.1 f o → ax_hp f = true → ∃ (q0 : Nat) (en : va_E), ws[q0]? = some (ad f o, en) ∧ ax_E M ad tys f o en)
    (hi : ∀ (f f' : Nat) (o o' : Int), M.1 f o → M.1 f' o' → ax_hp f = true → ax_hp f' = true → ad f o = ad f' o' → f = f' ∧ o = o')
    (hcl : ∀ (f : Nat) (o : Int), M'.1 f o → f < 1000 → ax_ob f = true → ∀ k : Nat, ax_isA f k = true → k < ax_N f → M'.2.2.1 f o k = some (ax_sb f + k, o) ∧ M'.1 (ax_sb f + k) o)
    (hq : ws[q0]? = some (ad f o, en)) (hp : M.1 f o) (hpf : ax_hp f = true) (e1 : M'.1 = M.1) (e2 : ∀ f' o' j, ¬ (f' = f ∧ o' = o) → M'.2.1 f' o' j = M.2.1 f' o' j) (e3 : ∀ f' o' j, ¬ (f' = f ∧ o' = o) → M'.2.2.1 f' o' j = M.2.2.1 f' o' j) (e4 : ∀ f' o', M'.2.2.2 f' o' = M.2.2.2 f' o')
    (hE : ax_E M' ad tys f o en') : ax_R D N0 s ad M' H1 := by
  refine ⟨ws.set q0 (ad f o, en'), tys, hK, hP, hD, ?_, ?_, hcl⟩
  · intro f' o' h' hp'
    rw [e1] at h'
    by_cases e : f' = f ∧ o' = o
    · obtain ⟨rfl, rfl⟩ := e
      refine ⟨q0, en', ?_, hE⟩
      rw [List.getElem?_set_self (List.getElem?_eq_some_iff.mp hq).1]
    · obtain ⟨q1, en1, h1, h2⟩ := hc f' o' h' hp'
      have hne : q0 ≠ q1 := ax_ad_q hD0 hq h1 (fun z => e (by have := hi f f' o o' hp h' hpf hp' z; exact ⟨this.1.symm, this.2.symm⟩))
      refine ⟨q1, en1, ?_, ax_E_congr e1 (fun j => e2 f' o' j e) (fun j => e3 f' o' j e) (e4 f' o') h2⟩
      rw [List.getElem?_set_ne hne]
      exact h1
  · intro a b c d ha hb
    rw [e1] at ha hb
    exact hi a b c d ha hb
/-- an object's cell -/
theorem ax_obj {M : ax_Mm} {ad : Nat → Int → Nat} {tys : List (ClassId × FieldType)} {f : Nat} {o : Int} {en : va_E} (ho : ax_ob f = true) (h : ax_E M ad tys f o en) : ∃ (ci : Nat) (fs : List Value), en = .inr (ci, fs) ∧ ax_ok f ci = true ∧ (ci : Int) = M.2.2.2 f o ∧ fs.length = ax_N f ∧ ∀ (k : Nat) (v : Value), fs[k]? = some v → ax_fd M ad f o k v := by
  rcases en with ⟨cA, n, g | g | g | g | g⟩ | ⟨ci, fs⟩
  · exact absurd (h.1.symm.trans ho) (by decide)
  · exact h.elim
  · exact h.elim
  · exact h.elim
  · exact absurd (h.1.symm.trans ho) (by decide)
  · exact ⟨ci, fs, rfl, h.2.1, h.2.2.1, h.2.2.2.1, h.2.2.2.2⟩
/-- an array of numbers' cell -/
theorem ax_arr {M : ax_Mm} {ad : Nat → Int → Nat} {tys : List (ClassId × FieldType)} {f : Nat} {o : Int} {en : va_E} (ho : ax_ob f = false) (hr : refKind (ax_et f) = false) (h : ax_E M ad tys f o en) : ∃ (cA : ClassId) (n : Nat) (g : Nat → Int32), en = .inl (cA, n, .inl g) ∧ (∃ t0 : Nat, tys[t0]? = some (cA, ax_et f)) ∧ (n : Int) = M.2.2.2 f o ∧ n < 2 ^ 31 ∧ ∀ j : Nat, j < n → (g j).toInt = M.2.1 f o j := by
  rcases en with ⟨cA, n, g | g | g | g | g⟩ | ⟨ci, fs⟩
  · exact ⟨cA, n, g, rfl, h.2.1, h.2.2.2.1, h.2.2.2.2.1, h.2.2.2.2.2⟩
  · exact h.elim
  · exact h.elim
  · exact h.elim
  · obtain ⟨-, ⟨t0, C, e, -⟩, -⟩ := h
    rw [e] at hr
    cases hr
  · exact absurd (h.1.symm.trans ho) (by decide)
theorem ax_arrQ {M : ax_Mm} {ad : Nat → Int → Nat} {tys : List (ClassId × FieldType)} {f : Nat} {o : Int} {en : va_E} {C : String} (ho : ax_ob f = false) (hr : ax_et f = .object C) (h : ax_E M ad tys f o en) : ∃ (cA : ClassId) (n : Nat) (g : Nat → Option Nat), en = .inl (cA, n, .inr (.inr (.inr (.inr g)))) ∧ (∃ t0 : Nat, tys[t0]? = some (cA, .object C)) ∧ (n : Int) = M.2.2.2 f o ∧ n < 2 ^ 31 ∧ ∀ j : Nat, j < n → ax_ref M ad (M.2.2.1 f o j) (va_rf (g j)) := by
  rcases en with ⟨cA, n, g | g | g | g | g⟩ | ⟨ci, fs⟩
  · obtain ⟨-, -, h1, -⟩ := h
    rw [hr] at h1
    cases h1
  · exact h.elim
  · exact h.elim
  · exact h.elim
  · obtain ⟨-, ⟨t0, C', e, ht⟩, h2, h3, h4⟩ := h
    rw [hr] at e
    cases e
    exact ⟨cA, n, g, rfl, ⟨t0, ht⟩, h2, h3, h4⟩
  · exact absurd (h.1.symm.trans ho) (by decide)
theorem ax_ok_mod (f ci : Nat) : ax_ok (f % 1000) ci = ax_ok f ci := by simp [ax_ok]
theorem ax_N_mod (f : Nat) : ax_N (f % 1000) = ax_N f := by simp [ax_N]
theorem ax_ty_mod (f k : Nat) : ax_ty (f % 1000) k = ax_ty f k := by simp [ax_ty]
theorem ax_ob_mod (f : Nat) : ax_ob (f % 1000) = ax_ob f := by simp [ax_ob]
theorem ax_ob_ok {f ci : Nat} (h : ax_ok f ci = true) : ax_ob f = true := by
  unfold ax_ok at h
  unfold ax_ob
  split at h <;> first | rfl | cases h
theorem ax_hp_ob {f : Nat} (h : ax_ob f = true) : ax_hp f = true := by
  by_cases a : f = 90
  · subst a; cases h
  · by_cases b : f = 91
    · subst b; cases h
    · by_cases c : f = 92
      · subst c; cases h
      · by_cases d : f = 93
        · subst d; cases h
        · simp [ax_hp, a, b, c, d]
theorem ax_w_mono {M M' : ax_Mm} {ad ad' : Nat → Int → Nat} (h : ∀ f o, M.1 f o → M'.1 f o ∧ ad' f o = ad f o) {v : ax_V} {w : Value} (hv : ax_w M ad v w) : ax_w M' ad' v w := by
  rcases v with x | x | _ | q
  · exact hv
  · exact hv
  · exact hv
  · exact ⟨(h _ _ hv.1).1, by rw [(h _ _ hv.1).2]; exact hv.2⟩
theorem ax_st_mono {M M' : ax_Mm} {ad ad' : Nat → Int → Nat} (h : ∀ f o, M.1 f o → M'.1 f o ∧ ad' f o = ad f o) : ∀ {st : List ax_V} {rs : List Value}, ax_st M ad st rs → ax_st M' ad' st rs
  | [], [], _ => trivial
  | _ :: _, _ :: _, hs => ⟨ax_w_mono h hs.1, ax_st_mono h hs.2⟩
  | [], _ :: _, hs => hs.elim
  | _ :: _, [], hs => hs.elim
theorem ax_lo_mono {M M' : ax_Mm} {ad ad' : Nat → Int → Nat} (h : ∀ f o, M.1 f o → M'.1 f o ∧ ad' f o = ad f o) {nL : Nat} {la : List (Option ax_V)} {ls : Array Slot} (L : ax_lo M ad nL la ls) : ax_lo M' ad' nL la ls := by
  obtain ⟨h1, lv, h2, h3⟩ := L
  refine ⟨h1, lv, h2, fun i v hi => ?_⟩
  obtain ⟨w, h4, h5⟩ := h3 i v hi
  exact ⟨w, h4, ax_w_mono h h5⟩
theorem ax_st_uI {M : ax_Mm} {ad : Nat → Int → Nat} {f : Nat} {o j x : Int} {st : List ax_V} {rs : List Value} (h : ax_st M ad st rs) : ax_st (ax_uI M f o j x) ad st rs := ax_st_mono (M := M) (M' := ax_uI M f o j x) (ad := ad) (fun _ _ h => ⟨h, rfl⟩) h
theorem ax_st_uR {M : ax_Mm} {ad : Nat → Int → Nat} {f : Nat} {o j : Int} {x : Option (Nat × Int)} {st : List ax_V} {rs : List Value} (h : ax_st M ad st rs) : ax_st (ax_uR M f o j x) ad st rs := ax_st_mono (M := M) (M' := ax_uR M f o j x) (ad := ad) (fun _ _ h => ⟨h, rfl⟩) h
section AH
variable {own : Nat} {cc : ByteArray} {nL : Nat} {scr : Option (Nat × (Nat → Int32))} {R : Room} {p0 : Nat → Int → Prop} {Q : ax_Q} {kc ks pc : Nat} {la : List (Option ax_V)} {st : List ax_V} {M : ax_Mm}
/-- what a link says, at a class of the family -/
theorem ax_fl_at {s : State} {args : Array Value} {idx f k ci : Nat} (hts : ∀ w ∈ ax_GT, w.before args s = true) (h : ax_fl own idx (f % 1000) k) (hk : ax_ok f ci = true) : k < ax_N f ∧ ∃ (C : String) (T : u_T) (N : Nat) (ref : String), vwCl[ci]? = some (C, T, N) ∧ ax_cf (f % 1000) C T N ∧ (Cond.fieldLink (ax_nm own) idx ref (T k).2.1 (T k).2.2.1).before args s = true ∧ (∀ x, s.fieldFound? (T k).1 (T k).2.1 (T k).2.2.1 = some x → s.fieldFound? ref (T k).2.1 (T k).2.2.1 = some x) := by
  obtain ⟨h1, ref, d, n, ds, fi, h2, h3, h4⟩ := h
  rw [ax_N_mod] at h1
  obtain ⟨C, T, N, h5, h6⟩ := ax_cls hk
  have h7 := h4 ci C T N (by rw [ax_ok_mod]; exact hk) h5
  refine ⟨h1, C, T, N, ref, h5, h6, ?_, ?_⟩
  · rw [h7]; exact hts _ h2
  · rw [h7]
    rcases h3 with rfl | h3
    · exact fun _ h => h
    · exact u_same (hts _ h3)
theorem aj_getI {idx f k : Nat} {o : Int} (hf : ax_fl own idx (f % 1000) k) (ho : ax_ob f = true) (hr : ax_isR f k = false) (h : decode cc pc = .ok (.getfield idx, 3)) (kk : ax_J own cc nL scr R p0 Q kc ks (pc + 3) la (.inl (M.2.1 f o k) :: st) M) : ax_J own cc nL scr R p0 Q kc ks pc la (.inr (.inr (some (f, o))) :: st) M := by
  intro p l e s m args below meth c N0 D QQ ad0 C hret ad ls rs H locs Z L S
  obtain ⟨ws1, e1, hm, S1⟩ := ax_st_r S
  subst e1
  obtain ⟨ws, tys, hK, hP, hD, hc, hi, hcl⟩ := Z.2.2.1
  obtain ⟨q0, en, h1, h2⟩ := hc f o hm (ax_hp_ob ho)
  obtain ⟨ci, fs, rfl, h3, h4, h5, h6⟩ := ax_obj ho h2
  obtain ⟨hk, C1, T, N, ref, g1, g2, g3, g4⟩ := ax_fl_at C.2.2.2.2.1 hf h3
  have hlt : k < fs.length := by omega
  have h7 := h6 k fs[k] (List.getElem?_eq_getElem hlt)
  unfold ax_fd at h7
  rw [if_neg (by rw [hr]; decide)] at h7
  obtain ⟨y, h8, h9⟩ := h7
  refine va_get C.1 C.2.1 C.2.2.2.2.1 g2.2.1 C.2.2.2.1 hK hP q0 h1 g1 k (by rw [g2.1, ax_N_mod]; exact hk) g3 g4 (v := .int y) (by rw [List.getElem?_eq_getElem hlt, h8]) h ?_
  exact kk p l e s m args below meth c N0 D QQ ad0 C hret ad _ _ _ _ Z L ⟨⟨y, rfl, h9⟩, S1⟩
theorem aj_getR {idx f k g : Nat} {o u : Int} (hf : ax_fl own idx (f % 1000) k) (ho : ax_ob f = true) (hr : ax_isR f k = true) (hm : M.2.2.1 f o k = some (g, u)) (hp : M.1 g u) (h : decode cc pc = .ok (.getfield idx, 3)) (kk : ax_J own cc nL scr R p0 Q kc ks (pc + 3) la (.inr (.inr (some (g, u))) :: st) M) : ax_J own cc nL scr R p0 Q kc ks pc la (.inr (.inr (some (f, o))) :: st) M := by
  intro p l e s m args below meth c N0 D QQ ad0 C hret ad ls rs H locs Z L S
  obtain ⟨ws1, e1, hm1, S1⟩ := ax_st_r S
  subst e1
  obtain ⟨ws, tys, hK, hP, hD, hc, hi, hcl⟩ := Z.2.2.1
  obtain ⟨q0, en, h1, h2⟩ := hc f o hm1 (ax_hp_ob ho)
  obtain ⟨ci, fs, rfl, h3, h4, h5, h6⟩ := ax_obj ho h2
  obtain ⟨hk, C1, T, N, ref, g1, g2, g3, g4⟩ := ax_fl_at C.2.2.2.2.1 hf h3
  have hlt : k < fs.length := by omega
  have h7 := h6 k fs[k] (List.getElem?_eq_getElem hlt)
  unfold ax_fd at h7
  rw [if_pos hr, hm] at h7
  have h8 : fs[k] = .ref (ad g u) := h7 hp
  refine va_get C.1 C.2.1 C.2.2.2.2.1 g2.2.1 C.2.2.2.1 hK hP q0 h1 g1 k (by rw [g2.1, ax_N_mod]; exact hk) g3 g4 (v := .ref (ad g u)) (by rw [List.getElem?_eq_getElem hlt, h8]) h ?_
  exact kk p l e s m args below meth c N0 D QQ ad0 C hret ad _ _ _ _ Z L ⟨⟨hp, rfl⟩, S1⟩
theorem ax_isA_R {f k : Nat} (h : ax_isA f k = true) : ax_isR f k = true := by
  unfold ax_isA at h
  unfold ax_isR
  split at h
  · rename_i e; rw [e]
  · cases h
/-- a fact of the memory, taken out of the world -/
theorem aj_know {P : Prop} (h : ∀ (D : va_G) (N0 : Nat) (s : State) (ad : Nat → Int → Nat) (H : Heap), ax_R D N0 s ad M H → P) (kk : P → ax_J own cc nL scr R p0 Q kc ks pc la st M) : ax_J own cc nL scr R p0 Q kc ks pc la st M := by
  intro p l e s m args below meth c N0 D QQ ad0 C hret ad ls rs H locs Z L S
  exact kk (h _ _ _ _ _ Z.2.2.1) p l e s m args below meth c N0 D QQ ad0 C hret ad ls rs H locs Z L S
theorem aj_getA {idx f k : Nat} {o : Int} (hf : ax_fl own idx (f % 1000) k) (ho : ax_ob f = true) (hl : f < 1000) (hr : ax_isA f k = true) (h : decode cc pc = .ok (.getfield idx, 3)) (kk : ax_J own cc nL scr R p0 Q kc ks (pc + 3) la (.inr (.inr (some (ax_sb f + k, o))) :: st) M) : ax_J own cc nL scr R p0 Q kc ks pc la (.inr (.inr (some (f, o))) :: st) M := by
  intro p l e s m args below meth c N0 D QQ ad0 C hret ad ls rs H locs Z L S
  obtain ⟨ws1, e1, hm1, S1⟩ := ax_st_r S
  obtain ⟨ws, tys, hK, hP, hD, hc, hi, hcl⟩ := id Z.2.2.1
  obtain ⟨h1, h2⟩ := hcl f o hm1 hl ho k hr (by have := hf.1; rw [ax_N_mod] at this; exact this)
  exact aj_getR hf ho (ax_isA_R hr) h1 h2 h kk p l e s m args below meth c N0 D QQ ad0 C hret ad ls rs H locs Z L S
/-- what is stored into a number's field or array: as it is -/
def ax_fit (ty : FieldType) (x : Int) : Prop := match ty with
  | .int => True
  | .boolean => x = 0 ∨ x = 1
  | .char => 0 ≤ x ∧ x ≤ 65535
  | _ => False
theorem ax_01 {y : Int32} (h : y.toInt = 0 ∨ y.toInt = 1) : y = 0 ∨ y = 1 := by
  rcases h with h | h
  · exact Or.inl (Int32.toInt_inj.mp (by rw [h]; rfl))
  · exact Or.inr (Int32.toInt_inj.mp (by rw [h]; rfl))
theorem ax_fit_n {ty : FieldType} {y : Int32} (h : ax_fit ty y.toInt) : narrow ty (.int y) = .int y ∧ fits ty (.int y) = true := by
  cases ty with
  | int => exact ⟨rfl, rfl⟩
  | boolean =>
    rcases ax_01 h with rfl | rfl
    · exact ⟨by decide, by decide⟩
    · exact ⟨by decide, by decide⟩
  | char =>
    obtain ⟨h1, h2⟩ := h
    have h3 : y = nI y.toInt.toNat := Int32.toInt_inj.mp (by rw [nI_toInt (by omega)]; omega)
    rw [h3]
    exact pk_charN (by omega)
  | _ => exact h.elim
theorem ax_fit_v {ty : FieldType} {y : Int32} (h : ax_fit ty y.toInt) : vp_nar ty y = y := by
  unfold vp_nar
  rw [(ax_fit_n h).1]
/-- the closed references of a memory whose numbers alone changed -/
theorem aj_putI {idx f k : Nat} {o x : Int} (hf : ax_fl own idx (f % 1000) k) (ho : ax_ob f = true) (hr : ax_isR f k = false) (hfi : ∀ ci C T N, ax_ok f ci = true → vwCl[ci]? = some (C, T, N) → (T k).2.2.2 = false) (hx : ax_fit (ax_ty f k) x) (h : decode cc pc = .ok (.putfield idx, 3)) (kk : ax_J own cc nL scr R p0 Q kc ks (pc + 3) la st (ax_uI M f o k x)) : ax_J own cc nL scr R p0 Q kc ks pc la (.inl x :: .inr (.inr (some (f, o))) :: st) M := by
  intro p l e s m args below meth c N0 D QQ ad0 C hret ad ls rs H locs Z L S
  obtain ⟨y, ws0, e0, hy, S0⟩ := ax_st_i S
  obtain ⟨ws1, e1, hm, S1⟩ := ax_st_r S0
  subst e1
  subst e0
  subst hy
  obtain ⟨ws, tys, hK, hP, hD, hc, hi, hcl⟩ := Z.2.2.1
  obtain ⟨q0, en, h1, h2⟩ := hc f o hm (ax_hp_ob ho)
  obtain ⟨ci, fs, rfl, h3, h4, h5, h6⟩ := ax_obj ho h2
  obtain ⟨hk, C1, T, N, ref, g1, g2, g3, g4⟩ := ax_fl_at C.2.2.2.2.1 hf h3
  have hkN : k < N := by rw [g2.1, ax_N_mod]; exact hk
  have hlt : k < fs.length := by omega
  have hpd := g2.2.2.1 k hkN
  rw [ax_ty_mod] at hpd
  refine va_put C.1 C.2.1 C.2.2.2.2.1 g2.2.1 (ax_ty (f % 1000)) g2.2.2.1 g2.2.2.2 C.2.2.2.1 hK hP hD Z.2.2.2 q0 h1 g1 k hkN g3 g4 (hfi ci C1 T N h3 g1) hpd (ax_fit_n hx).1 (ax_fit_n hx).2 hlt h (fun H1 locs1 hP1 hD1 hS1 => ?_)
  refine kk p l e s m args below meth c N0 D QQ ad0 C hret ad _ _ _ _ ⟨Z.1, Z.2.1, ?_, hS1⟩ L (ax_st_uI S1)
  refine ax_R_set (M := M) hK hP1 hD hD1 hc hi hcl h1 hm (ax_hp_ob ho) rfl (fun f' o' j hne => ax_u3_n (fun q => hne ⟨q.1, q.2.1⟩)) (fun f' o' j hne => rfl) (fun _ _ => rfl) ?_
  refine ⟨ho, h3, h4, by simpa using h5, ?_⟩
  · intro j v hv
    by_cases ej : j = k
    · subst ej
      rw [List.getElem?_set_self hlt] at hv
      cases hv
      unfold ax_fd
      rw [if_neg (by rw [hr]; decide)]
      exact ⟨y, rfl, (ax_u3_s).symm⟩
    · rw [List.getElem?_set_ne (fun q => ej q.symm)] at hv
      have h7 := h6 j v hv
      unfold ax_fd at h7 ⊢
      rw [show (ax_uI M f o k y.toInt).2.1 f o j = M.2.1 f o j from ax_u3_n (fun q => by have := q.2.2; omega)]
      exact h7
theorem aj_putR {idx f k g : Nat} {o u : Int} (hf : ax_fl own idx (f % 1000) k) (ho : ax_ob f = true) (hr : ax_isR f k = true) (hfi : (∀ ci C T N, ax_ok f ci = true → vwCl[ci]? = some (C, T, N) → (T k).2.2.2 = false) ∨ (100 ≤ own ∧ ∀ ci C T N, ax_ok f ci = true → vwCl[ci]? = some (C, T, N) → (T k).2.2.2 = true ∧ (T k).1 = ax_nm own)) (hA : ax_isA f k = true → 1000 ≤ f) (h : decode cc pc = .ok (.putfield idx, 3)) (kk : ax_J own cc nL scr R p0 Q kc ks (pc + 3) la st (ax_uR M f o k (some (g, u)))) : ax_J own cc nL scr R p0 Q kc ks pc la (.inr (.inr (some (g, u))) :: .inr (.inr (some (f, o))) :: st) M := by
  intro p l e s m args below meth c N0 D QQ ad0 C hret ad ls rs H locs Z L S
  obtain ⟨ws0, e0, hg, S0⟩ := ax_st_r S
  obtain ⟨ws1, e1, hm, S1⟩ := ax_st_r S0
  subst e1
  subst e0
  obtain ⟨ws, tys, hK, hP, hD, hc, hi, hcl⟩ := Z.2.2.1
  obtain ⟨q0, en, h1, h2⟩ := hc f o hm (ax_hp_ob ho)
  obtain ⟨ci, fs, rfl, h3, h4, h5, h6⟩ := ax_obj ho h2
  obtain ⟨hk, C1, T, N, ref, g1, g2, g3, g4⟩ := ax_fl_at C.2.2.2.2.1 hf h3
  have hkN : k < N := by rw [g2.1, ax_N_mod]; exact hk
  have hlt : k < fs.length := by omega
  have hpd := g2.2.2.1 k hkN
  rw [ax_ty_mod] at hpd
  have hnf : narrow (ax_ty f k) (.ref (ad g u)) = .ref (ad g u) ∧ fits (ax_ty f k) (.ref (ad g u)) = true := by
    unfold ax_isR at hr
    split at hr
    · rename_i e; rw [e]; exact ⟨rfl, rfl⟩
    · rename_i e; rw [e]; exact ⟨rfl, rfl⟩
    · cases hr
  have go : ∀ (H1 : Heap) (locs1 : List Loc), va_P D vwCl (ws.set q0 (ad f o, .inr (ci, fs.set k (.ref (ad g u))))) H1 → va_D (fun q => N0 ≤ q) (ws.set q0 (ad f o, .inr (ci, fs.set k (.ref (ad g u))))) → va_S (fun q => N0 ≤ q) s.heap H1 locs1 → W p l e R s m args below meth c H1 locs1 kc ks QQ (F0 m (pc + 3) ls ws1) := by
    intro H1 locs1 hP1 hD1 hS1
    refine kk p l e s m args below meth c N0 D QQ ad0 C hret ad _ _ _ _ ⟨Z.1, Z.2.1, ?_, hS1⟩ L (ax_st_uR S1)
    refine ax_R_set (M := M) hK hP1 hD hD1 hc hi ?_ h1 hm (ax_hp_ob ho) rfl (fun f' o' j hne => rfl) (fun f' o' j hne => ax_u3_n (fun q => hne ⟨q.1, q.2.1⟩)) (fun _ _ => rfl) ?_
    · intro f' o' hf' hl' ho' k' hk' hN'
      have h9 := hcl f' o' hf' hl' ho' k' hk' hN'
      refine ⟨?_, h9.2⟩
      by_cases z : f' = f ∧ o' = o ∧ (k' : Int) = (k : Int)
      · obtain ⟨rfl, -, z⟩ := z
        have z : k' = k := by omega
        subst z
        have := hA hk'
        omega
      · rw [show (ax_uR M f o k (some (g, u))).2.2.1 f' o' k' = M.2.2.1 f' o' k' from ax_u3_n z]
        exact h9.1
    · refine ⟨ho, h3, h4, by simpa using h5, ?_⟩
      intro j v hv
      by_cases ej : j = k
      · subst ej
        rw [List.getElem?_set_self hlt] at hv
        cases hv
        unfold ax_fd
        rw [if_pos hr, show (ax_uR M f o j (some (g, u))).2.2.1 f o j = some (g, u) from ax_u3_s]
        exact fun _ => rfl
      · rw [List.getElem?_set_ne (fun q => ej q.symm)] at hv
        have h7 := h6 j v hv
        unfold ax_fd at h7 ⊢
        rw [show (ax_uR M f o k (some (g, u))).2.2.1 f o j = M.2.2.1 f o j from ax_u3_n (fun q => by have := q.2.2; omega)]
        exact h7
  rcases hfi with hfi | ⟨hI, hfi⟩
  · exact va_put C.1 C.2.1 C.2.2.2.2.1 g2.2.1 (ax_ty (f % 1000)) g2.2.2.1 g2.2.2.2 C.2.2.2.1 hK hP hD Z.2.2.2 q0 h1 g1 k hkN g3 g4 (hfi ci C1 T N h3 g1) hpd hnf.1 hnf.2 hlt h go
  · exact va_putF C.1 C.2.1 C.2.2.2.2.1 g2.2.1 (ax_ty (f % 1000)) g2.2.2.1 g2.2.2.2 C.2.2.2.1 hK hP hD Z.2.2.2 q0 h1 g1 k hkN g3 g4 (hfi ci C1 T N h3 g1).1 (C.2.2.2.2.2.2.2.2.2 hI) (hfi ci C1 T N h3 g1).2 hpd hnf.1 hnf.2 hlt h go
theorem ax_vpin {j : Int32} {n : Nat} (h : 0 ≤ j.toInt ∧ j.toInt < n) : vp_in j n := vp_in_iff.mpr h
theorem ax_cl {j : Int32} (h : 0 ≤ j.toInt) : ((j.toNatClampNeg : Nat) : Int) = j.toInt := by
  show ((j.toInt.toNat : Nat) : Int) = j.toInt
  omega
/-- reading an array of ints, booleans, chars -/
theorem aj_ald {f : Nat} {o i : Int} {ins : Instr} (ho : ax_ob f = false) (hp : ax_hp f = true) (hin : 0 ≤ i ∧ i < M.2.2.2 f o) (ht : (ax_et f = .int ∧ ins = .iaload) ∨ (ax_et f = .boolean ∧ ins = .baload) ∨ (ax_et f = .char ∧ ins = .caload)) (h : decode cc pc = .ok (ins, 1)) (kk : ax_J own cc nL scr R p0 Q kc ks (pc + 1) la (.inl (M.2.1 f o i) :: st) M) : ax_J own cc nL scr R p0 Q kc ks pc la (.inl i :: .inr (.inr (some (f, o))) :: st) M := by
  intro p l e s m args below meth c N0 D QQ ad0 C hret ad ls rs H locs Z L S
  obtain ⟨y, ws0, e0, hy, S0⟩ := ax_st_i S
  obtain ⟨ws1, e1, hm, S1⟩ := ax_st_r S0
  subst e1
  subst e0
  subst hy
  obtain ⟨ws, tys, hK, hP, hD, hc, hi, hcl⟩ := Z.2.2.1
  obtain ⟨q0, en, h1, h2⟩ := hc f o hm hp
  obtain ⟨cA, n, g, rfl, ⟨t0, h3⟩, h4, h5, h6⟩ := ax_arr ho (by rcases ht with ⟨h, -⟩ | ⟨h, -⟩ | ⟨h, -⟩ <;> rw [h] <;> rfl) h2
  rw [← h4] at hin
  have hv := h6 y.toNatClampNeg (by have := ax_cl hin.1; omega)
  rw [ax_cl hin.1] at hv
  have fin := kk p l e s m args below meth c N0 D QQ ad0 C hret ad ls (.int (g y.toNatClampNeg) :: ws1) H locs Z L ⟨⟨_, rfl, hv⟩, S1⟩
  rcases ht with ⟨he, rfl⟩ | ⟨he, rfl⟩ | ⟨he, rfl⟩ <;> rw [he] at h3
  · exact va_iald C.1 C.2.1 hK hP q0 t0 h1 h3 (ax_vpin hin) h fin
  · exact va_zald C.1 C.2.1 hK hP q0 t0 h1 h3 (ax_vpin hin) h fin
  · exact va_cald C.1 C.2.1 hK hP q0 t0 h1 h3 (ax_vpin hin) h fin
/-- writing one -/
theorem aj_ast {f : Nat} {o i x : Int} {ins : Instr} (ho : ax_ob f = false) (hp : ax_hp f = true) (hin : 0 ≤ i ∧ i < M.2.2.2 f o) (ht : (ax_et f = .int ∧ ins = .iastore) ∨ (ax_et f = .boolean ∧ ins = .bastore) ∨ (ax_et f = .char ∧ ins = .castore)) (hx : ax_fit (ax_et f) x) (h : decode cc pc = .ok (ins, 1)) (kk : ax_J own cc nL scr R p0 Q kc ks (pc + 1) la st (ax_uI M f o i x)) : ax_J own cc nL scr R p0 Q kc ks pc la (.inl x :: .inl i :: .inr (.inr (some (f, o))) :: st) M := by
  intro p l e s m args below meth c N0 D QQ ad0 C hret ad ls rs H locs Z L S
  obtain ⟨z, wsa, ea, hz, Sa⟩ := ax_st_i S
  obtain ⟨y, ws0, e0, hy, S0⟩ := ax_st_i Sa
  obtain ⟨ws1, e1, hm, S1⟩ := ax_st_r S0
  subst e1
  subst e0
  subst ea
  subst hy
  subst hz
  obtain ⟨ws, tys, hK, hP, hD, hc, hi, hcl⟩ := Z.2.2.1
  obtain ⟨q0, en, h1, h2⟩ := hc f o hm hp
  have hrk : refKind (ax_et f) = false := by rcases ht with ⟨h, -⟩ | ⟨h, -⟩ | ⟨h, -⟩ <;> rw [h] <;> rfl
  obtain ⟨cA, n, g, rfl, ⟨t0, h3⟩, h4, h5, h6⟩ := ax_arr ho hrk h2
  have hin0 := hin
  rw [← h4] at hin
  have hcl0 := ax_cl hin.1
  have fin : ∀ (H1 : Heap) (locs1 : List Loc), va_P D vwCl (ws.set q0 (ad f o, .inl (cA, n, .inl (upd g y.toNatClampNeg z)))) H1 → va_D (fun q => N0 ≤ q) (ws.set q0 (ad f o, .inl (cA, n, .inl (upd g y.toNatClampNeg z)))) → va_S (fun q => N0 ≤ q) s.heap H1 locs1 → W p l e R s m args below meth c H1 locs1 kc ks QQ (F0 m (pc + 1) ls ws1) := by
    intro H1 locs1 hP1 hD1 hS1
    refine kk p l e s m args below meth c N0 D QQ ad0 C hret ad _ _ _ _ ⟨Z.1, Z.2.1, ?_, hS1⟩ L (ax_st_uI S1)
    refine ax_R_set (M := M) hK hP1 hD hD1 hc hi hcl h1 hm hp rfl (fun f' o' j hne => ax_u3_n (fun q => hne ⟨q.1, q.2.1⟩)) (fun f' o' j hne => rfl) (fun _ _ => rfl) ?_
    refine ⟨ho, ⟨t0, h3⟩, hrk, h4, h5, fun j hj => ?_⟩
    by_cases ej : j = y.toNatClampNeg
    · subst ej
      rw [pk_us, hcl0]
      exact (ax_u3_s).symm
    · rw [pk_un ej]
      rw [show (ax_uI M f o y.toInt z.toInt).2.1 f o j = M.2.1 f o j from ax_u3_n (fun q => ej (by have := q.2.2; omega))]
      exact h6 j hj
  rcases ht with ⟨he, rfl⟩ | ⟨he, rfl⟩ | ⟨he, rfl⟩ <;> rw [he] at h3 hx
  · exact va_iast C.1 C.2.1 hK hP hD Z.2.2.2 q0 t0 h1 h3 (ax_vpin hin) h fin
  · exact va_zast C.1 C.2.1 hK hP hD Z.2.2.2 q0 t0 h1 h3 (ax_vpin hin) h (by rw [ax_fit_v hx]; exact fin)
  · exact va_cast C.1 C.2.1 hK hP hD Z.2.2.2 q0 t0 h1 h3 (ax_vpin hin) h (by rw [ax_fit_v hx]; exact fin)
theorem aj_aald {f g : Nat} {o i u : Int} {E : String} (ho : ax_ob f = false) (hp : ax_hp f = true) (het : ax_et f = .object E) (hin : 0 ≤ i ∧ i < M.2.2.2 f o) (hm : M.2.2.1 f o i = some (g, u)) (hg : M.1 g u) (h : decode cc pc = .ok (.aaload, 1)) (kk : ax_J own cc nL scr R p0 Q kc ks (pc + 1) la (.inr (.inr (some (g, u))) :: st) M) : ax_J own cc nL scr R p0 Q kc ks pc la (.inl i :: .inr (.inr (some (f, o))) :: st) M := by
  intro p l e s m args below meth c N0 D QQ ad0 C hret ad ls rs H locs Z L S
  obtain ⟨y, ws0, e0, hy, S0⟩ := ax_st_i S
  obtain ⟨ws1, e1, hm1, S1⟩ := ax_st_r S0
  subst e1
  subst e0
  subst hy
  obtain ⟨ws, tys, hK, hP, hD, hc, hi, hcl⟩ := Z.2.2.1
  obtain ⟨q0, en, h1, h2⟩ := hc f o hm1 hp
  obtain ⟨cA, n, gg, rfl, ⟨t0, h3⟩, h4, h5, h6⟩ := ax_arrQ ho het h2
  rw [← h4] at hin
  have hv := h6 y.toNatClampNeg (by have := ax_cl hin.1; omega)
  rw [ax_cl hin.1, hm] at hv
  refine va_aldq C.1 C.2.1 hK hP q0 t0 h1 h3 (ax_vpin hin) h ?_
  exact kk p l e s m args below meth c N0 D QQ ad0 C hret ad _ _ _ _ Z L ⟨⟨hg, hv hg⟩, S1⟩
theorem aj_len {f : Nat} {o : Int} (ho : ax_ob f = false) (hp : ax_hp f = true) (hr : refKind (ax_et f) = false) (h : decode cc pc = .ok (.arraylength, 1)) (kk : ax_J own cc nL scr R p0 Q kc ks (pc + 1) la (.inl (M.2.2.2 f o) :: st) M) : ax_J own cc nL scr R p0 Q kc ks pc la (.inr (.inr (some (f, o))) :: st) M := by
  intro p l e s m args below meth c N0 D QQ ad0 C hret ad ls rs H locs Z L S
  obtain ⟨ws1, e1, hm, S1⟩ := ax_st_r S
  subst e1
  obtain ⟨ws, tys, hK, hP, hD, hc, hi, hcl⟩ := Z.2.2.1
  obtain ⟨q0, en, h1, h2⟩ := hc f o hm hp
  obtain ⟨cA, n, gg, rfl, ⟨t0, h3⟩, h4, h5, h6⟩ := ax_arr ho hr h2
  refine va_alen C.1 C.2.1 hK hP q0 t0 h1 h3 rfl h ?_
  exact kk p l e s m args below meth c N0 D QQ ad0 C hret ad _ _ _ _ Z L ⟨⟨_, rfl, by rw [← h4]; exact nI_toInt h5⟩, S1⟩
end AH
