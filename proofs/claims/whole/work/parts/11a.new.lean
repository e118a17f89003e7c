/-! ===== rows that make things, that name them anew, that forget them ===== -/
/-- no reference leads to a thing that is not there (but to 999) -/
def ax_nd (M : ax_Mm) : Prop := ∀ (f : Nat) (o j : Int) (q : Nat × Int), M.1 f o → M.2.2.1 f o j = some q → M.1 q.1 q.2 ∨ q = (999, 0)
def ax_ad (ad : Nat → Int → Nat) (f : Nat) (o : Int) (q : Nat) : Nat → Int → Nat := fun f' o' => if f' = f ∧ o' = o then q else ad f' o'
theorem ax_ad_s {ad : Nat → Int → Nat} {f : Nat} {o : Int} {q : Nat} : ax_ad ad f o q f o = q := if_pos ⟨rfl, rfl⟩
theorem ax_ad_n {ad : Nat → Int → Nat} {f f' : Nat} {o o' : Int} {q : Nat} (h : ¬ (f' = f ∧ o' = o)) : ax_ad ad f o q f' o' = ad f' o' := if_neg h
theorem ax_E_mv {M M' : ax_Mm} {ad ad' : Nat → Int → Nat} {tys tys' : List (ClassId × FieldType)} {f : Nat} {o : Int} {en : va_E} (ht : ∀ (t0 : Nat) (x : ClassId × FieldType), tys[t0]? = some x → tys'[t0]? = some x) (h2 : ∀ j, M'.2.1 f o j = M.2.1 f o j) (h3 : ∀ j, M'.2.2.1 f o j = M.2.2.1 f o j) (h4 : M'.2.2.2 f o = M.2.2.2 f o)
    (hp : ∀ (j : Int) (q : Nat × Int), M.2.2.1 f o j = some q → M'.1 q.1 q.2 → M.1 q.1 q.2 ∧ ad' q.1 q.2 = ad q.1 q.2) (h : ax_E M ad tys f o en) : ax_E M' ad' tys' f o en := by
  have hr : ∀ (j : Int) (v : Value), ax_ref M ad (M.2.2.1 f o j) v → ax_ref M' ad' (M'.2.2.1 f o j) v := by
    intro j v hv
    rw [h3]
    cases hq : M.2.2.1 f o j with
    | none =>
      rw [hq] at hv
      exact hv
    | some q =>
      rw [hq] at hv
      intro hm
      obtain ⟨z1, z2⟩ := hp j q hq hm
      rw [z2]
      exact hv z1
  rcases en with ⟨cA, n, g | g | g | g | g⟩ | ⟨ci, fs⟩
  · obtain ⟨a1, ⟨t0, a2⟩, a3, a4, a5, a6⟩ := h
    exact ⟨a1, ⟨t0, ht _ _ a2⟩, a3, by rw [h4]; exact a4, a5, fun j hj => by rw [h2]; exact a6 j hj⟩
  · exact h.elim
  · exact h.elim
  · exact h.elim
  · obtain ⟨a1, ⟨t0, C, a2, a3⟩, a4, a5, a6⟩ := h
    exact ⟨a1, ⟨t0, C, a2, ht _ _ a3⟩, by rw [h4]; exact a4, a5, fun j hj => hr j _ (a6 j hj)⟩
  · obtain ⟨a1, a2, a3, a4, a5⟩ := h
    refine ⟨a1, a2, by rw [h4]; exact a3, a4, fun k v hk => ?_⟩
    have h7 := a5 k v hk
    unfold ax_fd at h7 ⊢
    split
    · rename_i z
      rw [if_pos z] at h7
      exact hr k v h7
    · rename_i z
      rw [if_neg z] at h7
      rw [h2]
      exact h7
theorem ax_R_push {D : va_G} {N0 : Nat} {s : State} {ad : Nat → Int → Nat} {M M' : ax_Mm} {H1 : Heap} {ws : va_W} {tys tys' : List (ClassId × FieldType)} {q f : Nat} {o : Int} {en : va_E} (hK : va_K D vwCl tys' s) (hP : va_P D vwCl (ws ++ [(q, en)]) H1) (hD : va_D (fun q => N0 ≤ q) (ws ++ [(q, en)])) (ht : ∀ (t0 : Nat) (x : ClassId × FieldType), tys[t0]? = some x → tys'[t0]? = some x)
    (hc : ∀ (f : Nat) (o : Int), M.1 f o → ax_hp f = true → ∃ (q0 : Nat) (en : va_E), ws[q0]? = some (ad f o, en) ∧ ax_E M ad tys f o en)
    (hi : ∀ (f f' : Nat) (o o' : Int), M.1 f o → M.1 f' o' → ax_hp f = true → ax_hp f' = true → ad f o = ad f' o' → f = f' ∧ o = o')
    (hcl : ∀ (f : Nat) (o : Int), M.1 f o → f < 1000 → ax_ob f = true → ∀ k : Nat, ax_isA f k = true → k < ax_N f → M.2.2.1 f o k = some (ax_sb f + k, o) ∧ M.1 (ax_sb f + k) o)
    (hfr : ¬ M.1 f o) (h9 : f ≠ 999) (hnd : ax_nd M) (e1 : ∀ f' o', M'.1 f' o' ↔ (f' = f ∧ o' = o) ∨ M.1 f' o') (e2 : ∀ f' o' j, ¬ (f' = f ∧ o' = o) → M'.2.1 f' o' j = M.2.1 f' o' j) (e3 : ∀ f' o' j, ¬ (f' = f ∧ o' = o) → M'.2.2.1 f' o' j = M.2.2.1 f' o' j) (e4 : ∀ f' o', ¬ (f' = f ∧ o' = o) → M'.2.2.2 f' o' = M.2.2.2 f' o')
    (hE : ax_E M' (ax_ad ad f o q) tys' f o en) (hraw : f < 1000 → ax_ob f = false) : ax_R D N0 s (ax_ad ad f o q) M' H1 := by
  have hne : ∀ f' o', M.1 f' o' → ¬ (f' = f ∧ o' = o) := fun f' o' hm z => hfr (by rw [← z.1, ← z.2]; exact hm)
  have hq : ∀ f' o', M.1 f' o' → ax_hp f' = true → ad f' o' ≠ q := by
    intro f' o' hm hh z
    obtain ⟨q0, en0, a1, -⟩ := hc f' o' hm hh
    have hlt : q0 < ws.length := (List.getElem?_eq_some_iff.mp a1).1
    have := hD.1 q0 ws.length (ad f' o', en0) (q, en) (by rw [List.getElem?_append_left hlt]; exact a1) (by simp) z
    omega
  refine ⟨ws ++ [(q, en)], tys', hK, hP, hD, ?_, ?_, ?_⟩
  · intro f' o' hm hh
    by_cases z : f' = f ∧ o' = o
    · obtain ⟨rfl, rfl⟩ := z
      exact ⟨ws.length, en, by rw [ax_ad_s]; simp, hE⟩
    · have hm' : M.1 f' o' := ((e1 f' o').mp hm).resolve_left z
      obtain ⟨q0, en0, a1, a2⟩ := hc f' o' hm' hh
      refine ⟨q0, en0, ?_, ax_E_mv ht (fun j => e2 f' o' j z) (fun j => e3 f' o' j z) (e4 f' o' z) ?_ a2⟩
      · rw [ax_ad_n z, List.getElem?_append_left (List.getElem?_eq_some_iff.mp a1).1]
        exact a1
      · intro j w hw hm2
        have hw1 : M.1 w.1 w.2 := by
          rcases (e1 _ _).mp hm2 with y | y
          · rcases hnd f' o' j w hm' hw with x | x
            · exact x
            · rw [x] at y
              exact absurd y.1.symm h9
          · exact y
        exact ⟨hw1, ax_ad_n (hne _ _ hw1)⟩
  · intro a b c d ha hb hha hhb hab
    by_cases za : a = f ∧ c = o
    · by_cases zb : b = f ∧ d = o
      · exact ⟨za.1.trans zb.1.symm, za.2.trans zb.2.symm⟩
      · rw [ax_ad_n zb, za.1, za.2, ax_ad_s] at hab
        exact absurd hab.symm (hq b d (((e1 b d).mp hb).resolve_left zb) hhb)
    · by_cases zb : b = f ∧ d = o
      · rw [ax_ad_n za, zb.1, zb.2, ax_ad_s] at hab
        exact absurd hab (hq a c (((e1 a c).mp ha).resolve_left za) hha)
      · rw [ax_ad_n za, ax_ad_n zb] at hab
        exact hi a b c d (((e1 a c).mp ha).resolve_left za) (((e1 b d).mp hb).resolve_left zb) hha hhb hab
  · intro f' o' hm hl ho k hk hN
    by_cases z : f' = f ∧ o' = o
    · rw [z.1] at hl ho
      rw [hraw hl] at ho
      cases ho
    · obtain ⟨y1, y2⟩ := hcl f' o' (((e1 f' o').mp hm).resolve_left z) hl ho k hk hN
      exact ⟨by rw [e3 f' o' k z]; exact y1, (e1 _ _).mpr (Or.inr y2)⟩
/-- a thing made: an object's fields, all 0 or null -/
def ax_mk (M : ax_Mm) (f : Nat) (o ci : Int) : ax_Mm := (fun f' o' => (f' = f ∧ o' = o) ∨ M.1 f' o', fun f' o' j => if f' = f ∧ o' = o then 0 else M.2.1 f' o' j, fun f' o' j => if f' = f ∧ o' = o then none else M.2.2.1 f' o' j, fun f' o' => if f' = f ∧ o' = o then ci else M.2.2.2 f' o')
theorem ax_nd_mk {M : ax_Mm} {f : Nat} {o ci : Int} (h : ax_nd M) : ax_nd (ax_mk M f o ci) := by
  intro f' o' j q hm hq
  change (if f' = f ∧ o' = o then none else M.2.2.1 f' o' j) = some q at hq
  split at hq
  · cases hq
  · rename_i z
    rcases h f' o' j q (hm.resolve_left z) hq with y | y
    · exact Or.inl (Or.inr y)
    · exact Or.inr y
theorem ax_nd_uI {M : ax_Mm} {f : Nat} {o j x : Int} (h : ax_nd M) : ax_nd (ax_uI M f o j x) := h
theorem ax_nd_uR {M : ax_Mm} {f : Nat} {o j : Int} {q : Nat × Int} (h : ax_nd M) (hq : M.1 q.1 q.2) : ax_nd (ax_uR M f o j (some q)) := by
  intro f' o' j' w hm hw
  change ax_u3 M.2.2.1 f o j (some q) f' o' j' = some w at hw
  unfold ax_u3 at hw
  split at hw
  · cases hw
    exact Or.inl hq
  · exact h f' o' j' w hm hw
theorem ax_nt {f k : Nat} (hk : k < ax_N f) (h : ax_isR f k = false) : defaultValue (ax_ty f k) = .int 0 := by
  have key : ∀ f : Nat, f = 1 ∨ f = 2 ∨ f = 3 ∨ f = 4 ∨ f = 5 ∨ f = 6 ∨ f = 50 → ∀ k, k < ax_N f → ax_isR f k = false → defaultValue (ax_ty f k) = .int 0 := by
    intro f hf
    rcases hf with rfl | rfl | rfl | rfl | rfl | rfl | rfl <;> decide
  rw [← ax_N_mod] at hk
  rw [← ax_ty_mod]
  have h' : ax_isR (f % 1000) k = false := by
    unfold ax_isR at h ⊢
    rw [ax_ty_mod]
    exact h
  by_cases hf : f % 1000 = 1 ∨ f % 1000 = 2 ∨ f % 1000 = 3 ∨ f % 1000 = 4 ∨ f % 1000 = 5 ∨ f % 1000 = 6
  · exact key _ (by omega) k hk h'
  · have e : ax_N (f % 1000) = ax_N 50 ∧ ax_ty (f % 1000) k = ax_ty 50 k := by
      unfold ax_N ax_ty
      constructor <;> (split <;> first | omega | (split <;> first | omega | rfl))
    rw [e.2]
    refine key 50 (by omega) k (by rw [← e.1]; exact hk) ?_
    unfold ax_isR at h' ⊢
    rw [← e.2]
    exact h'
theorem ax_rt {f k : Nat} (h : ax_isR f k = true) : defaultValue (ax_ty f k) = .null := by
  unfold ax_isR at h
  split at h
  · rename_i e; rw [e]; rfl
  · rename_i e; rw [e]; rfl
  · cases h
theorem ax_Zp {D : va_G} {N0 nL : Nat} {s : State} {p0 : Nat → Int → Prop} {ad0 ad : Nat → Int → Nat} {M M' : ax_Mm} {H : Heap} {locs : List Loc} {f : Nat} {o : Int} {q : Nat} (Z : ax_Z D N0 nL s p0 ad0 ad M H locs) (hfr : ¬ M.1 f o) (hp : ax_hp f = true) (e1 : ∀ f' o', M'.1 f' o' ↔ (f' = f ∧ o' = o) ∨ M.1 f' o') : (∀ f' o', p0 f' o' ∨ ax_hp f' = false → ax_ad ad f o q f' o' = ad0 f' o') ∧ (∀ f' o', p0 f' o' → M'.1 f' o') ∧ ∀ f' o', M.1 f' o' → M'.1 f' o' ∧ ax_ad ad f o q f' o' = ad f' o' := by
  have hm : ∀ f' o', M.1 f' o' → M'.1 f' o' ∧ ax_ad ad f o q f' o' = ad f' o' := fun f' o' h => ⟨(e1 f' o').mpr (Or.inr h), ax_ad_n (fun z => hfr (by rw [← z.1, ← z.2]; exact h))⟩
  refine ⟨fun f' o' h => ?_, fun f' o' h => (hm f' o' (Z.2.1 f' o' h)).1, hm⟩
  rw [ax_ad_n ?_]
  · exact Z.1 f' o' h
  · rintro ⟨rfl, rfl⟩
    rcases h with h | h
    · exact hfr (Z.2.1 _ _ h)
    · rw [hp] at h
      cases h
section AN
variable {own : Nat} {cc : ByteArray} {nL : Nat} {scr : Option (Nat × (Nat → Int32))} {R : Room} {p0 : Nat → Int → Prop} {Q : ax_Q} {kc ks pc : Nat} {la : List (Option ax_V)} {st : List ax_V} {M : ax_Mm}
theorem aj_new {idx ci f : Nat} {o : Int} {C : String} {T : u_T} {N : Nat} (hq : vwCl[ci]? = some (C, T, N)) (hok : ax_ok f ci = true) (hf : 1000 ≤ f) (h9 : f ≠ 999) (hlk : Cond.classLink (ax_nm own) idx C ∈ ax_GT) (hin : Cond.instantiable C N ∈ ax_GT) (hini : Cond.initialized C ∈ ax_GT) (hfr : ¬ M.1 f o) (hnd : ax_nd M) (hR : kc + 1 ≤ R.cells ∧ ks + N ≤ R.slots) (h : decode cc pc = .ok (.new idx, 3))
    (kk : ax_J own cc nL scr R p0 Q (kc + 1) (ks + N) (pc + 3) la (.inr (.inr (some (f, o))) :: st) (ax_mk M f o ci)) : ax_J own cc nL scr R p0 Q kc ks pc la st M := by
  intro p l e s m args below meth c N0 D QQ ad0 C0 hret ad ls rs H locs Z L S
  obtain ⟨ws, tys, hK, hP, hD, hc, hi, hcl⟩ := Z.2.2.1
  obtain ⟨C', T', N', e1, g1⟩ := ax_cls hok
  cases hq.symm.trans e1
  have ho := ax_ob_ok hok
  have hN : N = ax_N f := by rw [g1.1, ax_N_mod]
  refine va_new (fs := (List.range N).map fun j => defaultValue (ax_ty f j)) C0.1 C0.2.1 C0.2.2.2.2.1 g1.2.1 (ax_ty (f % 1000)) g1.2.2.1 C0.2.2.2.1 (C0.2.2.2.2.1 _ hlk) (C0.2.2.2.2.1 _ hin) (C0.2.2.2.2.1 _ hini) hK hP hD Z.2.2.2 (fun q hq => Nat.le_trans C0.2.2.2.2.2.1 hq) hq ?_ hR.1 hR.2 h (fun q H1 hP1 hD1 hS1 => ?_)
  · intro j hj
    rw [ax_ty_mod]
    simp [vp_V, hj]
  · obtain ⟨z1, z2, z3⟩ := ax_Zp (M' := ax_mk M f o ci) (q := q) Z hfr (ax_hp_ob ho) (fun _ _ => Iff.rfl)
    refine kk p l e s m args below meth c N0 D QQ ad0 C0 hret (ax_ad ad f o q) _ _ H1 _ ⟨z1, z2, ?_, hS1⟩ (ax_lo_mono z3 L) ⟨⟨Or.inl ⟨rfl, rfl⟩, by rw [ax_ad_s]⟩, ax_st_mono z3 S⟩
    refine ax_R_push (M := M) hK hP1 hD1 (fun _ _ h => h) hc hi hcl hfr h9 hnd (fun _ _ => Iff.rfl) (fun f' o' j z => if_neg z) (fun f' o' j z => if_neg z) (fun f' o' z => if_neg z) ?_ (fun hl => by omega)
    refine ⟨ho, hok, (if_pos ⟨rfl, rfl⟩).symm, by simp [hN], fun k v hk => ?_⟩
    rw [List.getElem?_map] at hk
    have hkN : k < N := by
      by_cases z : k < N
      · exact z
      · rw [List.getElem?_eq_none (by simpa using Nat.le_of_not_lt z)] at hk
        cases hk
    rw [List.getElem?_range hkN] at hk
    cases hk
    unfold ax_fd
    split
    · rename_i y
      rw [show (ax_mk M f o ci).2.2.1 f o k = none from if_pos ⟨rfl, rfl⟩]
      exact ax_rt y
    · rename_i y
      exact ⟨0, ax_nt (by rw [← hN]; exact hkN) (by simpa using y), (if_pos ⟨rfl, rfl⟩).symm⟩
/-- an array of numbers -/
theorem aj_newA {f : Nat} {o x : Int} {at9 : ArrayType} (ho : ax_ob f = false) (hp : ax_hp f = true) (h9 : f ≠ 999) (ht : (ax_et f = .int ∧ at9 = .int) ∨ (ax_et f = .boolean ∧ at9 = .boolean) ∨ (ax_et f = .char ∧ at9 = .char)) (hx : 0 ≤ x ∧ x ≤ 100000) (hfr : ¬ M.1 f o) (hnd : ax_nd M) (hac : Cond.arrayClass (ax_et f) ∈ ax_GT) (hR : kc + 1 ≤ R.cells ∧ ks + x.toNat ≤ R.slots) (h : decode cc pc = .ok (.newarray at9, 2))
    (kk : ax_J own cc nL scr R p0 Q (kc + 1) (ks + x.toNat) (pc + 2) la (.inr (.inr (some (f, o))) :: st) (ax_mk M f o x)) : ax_J own cc nL scr R p0 Q kc ks pc la (.inl x :: st) M := by
  intro p l e s m args below meth c N0 D QQ ad0 C0 hret ad ls rs H locs Z L S
  obtain ⟨y, rs, rfl, hy, Sz⟩ := ax_st_i S
  subst hy
  obtain ⟨ws, tys, hK, hP, hD, hc, hi, hcl⟩ := Z.2.2.1
  have hty : newarray.typeOf at9 = ax_et f := by rcases ht with ⟨e, rfl⟩ | ⟨e, rfl⟩ | ⟨e, rfl⟩ <;> rw [e] <;> rfl
  have hdv : defaultValue (ax_et f) = .int 0 := by rcases ht with ⟨e, -⟩ | ⟨e, -⟩ | ⟨e, -⟩ <;> rw [e] <;> rfl
  have hcb : componentBytes (ax_et f) ≤ 4 := by rcases ht with ⟨e, -⟩ | ⟨e, -⟩ | ⟨e, -⟩ <;> rw [e] <;> decide
  have hrk : refKind (ax_et f) = false := by rcases ht with ⟨e, -⟩ | ⟨e, -⟩ | ⟨e, -⟩ <;> rw [e] <;> rfl
  have hcl9 := ax_cl hx.1
  have hN : y.toNatClampNeg = y.toInt.toNat := rfl
  refine va_newa (ty := ax_et f) (N' := y.toInt.toNat) (a0 := (y.toInt.toNat, .inl (fun _ => 0))) C0.1 C0.2.1 (by rw [hty]; exact C0.2.2.2.2.1 _ hac) hty hK hP hD Z.2.2.2 (fun q hq => Nat.le_trans C0.2.2.2.2.2.1 hq) (fun cA => by rw [vp_cell_i, hdv]) ?_ hN ?_ hR.1 hR.2 h (fun q cA H1 hK1 hP1 hD1 hS1 => ?_)
  · intro hlt
    have := Int32.lt_iff_toInt_lt.mp hlt
    simp at this
    omega
  · have := Nat.mul_le_mul_left y.toInt.toNat hcb
    omega
  · obtain ⟨z1, z2, z3⟩ := ax_Zp (M' := ax_mk M f o y.toInt) (q := q) Z hfr hp (fun _ _ => Iff.rfl)
    refine kk p l e s m args below meth c N0 D QQ ad0 C0 hret (ax_ad ad f o q) _ _ H1 _ ⟨z1, z2, ?_, hS1⟩ (ax_lo_mono z3 L) ⟨⟨Or.inl ⟨rfl, rfl⟩, by rw [ax_ad_s]⟩, ax_st_mono z3 Sz⟩
    refine ax_R_push (M := M) (tys' := tys ++ [(cA, ax_et f)]) hK1 hP1 hD1 (fun t0 x hx => by rw [List.getElem?_append_left (List.getElem?_eq_some_iff.mp hx).1]; exact hx) hc hi hcl hfr h9 hnd (fun _ _ => Iff.rfl) (fun f' o' j z => if_neg z) (fun f' o' j z => if_neg z) (fun f' o' z => if_neg z) ?_ (fun _ => ho)
    refine ⟨ho, ⟨tys.length, by simp⟩, hrk, ?_, by omega, fun j hj => (if_pos ⟨rfl, rfl⟩).symm⟩
    rw [show (ax_mk M f o y.toInt).2.2.2 f o = y.toInt from if_pos ⟨rfl, rfl⟩]
    omega
/-- an array of references -/
theorem aj_newQ {f idx : Nat} {o x : Int} {E : String} (ho : ax_ob f = false) (hp : ax_hp f = true) (h9 : f ≠ 999) (het : ax_et f = .object E) (hao : ∀ (s : State) (ad : Nat → Int → Nat) (N0 : Nat), ax_Kc s ad N0 → va_AO E s) (hx : 0 ≤ x ∧ x ≤ 100000) (hfr : ¬ M.1 f o) (hnd : ax_nd M) (hlk : Cond.classLink (ax_nm own) idx E ∈ ax_GT) (hR : kc + 1 ≤ R.cells ∧ ks + x.toNat ≤ R.slots) (h : decode cc pc = .ok (.anewarray idx, 3))
    (kk : ax_J own cc nL scr R p0 Q (kc + 1) (ks + x.toNat) (pc + 3) la (.inr (.inr (some (f, o))) :: st) (ax_mk M f o x)) : ax_J own cc nL scr R p0 Q kc ks pc la (.inl x :: st) M := by
  intro p l e s m args below meth c N0 D QQ ad0 C0 hret ad ls rs H locs Z L S
  obtain ⟨y, rs, rfl, hy, Sz⟩ := ax_st_i S
  subst hy
  obtain ⟨ws, tys, hK, hP, hD, hc, hi, hcl⟩ := Z.2.2.1
  have hN : y.toNatClampNeg = y.toInt.toNat := rfl
  refine va_newq (N' := y.toInt.toNat) C0.1 C0.2.1 C0.2.2.2.1 (C0.2.2.2.2.1 _ hlk) (hao _ _ _ C0.2.2.2.2.2.2.1) hK hP hD Z.2.2.2 (fun q hq => Nat.le_trans C0.2.2.2.2.2.1 hq) ?_ hN (by omega) hR.1 hR.2 h (fun q cA H1 hK1 hP1 hD1 hS1 => ?_)
  · intro hlt
    have := Int32.lt_iff_toInt_lt.mp hlt
    simp at this
    omega
  · obtain ⟨z1, z2, z3⟩ := ax_Zp (M' := ax_mk M f o y.toInt) (q := q) Z hfr hp (fun _ _ => Iff.rfl)
    refine kk p l e s m args below meth c N0 D QQ ad0 C0 hret (ax_ad ad f o q) _ _ H1 _ ⟨z1, z2, ?_, hS1⟩ (ax_lo_mono z3 L) ⟨⟨Or.inl ⟨rfl, rfl⟩, by rw [ax_ad_s]⟩, ax_st_mono z3 Sz⟩
    refine ax_R_push (M := M) (tys' := tys ++ [(cA, .object E)]) hK1 hP1 hD1 (fun t0 x hx => by rw [List.getElem?_append_left (List.getElem?_eq_some_iff.mp hx).1]; exact hx) hc hi hcl hfr h9 hnd (fun _ _ => Iff.rfl) (fun f' o' j z => if_neg z) (fun f' o' j z => if_neg z) (fun f' o' z => if_neg z) ?_ (fun _ => ho)
    refine ⟨ho, ⟨tys.length, E, het, by simp⟩, ?_, by omega, fun j hj => ?_⟩
    · rw [show (ax_mk M f o y.toInt).2.2.2 f o = y.toInt from if_pos ⟨rfl, rfl⟩]
      omega
    · rw [show (ax_mk M f o y.toInt).2.2.1 f o j = none from if_pos ⟨rfl, rfl⟩]
      rfl
/-- a reference into an array of references -/
theorem aj_aast {f g ci : Nat} {o i u : Int} {E : String} {q9 : vw_C} (ho : ax_ob f = false) (hp : ax_hp f = true) (het : ax_et f = .object E) (hg : ax_ob g = true) (hci : ∀ c' : Nat, ax_ok g c' = true → (c' : Int) = M.2.2.2 g u → c' = ci) (hq9 : vwCl[ci]? = some q9) (hca : q9.1 = E ∨ (q9.1, E) ∈ ax_yes) (hin : 0 ≤ i ∧ i < M.2.2.2 f o) (h : decode cc pc = .ok (.aastore, 1)) (kk : ax_J own cc nL scr R p0 Q kc ks (pc + 1) la st (ax_uR M f o i (some (g, u)))) : ax_J own cc nL scr R p0 Q kc ks pc la (.inr (.inr (some (g, u))) :: .inl i :: .inr (.inr (some (f, o))) :: st) M := by
  intro p l e s m args below meth c N0 D QQ ad0 C hret ad ls rs H locs Z L S
  obtain ⟨wsa, ea, hmg, Sa⟩ := ax_st_r S
  obtain ⟨y, ws0, e0, hy, S0⟩ := ax_st_i Sa
  obtain ⟨ws1, e1, hm, S1⟩ := ax_st_r S0
  subst e1
  subst e0
  subst ea
  subst hy
  obtain ⟨ws, tys, hK, hP, hD, hc, hi, hcl⟩ := Z.2.2.1
  obtain ⟨q0, en, h1, h2⟩ := hc f o hm hp
  obtain ⟨qk, en2, b1, b2⟩ := hc g u hmg (ax_hp_ob hg)
  obtain ⟨c', fs, rfl, d3, d4, d5, d6⟩ := ax_obj hg b2
  cases hci c' d3 d4
  obtain ⟨cA, n, gg, rfl, ⟨t0, h3⟩, h4, h5, h6⟩ := ax_arrQ ho het h2
  have hin0 := hin
  rw [← h4] at hin
  have hcl0 := ax_cl hin.1
  have fin : ∀ (H1 : Heap) (locs1 : List Loc), va_P D vwCl (ws.set q0 (ad f o, .inl (cA, n, .inr (.inr (.inr (.inr (va_up gg y.toNatClampNeg (some (ad g u))))))))) H1 → va_D (fun q => N0 ≤ q) (ws.set q0 (ad f o, .inl (cA, n, .inr (.inr (.inr (.inr (va_up gg y.toNatClampNeg (some (ad g u))))))))) → va_S (fun q => N0 ≤ q) s.heap H1 locs1 → W p l e R s m args below meth c H1 locs1 kc ks QQ (F0 m (pc + 1) ls ws1) := by
    intro H1 locs1 hP1 hD1 hS1
    refine kk p l e s m args below meth c N0 D QQ ad0 C hret ad _ _ _ _ ⟨Z.1, Z.2.1, ?_, hS1⟩ L (ax_st_uR S1)
    refine ax_R_set (M := M) hK hP1 hD hD1 hc hi ?_ h1 hm hp rfl (fun f' o' j hne => rfl) (fun f' o' j hne => ax_u3_n (fun q => hne ⟨q.1, q.2.1⟩)) (fun _ _ => rfl) ?_
    · intro f' o' hf' hl' ho' k' hk' hN'
      have h9 := hcl f' o' hf' hl' ho' k' hk' hN'
      refine ⟨?_, h9.2⟩
      rw [show (ax_uR M f o y.toInt (some (g, u))).2.2.1 f' o' k' = M.2.2.1 f' o' k' from ax_u3_n (fun z => by rw [z.1, ho] at ho'; cases ho')]
      exact h9.1
    · refine ⟨ho, ⟨t0, E, het, h3⟩, h4, h5, fun j hj => ?_⟩
      by_cases ej : j = y.toNatClampNeg
      · subst ej
        rw [show (ax_uR M f o y.toInt (some (g, u))).2.2.1 f o ((y.toNatClampNeg : Nat) : Int) = some (g, u) by rw [hcl0]; exact ax_u3_s]
        intro _
        simp [va_up, va_rf]
      · rw [show (ax_uR M f o y.toInt (some (g, u))).2.2.1 f o j = M.2.2.1 f o j from ax_u3_n (fun q => ej (by have := q.2.2; omega))]
        rw [show va_up gg y.toNatClampNeg (some (ad g u)) j = gg j from if_neg ej]
        exact h6 j hj
  rcases hca with hca | hca
  · exact va_astq (r := q9) C.1 C.2.1 hK hP hD Z.2.2.2 q0 t0 qk ci h1 (by rw [hca]; exact h3) b1 hq9 (ax_vpin hin) h fin
  · exact va_astqO (r := q9) C.1 C.2.1 hK hP hD Z.2.2.2 q0 t0 qk ci h1 h3 (C.2.2.2.2.2.2.1.2.2.2.1 _ hca) b1 hq9 (ax_vpin hin) h fin
/-- fewer things, and what led to those that go leads nowhere -/
def ax_pv (P : Nat → Int → Prop) (v : ax_V) : Prop := match v with
  | .inr (.inr (some q)) => P q.1 q.2
  | _ => True
theorem ax_w_drop {M M' : ax_Mm} {ad : Nat → Int → Nat} {v : ax_V} {w : Value} (hv : ax_pv M'.1 v) (h : ax_w M ad v w) : ax_w M' ad v w := by
  rcases v with x | x | _ | q
  · exact h
  · exact h
  · exact h
  · exact ⟨hv, h.2⟩
theorem ax_st_drop {M M' : ax_Mm} {ad : Nat → Int → Nat} : ∀ {st : List ax_V} {rs : List Value}, (∀ v ∈ st, ax_pv M'.1 v) → ax_st M ad st rs → ax_st M' ad st rs
  | [], [], _, _ => trivial
  | _ :: _, _ :: _, hv, hs => ⟨ax_w_drop (hv _ List.mem_cons_self) hs.1, ax_st_drop (fun v hm => hv v (List.mem_cons_of_mem _ hm)) hs.2⟩
  | [], _ :: _, _, hs => hs.elim
  | _ :: _, [], _, hs => hs.elim
theorem ax_lo_drop {M M' : ax_Mm} {ad : Nat → Int → Nat} {nL : Nat} {la : List (Option ax_V)} {ls : Array Slot} (hv : ∀ v, some v ∈ la → ax_pv M'.1 v) (L : ax_lo M ad nL la ls) : ax_lo M' ad nL la ls := by
  obtain ⟨h1, lv, h2, h3⟩ := L
  refine ⟨h1, lv, h2, fun i v hi => ?_⟩
  obtain ⟨w, h4, h5⟩ := h3 i v hi
  exact ⟨w, h4, ax_w_drop (hv v (List.mem_of_getElem? hi)) h5⟩
theorem aj_drop {P' : Nat → Int → Prop} {r' : Nat → Int → Int → Option (Nat × Int)} (hP : ∀ f o, P' f o → M.1 f o) (hp : ∀ f o, p0 f o → P' f o) (hc : ∀ f o, P' f o → f < 1000 → ax_ob f = true → ∀ k : Nat, ax_isA f k = true → k < ax_N f → P' (ax_sb f + k) o) (hr : ∀ f o j, P' f o → r' f o j = M.2.2.1 f o j ∨ ∃ q, r' f o j = some q ∧ ¬ P' q.1 q.2) (hra : ∀ (f : Nat) (o : Int) (k : Nat), P' f o → ax_isA f k = true → f < 1000 → r' f o k = M.2.2.1 f o k) (hl : ∀ v, some v ∈ la → ax_pv P' v) (hs : ∀ v ∈ st, ax_pv P' v) (kk : ax_J own cc nL scr R p0 Q kc ks pc la st (P', M.2.1, r', M.2.2.2)) : ax_J own cc nL scr R p0 Q kc ks pc la st M := by
  intro p l e s m args below meth c N0 D QQ ad0 C hret ad ls rs H locs Z L S
  obtain ⟨ws, tys, hK, hPw, hD, hc0, hi, hcl⟩ := Z.2.2.1
  refine kk p l e s m args below meth c N0 D QQ ad0 C hret ad _ _ _ _ ⟨Z.1, hp, ⟨ws, tys, hK, hPw, hD, ?_, fun a b c d ha hb => hi a b c d (hP _ _ ha) (hP _ _ hb), ?_⟩, Z.2.2.2⟩ (ax_lo_drop hl L) (ax_st_drop hs S)
  · intro f o hm hh
    obtain ⟨q0, en, h1, h2⟩ := hc0 f o (hP _ _ hm) hh
    refine ⟨q0, en, h1, ?_⟩
    have hrf : ∀ (j : Int) (v : Value), ax_ref M ad (M.2.2.1 f o j) v → ax_ref (P', M.2.1, r', M.2.2.2) ad (r' f o j) v := by
      intro j v hv
      rcases hr f o j hm with z | ⟨q, z1, z2⟩
      · rw [z]
        cases hq : M.2.2.1 f o j with
        | none => rw [hq] at hv; exact hv
        | some q => rw [hq] at hv; exact fun hx => hv (hP _ _ hx)
      · rw [z1]
        exact fun hx => absurd hx z2
    rcases en with ⟨cA, n, g | g | g | g | g⟩ | ⟨ci, fs⟩
    · exact h2
    · exact h2.elim
    · exact h2.elim
    · exact h2.elim
    · obtain ⟨a1, a2, a4, a5, a6⟩ := h2
      exact ⟨a1, a2, a4, a5, fun j hj => hrf j _ (a6 j hj)⟩
    · obtain ⟨a1, a2, a3, a4, a5⟩ := h2
      refine ⟨a1, a2, a3, a4, fun k v hk => ?_⟩
      have h7 := a5 k v hk
      unfold ax_fd at h7 ⊢
      split
      · rename_i z
        rw [if_pos z] at h7
        exact hrf k v h7
      · rename_i z
        rw [if_neg z] at h7
        exact h7
  · intro f o hm hl' ho k hk hN
    exact ⟨by show r' f o k = _; rw [hra f o k hm hk hl']; exact (hcl f o (hP _ _ hm) hl' ho k hk hN).1, hc f o hm hl' ho k hk hN⟩
end AN
