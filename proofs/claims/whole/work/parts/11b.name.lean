/-- a made thing takes its name: from f + 1000 to f -/
def ax_rn (M : ax_Mm) (f : Nat) (o : Int) : ax_Mm := (fun f' o' => (f' = f ∧ o' = o) ∨ (M.1 f' o' ∧ ¬ (f' = f + 1000 ∧ o' = o)), fun f' o' j => if f' = f ∧ o' = o then M.2.1 (f + 1000) o j else M.2.1 f' o' j, fun f' o' j => if f' = f ∧ o' = o then M.2.2.1 (f + 1000) o j else M.2.2.1 f' o' j, fun f' o' => if f' = f ∧ o' = o then M.2.2.2 (f + 1000) o else M.2.2.2 f' o')
/-- no reference leads to the things of a family -/
def ax_nr (M : ax_Mm) (F : Nat) (o : Int) : Prop := ∀ (f : Nat) (o' j : Int), M.1 f o' → M.2.2.1 f o' j ≠ some (F, o)
def ax_nvf (F : Nat) (v : ax_V) : Bool := match v with
  | .inr (.inr (some q)) => !(q.1 == F)
  | _ => true
theorem ax_nd_rn {M : ax_Mm} {f : Nat} {o : Int} (h : ax_nd M) (hn : ax_nr M (f + 1000) o) (hm : M.1 (f + 1000) o) : ax_nd (ax_rn M f o) := by
  intro f' o' j q hp hq
  change (if f' = f ∧ o' = o then M.2.2.1 (f + 1000) o j else M.2.2.1 f' o' j) = some q at hq
  have key : ∀ f2 o2, M.1 f2 o2 → M.2.2.1 f2 o2 j = some q → (ax_rn M f o).1 q.1 q.2 ∨ q = (999, 0) := by
    intro f2 o2 h2 hw
    rcases h f2 o2 j q h2 hw with y | y
    · refine Or.inl (Or.inr ⟨y, fun z => hn f2 o2 j h2 ?_⟩)
      rw [hw, ← z.1, ← z.2]
    · exact Or.inr y
  split at hq
  · exact key _ _ hm hq
  · rename_i z
    exact key _ _ (hp.resolve_left z).1 hq
section AN
variable {own : Nat} {cc : ByteArray} {nL : Nat} {scr : Option (Nat × (Nat → Int32))} {R : Room} {p0 : Nat → Int → Prop} {Q : ax_Q} {kc ks pc : Nat} {la : List (Option ax_V)} {st : List ax_V} {M : ax_Mm}
set_option maxRecDepth 100000 in
theorem aj_name {f : Nat} {o : Int} (hl : f < 1000) (ho : ax_ob f = true) (hm : M.1 (f + 1000) o) (hfr : ¬ M.1 f o) (hp : ¬ p0 (f + 1000) o) (hnd : ax_nd M) (hnr : ax_nr M (f + 1000) o) (h9 : f ≠ 999) (hA : ∀ k : Nat, ax_isA f k = true → k < ax_N f → M.2.2.1 (f + 1000) o k = some (ax_sb f + k, o) ∧ M.1 (ax_sb f + k) o)
    (hla : ∀ v, some v ∈ la → ax_nvf (f + 1000) v = true) (hst : ∀ v ∈ st, ax_nvf (f + 1000) v = true) (kk : ax_J own cc nL scr R p0 Q kc ks pc la (.inr (.inr (some (f, o))) :: st) (ax_rn M f o)) : ax_J own cc nL scr R p0 Q kc ks pc la (.inr (.inr (some (f + 1000, o))) :: st) M := by
  intro p l e s m args below meth c N0 D QQ ad0 C hret ad ls rs H locs Z L S
  obtain ⟨rs1, rfl, -, S1⟩ := ax_st_r S
  obtain ⟨ws, tys, hK, hPw, hD, hc, hi, hcl⟩ := Z.2.2.1
  have ho' : ax_ob (f + 1000) = true := by rw [← ax_ob_mod] at ho ⊢; rw [show (f + 1000) % 1000 = f % 1000 by omega]; exact ho
  have hne : ∀ f' o', M.1 f' o' → ¬ (f' = f ∧ o' = o) := fun f' o' hx z => hfr (by rw [← z.1, ← z.2]; exact hx)
  have hmono : ∀ f' o', M.1 f' o' → ¬ (f' = f + 1000 ∧ o' = o) → (ax_rn M f o).1 f' o' ∧ ax_ad ad f o (ad (f + 1000) o) f' o' = ad f' o' := fun f' o' hx hz => ⟨Or.inr ⟨hx, hz⟩, ax_ad_n (hne f' o' hx)⟩
  have hw : ∀ (v : ax_V) (w : Value), ax_nvf (f + 1000) v = true → ax_w M ad v w → ax_w (ax_rn M f o) (ax_ad ad f o (ad (f + 1000) o)) v w := by
    intro v w hv hx
    rcases v with x | x | _ | q
    · exact hx
    · exact hx
    · exact hx
    · have hz : ¬ (q.1 = f + 1000 ∧ q.2 = o) := fun z => by
        simp [ax_nvf, z.1] at hv
      obtain ⟨y1, y2⟩ := hmono q.1 q.2 hx.1 hz
      exact ⟨y1, by rw [y2]; exact hx.2⟩
  have hst' : ∀ {st : List ax_V} {rs : List Value}, (∀ v ∈ st, ax_nvf (f + 1000) v = true) → ax_st M ad st rs → ax_st (ax_rn M f o) (ax_ad ad f o (ad (f + 1000) o)) st rs := by
    intro st
    induction st with
    | nil => intro rs _ h; cases rs with
      | nil => trivial
      | cons _ _ => exact h.elim
    | cons v st ih => intro rs hv h; cases rs with
      | nil => exact h.elim
      | cons w rs => exact ⟨hw v w (hv _ List.mem_cons_self) h.1, ih (fun v hm => hv v (List.mem_cons_of_mem _ hm)) h.2⟩
  refine kk p l e s m args below meth c N0 D QQ ad0 C hret (ax_ad ad f o (ad (f + 1000) o)) ls (.ref (ad (f + 1000) o) :: rs1) H locs ⟨?_, ?_, ⟨ws, tys, hK, hPw, hD, ?_, ?_, ?_⟩, Z.2.2.2⟩ ?_ ⟨⟨Or.inl ⟨rfl, rfl⟩, by rw [ax_ad_s]⟩, hst' hst S1⟩
  · intro f' o' hx
    rw [ax_ad_n]
    · exact Z.1 f' o' hx
    · rintro ⟨rfl, rfl⟩
      rcases hx with hx | hx
      · exact hfr (Z.2.1 _ _ hx)
      · rw [ax_hp_ob ho] at hx
        cases hx
  · intro f' o' hx
    exact (hmono f' o' (Z.2.1 _ _ hx) (fun z => hp (by rw [← z.1, ← z.2]; exact hx))).1
  · intro f' o' hx hh
    by_cases z : f' = f ∧ o' = o
    · obtain ⟨rfl, rfl⟩ := z
      obtain ⟨q0, en, a1, a2⟩ := hc (f' + 1000) o' hm (ax_hp_ob ho')
      refine ⟨q0, en, by rw [ax_ad_s]; exact a1, ?_⟩
      obtain ⟨ci, fs, rfl, b1, b2, b3, b4⟩ := ax_obj ho' a2
      have hmod : (f' + 1000) % 1000 = f' % 1000 := by omega
      refine ⟨ho, ?_, ?_, ?_, fun k v hk => ?_⟩
      · show ax_ok f' ci = true
        rw [← ax_ok_mod, hmod, ax_ok_mod] at b1
        exact b1
      · show (ci : Int) = if f' = f' ∧ o' = o' then _ else _
        rw [if_pos ⟨rfl, rfl⟩]
        exact b2
      · show fs.length = ax_N f'
        rw [b3, ← ax_N_mod, hmod, ax_N_mod]
      · have h7 := b4 k v hk
        have eR : ax_isR (f' + 1000) k = ax_isR f' k := by
          unfold ax_isR
          rw [← ax_ty_mod, hmod, ax_ty_mod]
        unfold ax_fd at h7 ⊢
        rw [eR] at h7
        rw [show (ax_rn M f' o').2.2.1 f' o' k = M.2.2.1 (f' + 1000) o' k from if_pos ⟨rfl, rfl⟩, show (ax_rn M f' o').2.1 f' o' k = M.2.1 (f' + 1000) o' k from if_pos ⟨rfl, rfl⟩]
        split
        · rename_i y
          rw [if_pos y] at h7
          cases hq : M.2.2.1 (f' + 1000) o' k with
          | none => rw [hq] at h7; exact h7
          | some q =>
            rw [hq] at h7
            intro hxq
            rcases hnd (f' + 1000) o' k q hm hq with y2 | y2
            · have hz : ¬ (q.1 = f' + 1000 ∧ q.2 = o') := fun z => hnr _ _ k hm (by rw [hq, ← z.1, ← z.2])
              rw [(hmono q.1 q.2 y2 hz).2]
              exact h7 y2
            · rw [y2] at hxq
              rcases hxq with z | z
              · exact absurd z.1.symm h9
              · have := h7 (by rw [y2]; exact z.1)
                rw [ax_ad_n (hne q.1 q.2 (by rw [y2]; exact z.1))]
                exact this
        · rename_i y
          rw [if_neg y] at h7
          exact h7
    · have hx' := hx.resolve_left z
      obtain ⟨q0, en, a1, a2⟩ := hc f' o' hx'.1 hh
      refine ⟨q0, en, by rw [(hmono f' o' hx'.1 hx'.2).2]; exact a1, ax_E_mv (fun _ _ h => h) (fun j => if_neg z) (fun j => if_neg z) (if_neg z) ?_ a2⟩
      intro j q hq hxq
      have hz : ¬ (q.1 = f + 1000 ∧ q.2 = o) := fun w => hnr f' o' j hx'.1 (by rw [hq, ← w.1, ← w.2])
      rcases hnd f' o' j q hx'.1 hq with y | y
      · exact ⟨y, (hmono _ _ y hz).2⟩
      · rcases hxq with w | w
        · rw [y] at w
          exact absurd w.1.symm h9
        · exact ⟨w.1, (hmono _ _ w.1 hz).2⟩
  · intro a b d d' ha hb hha hhb hab
    have hlift : ∀ f' o', (ax_rn M f o).1 f' o' → ∃ f2 o2, M.1 f2 o2 ∧ ax_hp f2 = true ∧ ax_ad ad f o (ad (f + 1000) o) f' o' = ad f2 o2 ∧ ((f' = f ∧ o' = o ∧ f2 = f + 1000 ∧ o2 = o) ∨ (f' = f2 ∧ o' = o2 ∧ ¬ (f2 = f + 1000 ∧ o2 = o))) ∨ ax_hp f' = false := by
      intro f' o' hx
      by_cases z : f' = f ∧ o' = o
      · exact ⟨f + 1000, o, Or.inl ⟨hm, ax_hp_ob ho', by rw [z.1, z.2, ax_ad_s], Or.inl ⟨z.1, z.2, rfl, rfl⟩⟩⟩
      · have hx' := hx.resolve_left z
        cases hh : ax_hp f' with
        | true => exact ⟨f', o', Or.inl ⟨hx'.1, hh, (hmono f' o' hx'.1 hx'.2).2, Or.inr ⟨rfl, rfl, hx'.2⟩⟩⟩
        | false => exact ⟨f', o', Or.inr rfl⟩
    obtain ⟨a2, d2, ha2⟩ := hlift a d ha
    obtain ⟨b2, d2', hb2⟩ := hlift b d' hb
    rcases ha2 with ⟨x1, x2, x3, x4⟩ | x
    · rcases hb2 with ⟨y1, y2, y3, y4⟩ | y
      · rw [x3, y3] at hab
        have := hi a2 b2 d2 d2' x1 y1 x2 y2 hab
        rcases x4 with ⟨e1, e2, e3, e4⟩ | ⟨e1, e2, e3⟩ <;> rcases y4 with ⟨g1, g2, g3, g4⟩ | ⟨g1, g2, g3⟩
        · exact ⟨e1.trans g1.symm, e2.trans g2.symm⟩
        · exact absurd ⟨this.1.symm.trans e3, this.2.symm.trans e4⟩ g3
        · exact absurd ⟨this.1.trans g3, this.2.trans g4⟩ e3
        · exact ⟨e1.trans (this.1.trans g1.symm), e2.trans (this.2.trans g2.symm)⟩
      · rw [hhb] at y
        cases y
    · rw [hha] at x
      cases x
  · intro f' o' hx hl' hob k hk hN
    by_cases z : f' = f ∧ o' = o
    · obtain ⟨rfl, rfl⟩ := z
      obtain ⟨y1, y2⟩ := hA k hk hN
      refine ⟨(if_pos ⟨rfl, rfl⟩).trans y1, Or.inr ⟨y2, fun z => ?_⟩⟩
      have hsb : ax_sb f' ≤ 700 := by unfold ax_sb; split <;> omega
      have hNb : ax_N f' ≤ 59 := by unfold ax_N; split <;> omega
      omega
    · have hx' := hx.resolve_left z
      obtain ⟨y1, y2⟩ := hcl f' o' hx'.1 hl' hob k hk hN
      refine ⟨(if_neg z).trans y1, Or.inr ⟨y2, fun z => ?_⟩⟩
      have hsb : ax_sb f' ≤ 700 := by unfold ax_sb; split <;> omega
      have hNb : ax_N f' ≤ 59 := by unfold ax_N; split <;> omega
      omega
  · obtain ⟨h1, lv, h2, h3⟩ := L
    refine ⟨h1, lv, h2, fun i v hi => ?_⟩
    obtain ⟨w, h4, h5⟩ := h3 i v hi
    exact ⟨w, h4, hw v w (hla v (List.mem_of_getElem? hi)) h5⟩
/-- System.arraycopy of ints -/
def ax_cp (M : ax_Mm) (f : Nat) (o : Int) (f2 : Nat) (o2 sp dp n : Int) : ax_Mm := (M.1, fun f' o' j => if (f' = f2 ∧ o' = o2) ∧ dp ≤ j ∧ j < dp + n then M.2.1 f o (sp + (j - dp)) else M.2.1 f' o' j, M.2.2.1, M.2.2.2)
theorem aj_copy {idx f f2 : Nat} {o o2 sp dp n : Int} (hl : Cond.methodLink (ax_nm own) idx arraycopyName ∈ ax_GT) (hnat : Cond.native arraycopyName ∈ ax_GT) (hst : Cond.static arraycopyName ∈ ax_GT) (hini : Cond.initialized "java/lang/System" ∈ ax_GT) (ho : ax_ob f = false) (hp : ax_hp f = true) (ho2 : ax_ob f2 = false) (hp2 : ax_hp f2 = true) (ht : ax_et f = .int) (ht2 : ax_et f2 = .int) (hn : 0 ≤ n) (h1 : 0 ≤ sp ∧ sp + n ≤ M.2.2.2 f o) (h2 : 0 ≤ dp ∧ dp + n ≤ M.2.2.2 f2 o2) (hR : 1 ≤ R.frames ∧ 64 ≤ R.locals) (hz : ax_sz st ≤ 8) (h : decode cc pc = .ok (.invokestatic idx, 3))
    (kk : ax_J own cc nL scr R p0 Q kc ks (pc + 3) la st (ax_cp M f o f2 o2 sp dp n)) : ax_J own cc nL scr R p0 Q kc ks pc la (.inl n :: .inl dp :: .inr (.inr (some (f2, o2))) :: .inl sp :: .inr (.inr (some (f, o))) :: st) M := by
  intro p l e s m args below meth c N0 D QQ ad0 C hret ad ls rs H locs Z L S
  obtain ⟨yn, r1, rfl, hyn, S1⟩ := ax_st_i S
  obtain ⟨yd, r2, rfl, hyd, S2⟩ := ax_st_i S1
  obtain ⟨r3, rfl, hm2, S3⟩ := ax_st_r S2
  obtain ⟨ys, r4, rfl, hys, S4⟩ := ax_st_i S3
  obtain ⟨r5, rfl, hm1, S5⟩ := ax_st_r S4
  subst hyn
  subst hyd
  subst hys
  obtain ⟨ws, tys, hK, hP, hD, hc, hi, hcl⟩ := Z.2.2.1
  obtain ⟨q0, en, a1, a2⟩ := hc f o hm1 hp
  obtain ⟨q1, en1, b1, b2⟩ := hc f2 o2 hm2 hp2
  obtain ⟨cA, n0, g0, rfl, ⟨t0, a3⟩, a4, a5, a6⟩ := ax_arr ho (by rw [ht]; rfl) a2
  obtain ⟨cB, n1, g1, rfl, ⟨t1, b3⟩, b4, b5, b6⟩ := ax_arr ho2 (by rw [ht2]; rfl) b2
  rw [ht] at a3
  rw [ht2] at b3
  rw [← a4] at h1
  rw [← b4] at h2
  have cn := ax_cl hn
  have cs := ax_cl h1.1
  have cd := ax_cl h2.1
  have nl : ∀ z : Int32, 0 ≤ z.toInt → ¬ z < 0 := by
    intro z hz hlt
    have := Int32.lt_iff_toInt_lt.mp hlt
    simp at this
    omega
  refine va_copyi C.1 C.2.1 (by rw [C.2.2.1]; exact L.2.choose_spec.1.1.symm) C.2.2.2.1 (C.2.2.2.2.1 _ hl) (C.2.2.2.2.1 _ hnat) (C.2.2.2.2.1 _ hst) (C.2.2.2.2.1 _ hini) hK hP hD Z.2.2.2 q0 q1 t0 t1 a1 b1 a3 b3 rfl (nl _ h1.1) (nl _ h2.1) (nl _ hn) (by omega) (by omega) (fun i _ => by simp [fits]) hR.1 ?_ h (fun H1 locs1 hP1 hD1 hS1 => ?_)
  · have := ax_st_sz S5
    have := hR.2
    simp [nativeFrameWords]
    omega
  · refine kk p l e s m args below meth c N0 D QQ ad0 C hret ad _ _ _ _ ⟨Z.1, Z.2.1, ?_, hS1⟩ L (ax_st_mono (M := M) (M' := ax_cp M f o f2 o2 ys.toInt yd.toInt yn.toInt) (fun _ _ h => ⟨h, rfl⟩) S5)
    refine ax_R_set (M := M) (M' := ax_cp M f o f2 o2 ys.toInt yd.toInt yn.toInt) hK hP1 hD hD1 hc hi hcl b1 hm2 hp2 rfl (fun f' o' j hne => if_neg (fun z => hne z.1)) (fun f' o' j hne => rfl) (fun _ _ => rfl) ?_
    refine ⟨ho2, ⟨t1, by rw [ht2]; exact b3⟩, by rw [ht2]; rfl, b4, b5, fun j hj => ?_⟩
    unfold va_cpy
    show _ = if (f2 = f2 ∧ o2 = o2) ∧ yd.toInt ≤ j ∧ (j : Int) < yd.toInt + yn.toInt then M.2.1 f o (ys.toInt + (j - yd.toInt)) else M.2.1 f2 o2 j
    by_cases z : yd.toNatClampNeg ≤ j ∧ j < yd.toNatClampNeg + yn.toNatClampNeg
    · rw [if_pos z, if_pos ⟨⟨rfl, rfl⟩, by omega, by omega⟩, a6 _ (by omega)]
      exact congrArg (M.2.1 f o) (by omega)
    · rw [if_neg z, if_neg (fun w => z (by omega))]
      exact b6 j hj
/-- clone of an array of ints -/
theorem aj_clone {idx f f2 : Nat} {o o2 : Int} (hl : Cond.methodLink (ax_nm own) idx ⟨"[I", "clone", "()Ljava/lang/Object;"⟩ ∈ ax_GT) (hsm : Cond.sameMethod "[I" "java/lang/Object" "clone" "()Ljava/lang/Object;" ∈ ax_GT) (hnat : Cond.native ⟨"java/lang/Object", "clone", "()Ljava/lang/Object;"⟩ ∈ ax_GT) (hins : Cond.instanceMethod ⟨"java/lang/Object", "clone", "()Ljava/lang/Object;"⟩ ∈ ax_GT) (hsel : Cond.selects "[I" ⟨"[I", "clone", "()Ljava/lang/Object;"⟩ ⟨"java/lang/Object", "clone", "()Ljava/lang/Object;"⟩ ∈ ax_GT) (ho : ax_ob f = false) (hp : ax_hp f = true) (ho2 : ax_ob f2 = false) (hp2 : ax_hp f2 = true) (h9 : f2 ≠ 999) (ht : ax_et f = .int) (ht2 : ax_et f2 = .int) (hfr : ¬ M.1 f2 o2) (hnd : ax_nd M) (hR : 1 ≤ R.frames ∧ 64 ≤ R.locals) (hR2 : kc + 1 ≤ R.cells ∧ ks + (M.2.2.2 f o).toNat ≤ R.slots) (hz : ax_sz st ≤ 8) (h : decode cc pc = .ok (.invokevirtual idx, 3))
    (kk : ax_J own cc nL scr R p0 Q (kc + 1) (ks + (M.2.2.2 f o).toNat) (pc + 3) la (.inr (.inr (some (f2, o2))) :: st) (ax_cp (ax_mk M f2 o2 (M.2.2.2 f o)) f o f2 o2 0 0 (M.2.2.2 f o))) : ax_J own cc nL scr R p0 Q kc ks pc la (.inr (.inr (some (f, o))) :: st) M := by
  intro p l e s m args below meth c N0 D QQ ad0 C hret ad ls rs H locs Z L S
  obtain ⟨r5, rfl, hm1, S5⟩ := ax_st_r S
  obtain ⟨ws, tys, hK, hP, hD, hc, hi, hcl⟩ := Z.2.2.1
  obtain ⟨q0, en, a1, a2⟩ := hc f o hm1 hp
  obtain ⟨cA, n0, g0, rfl, ⟨t0, a3⟩, a4, a5, a6⟩ := ax_arr ho (by rw [ht]; rfl) a2
  rw [ht] at a3
  have hnm : s.vm.findClass "[I" = some cA := (hK.2 t0 _ a3).2
  have hne : ¬ (f = f2 ∧ o = o2) := fun z => hfr (by rw [← z.1, ← z.2]; exact hm1)
  have hn0 : (M.2.2.2 f o).toNat = n0 := by omega
  rw [hn0] at kk hR2
  refine va_clone C.1 C.2.1 (by rw [C.2.2.1]; exact L.2.choose_spec.1.1.symm) C.2.2.2.1 (C.2.2.2.2.1 _ hl) (C.2.2.2.2.1 _ hsm) (C.2.2.2.2.1 _ hnat) (C.2.2.2.2.1 _ hins) (C.2.2.2.2.1 _ hsel) C.2.2.2.2.2.2.1.2.2.2.2.2.1 hK hP hD Z.2.2.2 (fun q hq => Nat.le_trans C.2.2.2.2.2.1 hq) q0 t0 a1 a3 hnm ?_ hR.1 ?_ hR2.1 hR2.2 h (fun q H1 hK1 hP1 hD1 hS1 => ?_)
  · intro i v hv
    rw [vp_cell_i] at hv
    have : ∃ y : Int32, v = .int y := by
      by_cases hi : i < n0
      · simp [arrV, hi] at hv
        exact ⟨_, hv.symm⟩
      · simp [arrV, hi] at hv
    obtain ⟨y, rfl⟩ := this
    simp [fits]
  · have := ax_st_sz S5
    have := hR.2
    omega
  · obtain ⟨z1, z2, z3⟩ := ax_Zp (M' := ax_mk M f2 o2 (M.2.2.2 f o)) (q := q) Z hfr hp2 (fun _ _ => Iff.rfl)
    refine kk p l e s m args below meth c N0 D QQ ad0 C hret (ax_ad ad f2 o2 q) _ _ H1 _ ⟨z1, z2, ?_, hS1⟩ (ax_lo_mono z3 L) ⟨⟨Or.inl ⟨rfl, rfl⟩, by rw [ax_ad_s]⟩, ax_st_mono (M := M) (M' := ax_cp (ax_mk M f2 o2 (M.2.2.2 f o)) f o f2 o2 0 0 (M.2.2.2 f o)) z3 S5⟩
    refine ax_R_push (M := M) (tys' := tys ++ [(cA, .int)]) hK1 hP1 hD1 (fun t0 x hx => by rw [List.getElem?_append_left (List.getElem?_eq_some_iff.mp hx).1]; exact hx) hc hi hcl hfr h9 hnd (fun _ _ => Iff.rfl) (fun f' o' j z => (if_neg (fun w => z w.1)).trans (if_neg z)) (fun f' o' j z => if_neg z) (fun f' o' z => if_neg z) ?_ (fun _ => ho2)
    refine ⟨ho2, ⟨tys.length, by rw [ht2]; simp⟩, by rw [ht2]; rfl, ?_, a5, fun j hj => ?_⟩
    · show (n0 : Int) = if f2 = f2 ∧ o2 = o2 then M.2.2.2 f o else _
      rw [if_pos ⟨rfl, rfl⟩]
      exact a4
    · show (g0 j).toInt = if (f2 = f2 ∧ o2 = o2) ∧ 0 ≤ (j : Int) ∧ (j : Int) < 0 + M.2.2.2 f o then (if f = f2 ∧ o = o2 then 0 else M.2.1 f o (0 + ((j : Int) - 0))) else _
      rw [if_pos ⟨⟨rfl, rfl⟩, by omega, by omega⟩, if_neg hne, a6 j hj]
      exact congrArg (M.2.1 f o) (by omega)
/-- checkcast to what an array is -/
theorem aj_castI {idx f : Nat} {o : Int} (hl : Cond.classLink (ax_nm own) idx "[I" ∈ ax_GT) (ho : ax_ob f = false) (hp : ax_hp f = true) (ht : ax_et f = .int) (h : decode cc pc = .ok (.checkcast idx, 3)) (kk : ax_J own cc nL scr R p0 Q kc ks (pc + 3) la (.inr (.inr (some (f, o))) :: st) M) : ax_J own cc nL scr R p0 Q kc ks pc la (.inr (.inr (some (f, o))) :: st) M := by
  intro p l e s m args below meth c N0 D QQ ad0 C hret ad ls rs H locs Z L S
  have S0 := S
  obtain ⟨r5, rfl, hm1, S5⟩ := ax_st_r S
  obtain ⟨ws, tys, hK, hP, hD, hc, hi, hcl⟩ := Z.2.2.1
  obtain ⟨q0, en, a1, a2⟩ := hc f o hm1 hp
  obtain ⟨cA, n0, g0, rfl, ⟨t0, a3⟩, a4, a5, a6⟩ := ax_arr ho (by rw [ht]; rfl) a2
  rw [ht] at a3
  refine va_castE C.1 C.2.1 C.2.2.2.1 (C.2.2.2.2.1 _ hl) ⟨_, hP q0 _ a1, rfl, (hK.2 t0 _ a3).2⟩ h ?_
  exact kk p l e s m args below meth c N0 D QQ ad0 C hret ad _ _ _ _ Z L S0
/-- instanceof, by the class number -/
theorem aj_inst {idx f ci : Nat} {o : Int} {nm : String} {q : vw_C} (hl : Cond.classLink (ax_nm own) idx nm ∈ ax_GT) (hq : vwCl[ci]? = some q) (ho : ax_ob f = true) (hci : ∀ c' : Nat, ax_ok f c' = true → (c' : Int) = M.2.2.2 f o → c' = ci) (h : decode cc pc = .ok (.instanceof idx, 3)) (hy : q.1 = nm ∨ (q.1, nm) ∈ ax_yes) (kk : ax_J own cc nL scr R p0 Q kc ks (pc + 3) la (.inl 1 :: st) M) : ax_J own cc nL scr R p0 Q kc ks pc la (.inr (.inr (some (f, o))) :: st) M := by
  intro p l e s m args below meth c N0 D QQ ad0 C hret ad ls rs H locs Z L S
  obtain ⟨r5, rfl, hm1, S5⟩ := ax_st_r S
  have hr := ax_rcv Z.2.2.1 hm1 ho hci hq
  have fin := kk p l e s m args below meth c N0 D QQ ad0 C hret ad ls (.int 1 :: r5) H locs Z L ⟨⟨1, rfl, by decide⟩, S5⟩
  rcases hy with hy | hy
  · exact va_instE C.1 C.2.1 C.2.2.2.1 (C.2.2.2.2.1 _ hl) (by rw [← hy]; exact hr) h fin
  · exact va_instY C.1 C.2.1 C.2.2.2.1 (C.2.2.2.2.1 _ hl) (C.2.2.2.2.2.2.1.2.2.2.1 _ hy) hr h fin
theorem aj_instN {idx f ci : Nat} {o : Int} {nm : String} {q : vw_C} (hl : Cond.classLink (ax_nm own) idx nm ∈ ax_GT) (hq : vwCl[ci]? = some q) (ho : ax_ob f = true) (hci : ∀ c' : Nat, ax_ok f c' = true → (c' : Int) = M.2.2.2 f o → c' = ci) (h : decode cc pc = .ok (.instanceof idx, 3)) (hy : (q.1, nm) ∈ ax_not) (kk : ax_J own cc nL scr R p0 Q kc ks (pc + 3) la (.inl 0 :: st) M) : ax_J own cc nL scr R p0 Q kc ks pc la (.inr (.inr (some (f, o))) :: st) M := by
  intro p l e s m args below meth c N0 D QQ ad0 C hret ad ls rs H locs Z L S
  obtain ⟨r5, rfl, hm1, S5⟩ := ax_st_r S
  have hr := ax_rcv Z.2.2.1 hm1 ho hci hq
  exact va_instNo C.1 C.2.1 C.2.2.2.1 (C.2.2.2.2.1 _ hl) (C.2.2.2.2.2.2.1.2.2.2.2.1 _ hy) hr h (kk p l e s m args below meth c N0 D QQ ad0 C hret ad ls (.int 0 :: r5) H locs Z L ⟨⟨0, rfl, by decide⟩, S5⟩)
/-! String constants: family 91 the constants, 92 their bytes, 93 the formatter -/
def kB (o i : Int) : Int := ((ax_kbyt.getD o.toNat []).getD i.toNat 0).toInt
def kL (o : Int) : Int := ((ax_klen.getD o.toNat 0 : Nat) : Int)
theorem aj_ldcS {idx k : Nat} {q : String × Nat × String} (hk : ax_ks[k]? = some q) (e1 : q.1 = ax_nm own) (e2 : q.2.1 = idx) (hm : M.1 91 k) (h : decode cc pc = .ok (.ldc idx, 2)) (kk : ax_J own cc nL scr R p0 Q kc ks (pc + 2) la (.inr (.inr (some (91, (k : Int)))) :: st) M) : ax_J own cc nL scr R p0 Q kc ks pc la st M := by
  intro p l e s m args below meth c N0 D QQ ad0 C hret ad ls rs H locs Z L S
  have hZ := C.2.2.2.2.2.2.1.2.2.1 k q hk
  rw [e1, e2] at hZ
  exact va_ldcS C.1 C.2.1 C.2.2.2.1 hZ h (kk p l e s m args below meth c N0 D QQ ad0 C hret ad _ _ _ _ Z L ⟨⟨hm, by rw [Z.1 91 k (Or.inr rfl)]⟩, S⟩)
theorem aj_getsC {idx : Nat} (hl : Cond.fieldLink (ax_nm own) idx "java/lang/String" "COMPACT_STRINGS" "Z" ∈ ax_GT) (h : decode cc pc = .ok (.getstatic idx, 3)) (kk : ax_J own cc nL scr R p0 Q kc ks (pc + 3) la (.inl 1 :: st) M) : ax_J own cc nL scr R p0 Q kc ks pc la st M := by
  intro p l e s m args below meth c N0 D QQ ad0 C hret ad ls rs H locs Z L S
  exact va_gets C.1 C.2.1 C.2.2.2.2.2.2.1.2.1.1 Z.2.2.2 C.2.2.2.1 (C.2.2.2.2.1 _ hl) (fun _ h => h) h (kk p l e s m args below meth c N0 D QQ ad0 C hret ad _ _ _ _ Z L ⟨⟨1, rfl, by decide⟩, S⟩)
theorem aj_getsF {idx : Nat} (hl : Cond.fieldLink (ax_nm own) idx "jdk/internal/util/Preconditions" "SIOOBE_FORMATTER" "Ljava/util/function/BiFunction;" ∈ ax_GT) (hm : M.1 93 0) (h : decode cc pc = .ok (.getstatic idx, 3)) (kk : ∀ q9 : Option (Nat × Int), ax_J own cc nL scr R p0 Q kc ks (pc + 3) la (.inr (.inr q9) :: st) M) : ax_J own cc nL scr R p0 Q kc ks pc la st M := by
  intro p l e s m args below meth c N0 D QQ ad0 C hret ad ls rs H locs Z L S
  rcases C.2.2.2.2.2.2.1.2.1.2 with hz | hz
  · exact va_gets C.1 C.2.1 hz Z.2.2.2 C.2.2.2.1 (C.2.2.2.2.1 _ hl) (fun _ h => h) h (kk none p l e s m args below meth c N0 D QQ ad0 C hret ad _ _ _ _ Z L ⟨rfl, S⟩)
  · exact va_gets C.1 C.2.1 hz Z.2.2.2 C.2.2.2.1 (C.2.2.2.2.1 _ hl) (fun _ h => h) h (kk (some (93, 0)) p l e s m args below meth c N0 D QQ ad0 C hret ad _ _ _ _ Z L ⟨⟨hm, by rw [Z.1 93 0 (Or.inr rfl)]⟩, S⟩)
theorem aj_strC {idx : Nat} {o : Int} (hl : Cond.fieldLink (ax_nm own) idx "java/lang/String" "coder" "B" ∈ ax_GT) (ho : 0 ≤ o ∧ o < 13) (h : decode cc pc = .ok (.getfield idx, 3)) (kk : ax_J own cc nL scr R p0 Q kc ks (pc + 3) la (.inl 0 :: st) M) : ax_J own cc nL scr R p0 Q kc ks pc la (.inr (.inr (some (91, o))) :: st) M := by
  intro p l e s m args below meth c N0 D QQ ad0 C hret ad ls rs H locs Z L S
  obtain ⟨r5, rfl, hm1, S5⟩ := ax_st_r S
  have hk := (C.2.2.2.2.2.2.1.1.1 o.toNat (by omega)).2.1
  dsimp only at hk
  rw [show ((o.toNat : Nat) : Int) = o by omega, ← Z.1 91 o (Or.inr rfl)] at hk
  exact vk_getf C.1 C.2.1 hk Z.2.2.2 C.2.2.2.1 (C.2.2.2.2.1 _ hl) (fun _ h => h) h (kk p l e s m args below meth c N0 D QQ ad0 C hret ad _ _ _ _ Z L ⟨⟨0, rfl, by decide⟩, S5⟩)
theorem aj_strV {idx : Nat} {o : Int} (hl : Cond.fieldLink (ax_nm own) idx "java/lang/String" "value" "[B" ∈ ax_GT) (ho : 0 ≤ o ∧ o < 13) (hm : M.1 92 o) (h : decode cc pc = .ok (.getfield idx, 3)) (kk : ax_J own cc nL scr R p0 Q kc ks (pc + 3) la (.inr (.inr (some (92, o))) :: st) M) : ax_J own cc nL scr R p0 Q kc ks pc la (.inr (.inr (some (91, o))) :: st) M := by
  intro p l e s m args below meth c N0 D QQ ad0 C hret ad ls rs H locs Z L S
  obtain ⟨r5, rfl, hm1, S5⟩ := ax_st_r S
  have hk := (C.2.2.2.2.2.2.1.1.1 o.toNat (by omega)).2.2.1
  dsimp only at hk
  rw [show ((o.toNat : Nat) : Int) = o by omega, ← Z.1 91 o (Or.inr rfl), ← Z.1 92 o (Or.inr rfl)] at hk
  exact vk_getf C.1 C.2.1 hk Z.2.2.2 C.2.2.2.1 (C.2.2.2.2.1 _ hl) (fun _ h => h) h (kk p l e s m args below meth c N0 D QQ ad0 C hret ad _ _ _ _ Z L ⟨⟨hm, rfl⟩, S5⟩)
theorem kL_in : ∀ o : Int, 0 ≤ o → o < 13 → ax_klen.getD o.toNat 0 < 1000 := by
  intro o h1 h2
  have : ∀ k : Nat, k < 13 → ax_klen.getD k 0 < 1000 := by decide
  exact this _ (by omega)
theorem aj_len92 {o : Int} (ho : 0 ≤ o ∧ o < 13) (h : decode cc pc = .ok (.arraylength, 1)) (kk : ax_J own cc nL scr R p0 Q kc ks (pc + 1) la (.inl (kL o) :: st) M) : ax_J own cc nL scr R p0 Q kc ks pc la (.inr (.inr (some (92, o))) :: st) M := by
  intro p l e s m args below meth c N0 D QQ ad0 C hret ad ls rs H locs Z L S
  obtain ⟨r5, rfl, hm1, S5⟩ := ax_st_r S
  have hk := (C.2.2.2.2.2.2.1.1.1 o.toNat (by omega)).2.2.2
  dsimp only at hk
  rw [show ((o.toNat : Nat) : Int) = o by omega, ← Z.1 92 o (Or.inr rfl)] at hk
  have hb := kL_in o ho.1 ho.2
  exact va_tlen C.1 C.2.1 hk Z.2.2.2 rfl h (kk p l e s m args below meth c N0 D QQ ad0 C hret ad _ _ _ _ Z L ⟨⟨_, rfl, nI_toInt (by omega)⟩, S5⟩)
theorem aj_ald92 {o i : Int} (ho : 0 ≤ o ∧ o < 13) (hi : 0 ≤ i ∧ i < kL o) (h : decode cc pc = .ok (.baload, 1)) (kk : ax_J own cc nL scr R p0 Q kc ks (pc + 1) la (.inl (kB o i) :: st) M) : ax_J own cc nL scr R p0 Q kc ks pc la (.inl i :: .inr (.inr (some (92, o))) :: st) M := by
  intro p l e s m args below meth c N0 D QQ ad0 C hret ad ls rs H locs Z L S
  obtain ⟨y, ws0, rfl, hy, S0⟩ := ax_st_i S
  obtain ⟨r5, rfl, hm1, S5⟩ := ax_st_r S0
  subst hy
  have hk := (C.2.2.2.2.2.2.1.1.1 o.toNat (by omega)).2.2.2
  dsimp only at hk
  rw [show ((o.toNat : Nat) : Int) = o by omega, ← Z.1 92 o (Or.inr rfl)] at hk
  exact va_tb C.1 C.2.1 hk Z.2.2.2 (ax_vpin (by unfold kL at hi; exact hi)) rfl h (kk p l e s m args below meth c N0 D QQ ad0 C hret ad _ _ _ _ Z L ⟨⟨_, rfl, rfl⟩, S5⟩)
theorem aj_i2c {x : Int} (hx : 0 ≤ x ∧ x ≤ 65535) (h : decode cc pc = .ok (.i2c, 1)) (kk : ax_J own cc nL scr R p0 Q kc ks (pc + 1) la (.inl x :: st) M) : ax_J own cc nL scr R p0 Q kc ks pc la (.inl x :: st) M := by
  intro p l e s m args below meth c N0 D QQ ad0 C hret ad ls rs H locs Z L S
  obtain ⟨y, ws0, rfl, hy, S0⟩ := ax_st_i S
  refine lv_i2c (v := y) C.1 C.2.1 h ?_ (kk p l e s m args below meth c N0 D QQ ad0 C hret ad _ _ _ _ Z L ⟨⟨y, rfl, hy⟩, S0⟩)
  have h3 : y = nI y.toInt.toNat := Int32.toInt_inj.mp (by rw [nI_toInt (by omega)]; omega)
  have h4 := (pk_charN (q := y.toInt.toNat) (by omega)).1
  rw [← h3] at h4
  simpa [narrow] using h4
end AN
