/-! ===== rows of the law: its script; a name without more ado; what goes ===== -/
section AW
variable {own : Nat} {cc : ByteArray} {nL : Nat} {scr : Option (Nat × (Nat → Int32))} {R : Room} {p0 : Nat → Int → Prop} {Q : ax_Q} {kc ks pc : Nat} {la : List (Option ax_V)} {st : List ax_V} {M : ax_Mm}
set_option maxRecDepth 100000 in
theorem aj_nameN {f : Nat} {o : Int} (hl : f < 1000) (ho : ax_ob f = true) (hm : M.1 (f + 1000) o) (hfr : ¬ M.1 f o) (hp : ¬ p0 (f + 1000) o) (hnd : ax_nd M) (h9 : f ≠ 999) (hA : ∀ k : Nat, ax_isA f k = true → k < ax_N f → M.2.2.1 (f + 1000) o k = some (ax_sb f + k, o) ∧ M.1 (ax_sb f + k) o)
    (hla : ∀ v, some v ∈ la → ax_nvf (f + 1000) v = true) (hst : ∀ v ∈ st, ax_nvf (f + 1000) v = true) (kk : ax_J own cc nL scr R p0 Q kc ks pc la (.inr (.inr (some (f, o))) :: st) (ax_rn M f o)) : ax_J own cc nL scr R p0 Q kc ks pc la (.inr (.inr (some (f + 1000, o))) :: st) M := by
  intro p l e s m args below meth c N0 D QQ ad0 C hret ad ls rs H locs Z L S
  obtain ⟨rs1, rfl, -, S1⟩ := ax_st_r S
  obtain ⟨ws, tys, hK, hPw, hD, hc, hi, hcl⟩ := Z.2.2.1
  have ho' : ax_ob (f + 1000) = true := by rw [← ax_ob_mod] at ho ⊢; rw [show (f + 1000) % 1000 = f % 1000 by omega]; exact ho
  have hne : ∀ f' o', M.1 f' o' → ¬ (f' = f ∧ o' = o) := fun f' o' hx z => hfr (by rw [← z.1, ← z.2]; exact hx)
  have hmono : ∀ f' o', M.1 f' o' → ¬ (f' = f + 1000 ∧ o' = o) → (ax_rn M f o).1 f' o' ∧ ax_ad ad f o (ad (f + 1000) o) f' o' = ad f' o' := fun f' o' hx hz => ⟨Or.inr ⟨hx, hz⟩, ax_ad_n (hne f' o' hx)⟩
  have hw : ∀ (v : ax_V) (w : Value), ax_nvf (f + 1000) v = true → ax_w M ad v w → ax_w (ax_rn M f o) (ax_ad ad f o (ad (f + 1000) o)) v w := by
    intro v w hv hx
    rcases v with x | x | _ | q
    · exact hx
    · exact hx
    · exact hx
    · have hz : ¬ (q.1 = f + 1000 ∧ q.2 = o) := fun z => by
        simp [ax_nvf, z.1] at hv
      obtain ⟨y1, y2⟩ := hmono q.1 q.2 hx.1 hz
      exact ⟨y1, by rw [y2]; exact hx.2⟩
  have hst' : ∀ {st : List ax_V} {rs : List Value}, (∀ v ∈ st, ax_nvf (f + 1000) v = true) → ax_st M ad st rs → ax_st (ax_rn M f o) (ax_ad ad f o (ad (f + 1000) o)) st rs := by
    intro st
    induction st with
    | nil => intro rs _ h; cases rs with
      | nil => trivial
      | cons _ _ => exact h.elim
    | cons v st ih => intro rs hv h; cases rs with
      | nil => exact h.elim
      | cons w rs => exact ⟨hw v w (hv _ List.mem_cons_self) h.1, ih (fun v hm => hv v (List.mem_cons_of_mem _ hm)) h.2⟩
  refine kk p l e s m args below meth c N0 D QQ ad0 C hret (ax_ad ad f o (ad (f + 1000) o)) ls (.ref (ad (f + 1000) o) :: rs1) H locs ⟨?_, ?_, ⟨ws, tys, hK, hPw, hD, ?_, ?_, ?_⟩, Z.2.2.2⟩ ?_ ⟨⟨Or.inl ⟨rfl, rfl⟩, by rw [ax_ad_s]⟩, hst' hst S1⟩
  · intro f' o' hx
    rw [ax_ad_n]
    · exact Z.1 f' o' hx
    · rintro ⟨rfl, rfl⟩
      rcases hx with hx | hx
      · exact hfr (Z.2.1 _ _ hx)
      · rw [ax_hp_ob ho] at hx
        cases hx
  · intro f' o' hx
    exact (hmono f' o' (Z.2.1 _ _ hx) (fun z => hp (by rw [← z.1, ← z.2]; exact hx))).1
  · intro f' o' hx hh
    by_cases z : f' = f ∧ o' = o
    · obtain ⟨rfl, rfl⟩ := z
      obtain ⟨q0, en, a1, a2⟩ := hc (f' + 1000) o' hm (ax_hp_ob ho')
      refine ⟨q0, en, by rw [ax_ad_s]; exact a1, ?_⟩
      obtain ⟨ci, fs, rfl, b1, b2, b3, b4⟩ := ax_obj ho' a2
      have hmod : (f' + 1000) % 1000 = f' % 1000 := by omega
      refine ⟨ho, ?_, ?_, ?_, fun k v hk => ?_⟩
      · show ax_ok f' ci = true
        rw [← ax_ok_mod, hmod, ax_ok_mod] at b1
        exact b1
      · show (ci : Int) = if f' = f' ∧ o' = o' then _ else _
        rw [if_pos ⟨rfl, rfl⟩]
        exact b2
      · show fs.length = ax_N f'
        rw [b3, ← ax_N_mod, hmod, ax_N_mod]
      · have h7 := b4 k v hk
        have eR : ax_isR (f' + 1000) k = ax_isR f' k := by
          unfold ax_isR
          rw [← ax_ty_mod, hmod, ax_ty_mod]
        unfold ax_fd at h7 ⊢
        rw [eR] at h7
        rw [show (ax_rn M f' o').2.2.1 f' o' k = M.2.2.1 (f' + 1000) o' k from if_pos ⟨rfl, rfl⟩, show (ax_rn M f' o').2.1 f' o' k = M.2.1 (f' + 1000) o' k from if_pos ⟨rfl, rfl⟩]
        split
        · rename_i y
          rw [if_pos y] at h7
          cases hq : M.2.2.1 (f' + 1000) o' k with
          | none => rw [hq] at h7; exact h7
          | some q =>
            rw [hq] at h7
            intro hxq
            rcases hnd (f' + 1000) o' k q hm hq with y2 | y2
            · have hz : ¬ (q.1 = f' + 1000 ∧ q.2 = o') := hxq.elim (fun w => absurd w (hne q.1 q.2 y2)) (fun w => w.2)
              rw [(hmono q.1 q.2 y2 hz).2]
              exact h7 y2
            · rw [y2] at hxq
              rcases hxq with z | z
              · exact absurd z.1.symm h9
              · have := h7 (by rw [y2]; exact z.1)
                rw [ax_ad_n (hne q.1 q.2 (by rw [y2]; exact z.1))]
                exact this
        · rename_i y
          rw [if_neg y] at h7
          exact h7
    · have hx' := hx.resolve_left z
      obtain ⟨q0, en, a1, a2⟩ := hc f' o' hx'.1 hh
      refine ⟨q0, en, by rw [(hmono f' o' hx'.1 hx'.2).2]; exact a1, ax_E_mv (fun _ _ h => h) (fun j => if_neg z) (fun j => if_neg z) (if_neg z) ?_ a2⟩
      intro j q hq hxq
      rcases hnd f' o' j q hx'.1 hq with y | y
      · exact ⟨y, (hmono _ _ y (hxq.elim (fun w => absurd w (hne q.1 q.2 y)) (fun w => w.2))).2⟩
      · rcases hxq with w | w
        · rw [y] at w
          exact absurd w.1.symm h9
        · exact ⟨w.1, (hmono _ _ w.1 w.2).2⟩
  · intro a b d d' ha hb hha hhb hab
    have hlift : ∀ f' o', (ax_rn M f o).1 f' o' → ∃ f2 o2, M.1 f2 o2 ∧ ax_hp f2 = true ∧ ax_ad ad f o (ad (f + 1000) o) f' o' = ad f2 o2 ∧ ((f' = f ∧ o' = o ∧ f2 = f + 1000 ∧ o2 = o) ∨ (f' = f2 ∧ o' = o2 ∧ ¬ (f2 = f + 1000 ∧ o2 = o))) ∨ ax_hp f' = false := by
      intro f' o' hx
      by_cases z : f' = f ∧ o' = o
      · exact ⟨f + 1000, o, Or.inl ⟨hm, ax_hp_ob ho', by rw [z.1, z.2, ax_ad_s], Or.inl ⟨z.1, z.2, rfl, rfl⟩⟩⟩
      · have hx' := hx.resolve_left z
        cases hh : ax_hp f' with
        | true => exact ⟨f', o', Or.inl ⟨hx'.1, hh, (hmono f' o' hx'.1 hx'.2).2, Or.inr ⟨rfl, rfl, hx'.2⟩⟩⟩
        | false => exact ⟨f', o', Or.inr rfl⟩
    obtain ⟨a2, d2, ha2⟩ := hlift a d ha
    obtain ⟨b2, d2', hb2⟩ := hlift b d' hb
    rcases ha2 with ⟨x1, x2, x3, x4⟩ | x
    · rcases hb2 with ⟨y1, y2, y3, y4⟩ | y
      · rw [x3, y3] at hab
        have := hi a2 b2 d2 d2' x1 y1 x2 y2 hab
        rcases x4 with ⟨e1, e2, e3, e4⟩ | ⟨e1, e2, e3⟩ <;> rcases y4 with ⟨g1, g2, g3, g4⟩ | ⟨g1, g2, g3⟩
        · exact ⟨e1.trans g1.symm, e2.trans g2.symm⟩
        · exact absurd ⟨this.1.symm.trans e3, this.2.symm.trans e4⟩ g3
        · exact absurd ⟨this.1.trans g3, this.2.trans g4⟩ e3
        · exact ⟨e1.trans (this.1.trans g1.symm), e2.trans (this.2.trans g2.symm)⟩
      · rw [hhb] at y
        cases y
    · rw [hha] at x
      cases x
  · intro f' o' hx hl' hob k hk hN
    by_cases z : f' = f ∧ o' = o
    · obtain ⟨rfl, rfl⟩ := z
      obtain ⟨y1, y2⟩ := hA k hk hN
      refine ⟨(if_pos ⟨rfl, rfl⟩).trans y1, Or.inr ⟨y2, fun z => ?_⟩⟩
      have hsb : ax_sb f' ≤ 700 := by unfold ax_sb; split <;> omega
      have hNb : ax_N f' ≤ 59 := by unfold ax_N; split <;> omega
      omega
    · have hx' := hx.resolve_left z
      obtain ⟨y1, y2⟩ := hcl f' o' hx'.1 hl' hob k hk hN
      refine ⟨(if_neg z).trans y1, Or.inr ⟨y2, fun z => ?_⟩⟩
      have hsb : ax_sb f' ≤ 700 := by unfold ax_sb; split <;> omega
      have hNb : ax_N f' ≤ 59 := by unfold ax_N; split <;> omega
      omega
  · obtain ⟨h1, lv, h2, h3⟩ := L
    refine ⟨h1, lv, h2, fun i v hi => ?_⟩
    obtain ⟨w, h4, h5⟩ := h3 i v hi
    exact ⟨w, h4, hw v w (hla v (List.mem_of_getElem? hi)) h5⟩
theorem aj_drop2 {P' : Nat → Int → Prop} {r' : Nat → Int → Int → Option (Nat × Int)} (hP : ∀ f o, P' f o → M.1 f o) (hp : ∀ f o, p0 f o → P' f o) (hc : ∀ f o, P' f o → f < 1000 → ax_ob f = true → ∀ k : Nat, ax_isA f k = true → k < ax_N f → M.1 (ax_sb f + k) o → P' (ax_sb f + k) o) (hr : ∀ f o j, P' f o → r' f o j = M.2.2.1 f o j ∨ ∃ q, r' f o j = some q ∧ ¬ P' q.1 q.2) (hra : ∀ (f : Nat) (o : Int) (k : Nat), P' f o → ax_ob f = true → ax_isA f k = true → k < ax_N f → f < 1000 → M.2.2.1 f o k = some (ax_sb f + k, o) → r' f o k = M.2.2.1 f o k) (hl : ∀ v, some v ∈ la → ax_pv P' v) (hs : ∀ v ∈ st, ax_pv P' v) (kk : ax_J own cc nL scr R p0 Q kc ks pc la st (P', M.2.1, r', M.2.2.2)) : ax_J own cc nL scr R p0 Q kc ks pc la st M := by
  intro p l e s m args below meth c N0 D QQ ad0 C hret ad ls rs H locs Z L S
  obtain ⟨ws, tys, hK, hPw, hD, hc0, hi, hcl⟩ := Z.2.2.1
  refine kk p l e s m args below meth c N0 D QQ ad0 C hret ad _ _ _ _ ⟨Z.1, hp, ⟨ws, tys, hK, hPw, hD, ?_, fun a b c d ha hb => hi a b c d (hP _ _ ha) (hP _ _ hb), ?_⟩, Z.2.2.2⟩ (ax_lo_drop hl L) (ax_st_drop hs S)
  · intro f o hm hh
    obtain ⟨q0, en, h1, h2⟩ := hc0 f o (hP _ _ hm) hh
    refine ⟨q0, en, h1, ?_⟩
    have hrf : ∀ (j : Int) (v : Value), ax_ref M ad (M.2.2.1 f o j) v → ax_ref (P', M.2.1, r', M.2.2.2) ad (r' f o j) v := by
      intro j v hv
      rcases hr f o j hm with z | ⟨q, z1, z2⟩
      · rw [z]
        cases hq : M.2.2.1 f o j with
        | none => rw [hq] at hv; exact hv
        | some q => rw [hq] at hv; exact fun hx => hv (hP _ _ hx)
      · rw [z1]
        exact fun hx => absurd hx z2
    rcases en with ⟨cA, n, g | g | g | g | g⟩ | ⟨ci, fs⟩
    · exact h2
    · exact h2.elim
    · exact h2.elim
    · exact h2.elim
    · obtain ⟨a1, a2, a4, a5, a6⟩ := h2
      exact ⟨a1, a2, a4, a5, fun j hj => hrf j _ (a6 j hj)⟩
    · obtain ⟨a1, a2, a3, a4, a5⟩ := h2
      refine ⟨a1, a2, a3, a4, fun k v hk => ?_⟩
      have h7 := a5 k v hk
      unfold ax_fd at h7 ⊢
      split
      · rename_i z
        rw [if_pos z] at h7
        exact hrf k v h7
      · rename_i z
        rw [if_neg z] at h7
        exact h7
  · intro f o hm hl' ho k hk hN
    exact ⟨by show r' f o k = _; rw [hra f o k hm ho hk hN hl' (hcl f o (hP _ _ hm) hl' ho k hk hN).1]; exact (hcl f o (hP _ _ hm) hl' ho k hk hN).1, hc f o hm hl' ho k hk hN (hcl f o (hP _ _ hm) hl' ho k hk hN).2⟩
theorem aj_wide {kc' ks' : Nat} (h1 : kc ≤ kc') (h2 : ks ≤ ks') (kk : ax_J own cc nL scr R p0 Q kc' ks' pc la st M) : ax_J own cc nL scr R p0 Q kc ks pc la st M := by
  intro p l e s m args below meth c N0 D QQ ad0 C hret ad ls rs H locs Z L S
  exact W.widen h1 h2 (kk p l e s m args below meth c N0 D QQ ad0 C hret ad ls rs H locs Z L S)
/-- the script -/
def sX (xs : Nat → Int32) (i : Int) : Int := (xs i.toNat).toInt
theorem aj_sld {L : Nat} {xs : Nat → Int32} {i : Int} (hi : 0 ≤ i ∧ i < L) (h : decode cc pc = .ok (.iaload, 1)) (kk : ax_J own cc nL (some (L, xs)) R p0 Q kc ks (pc + 1) la (.inl (sX xs i) :: st) M) : ax_J own cc nL (some (L, xs)) R p0 Q kc ks pc la (.inl i :: .inr (.inr (some (90, 0))) :: st) M := by
  intro p l e s m args below meth c N0 D QQ ad0 C hret ad ls rs H locs Z L0 S
  obtain ⟨y, ws0, rfl, hy, S0⟩ := ax_st_i S
  obtain ⟨r5, rfl, hm1, S5⟩ := ax_st_r S0
  subst hy
  obtain ⟨hX, hb, hL⟩ := C.2.2.2.2.2.2.2.1 (L, xs) rfl
  rw [← Z.1 90 0 (Or.inr rfl)] at hX hb
  exact va_sld C.1 C.2.1 hX (Nat.lt_of_lt_of_le hb C.2.2.2.2.2.1) (fun q => absurd hb (Nat.not_lt.mpr q)) Z.2.2.2 (ax_vpin hi) h (kk p l e s m args below meth c N0 D QQ ad0 C hret ad _ _ _ _ Z L0 ⟨⟨_, rfl, rfl⟩, S5⟩)
theorem aj_slen {L : Nat} {xs : Nat → Int32} (h : decode cc pc = .ok (.arraylength, 1)) (kk : ax_J own cc nL (some (L, xs)) R p0 Q kc ks (pc + 1) la (.inl (L : Int) :: st) M) : ax_J own cc nL (some (L, xs)) R p0 Q kc ks pc la (.inr (.inr (some (90, 0))) :: st) M := by
  intro p l e s m args below meth c N0 D QQ ad0 C hret ad ls rs H locs Z L0 S
  obtain ⟨r5, rfl, hm1, S5⟩ := ax_st_r S
  obtain ⟨hX, hb, hL⟩ := C.2.2.2.2.2.2.2.1 (L, xs) rfl
  rw [← Z.1 90 0 (Or.inr rfl)] at hX hb
  exact va_slen C.1 C.2.1 hX (Nat.lt_of_lt_of_le hb C.2.2.2.2.2.1) (fun q => absurd hb (Nat.not_lt.mpr q)) Z.2.2.2 h (kk p l e s m args below meth c N0 D QQ ad0 C hret ad _ _ _ _ Z L0 ⟨⟨_, rfl, nI_toInt hL⟩, S5⟩)
end AW
/-- references to what goes lead to 999 -/
def dpR (D : Nat → Int → Bool) (r : Nat → Int → Int → Option (Nat × Int)) : Nat → Int → Int → Option (Nat × Int) := fun f o j => match r f o j with
  | none => none
  | some q => if D q.1 q.2 = true then some (999, 0) else some q
def dpP (D : Nat → Int → Bool) (P : Nat → Int → Prop) : Nat → Int → Prop := fun f o => P f o ∧ D f o = false
section DP
variable {D : Nat → Int → Bool} {P : Nat → Int → Prop} {g : Nat → Int → Int → Int} {r : Nat → Int → Int → Option (Nat × Int)} {n : Nat → Int → Int}
theorem dpR_k {f : Nat} {o j : Int} {q : Nat × Int} (h : r f o j = some q) (hq : D q.1 q.2 = false) : dpR D r f o j = some q := by
  unfold dpR
  rw [h]
  dsimp only
  rw [if_neg (by rw [hq]; decide)]
theorem dpR_c (f : Nat) (o j : Int) : dpR D r f o j = r f o j ∨ ∃ q, r f o j = some q ∧ D q.1 q.2 = true ∧ dpR D r f o j = some (999, 0) := by
  unfold dpR
  cases hq : r f o j with
  | none => exact Or.inl rfl
  | some q =>
    dsimp only
    by_cases c : D q.1 q.2 = true
    · rw [if_pos c]
      exact Or.inr ⟨q, rfl, c, rfl⟩
    · rw [if_neg c]
      exact Or.inl rfl
theorem nd_dp (h : ∀ (f : Nat) (o j : Int) (q : Nat × Int), P f o → D f o = false → r f o j = some q → D q.1 q.2 = false → P q.1 q.2 ∨ q = (999, 0)) : ax_nd (dpP D P, g, dpR D r, n) := by
  intro f o j q hm hq
  have hq : dpR D r f o j = some q := hq
  rcases dpR_c (D := D) (r := r) f o j with z | ⟨w, z1, z2, z3⟩
  · rw [z] at hq
    cases c : D q.1 q.2 with
    | false => exact (h f o j q hm.1 hm.2 hq c).imp (fun y => ⟨y, c⟩) id
    | true =>
      have e : dpR D r f o j = some (999, 0) := by
        unfold dpR
        rw [hq]
        dsimp only
        rw [if_pos c]
      rw [z, hq] at e
      exact Or.inr (Option.some.inj e)
  · rw [z3] at hq
    exact Or.inr (Option.some.inj hq).symm
end DP
section AW2
variable {own : Nat} {cc : ByteArray} {nL : Nat} {scr : Option (Nat × (Nat → Int32))} {R : Room} {p0 : Nat → Int → Prop} {Q : ax_Q} {kc ks pc : Nat} {la : List (Option ax_V)} {st : List ax_V}
variable {D : Nat → Int → Bool} {P : Nat → Int → Prop} {g : Nat → Int → Int → Int} {r : Nat → Int → Int → Option (Nat × Int)} {n : Nat → Int → Int}
theorem aj_dropD (hp : ∀ f o, p0 f o → dpP D P f o) (h9 : ¬ P 999 0) (hc : ∀ (f : Nat) (o : Int), f < 1000 → ax_ob f = true → D f o = false → ∀ k : Nat, ax_isA f k = true → k < ax_N f → D (ax_sb f + k) o = false) (hl : ∀ v, some v ∈ la → ax_pv (dpP D P) v) (hs : ∀ v ∈ st, ax_pv (dpP D P) v) (kk : ax_J own cc nL scr R p0 Q kc ks pc la st (dpP D P, g, dpR D r, n)) : ax_J own cc nL scr R p0 Q kc ks pc la st (P, g, r, n) := by
  refine aj_drop2 (M := (P, g, r, n)) (P' := dpP D P) (r' := dpR D r) (fun f o z => z.1) hp (fun f o z1 z2 z3 k z4 z5 z6 => ⟨z6, hc f o z2 z3 z1.2 k z4 z5⟩) (fun f o j z1 => ?_) (fun f o k z1 z2 z3 z4 z5 z6 => ?_) hl hs kk
  · rcases dpR_c (D := D) (r := r) f o j with z | ⟨w, y1, y2, y3⟩
    · exact Or.inl z
    · exact Or.inr ⟨_, y3, fun y => h9 y.1⟩
  · exact (dpR_k z6 (hc f o z5 z2 z1.2 k z3 z4)).trans z6.symm
end AW2
