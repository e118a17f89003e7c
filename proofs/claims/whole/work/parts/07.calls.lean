/-! ===== contracts in abstract words, and calls ===== -/
/-- what a method of a return type may answer -/
def ax_ro (ret : Option FieldType) (r : Option ax_V) : Prop := match ret, r with
  | none, none => True
  | some ty, some (.inl x) => ax_fit ty x
  | some .long, some (.inr (.inl _)) => True
  | some (.object _), some (.inr (.inr _)) => True
  | some (.array _), some (.inr (.inr _)) => True
  | _, _ => False
def ax_Pc (D : va_G) (ad : Nat → Int → Nat) (N0 : Nat) (M : ax_Mm) (rv : List Value) : Array Value → State → Prop := fun v U => v = rv.toArray ∧ N0 ≤ U.heap.size ∧ ax_R D N0 U ad M U.heap ∧ ax_Kc U ad N0
def ax_Qc (D : va_G) (ad : Nat → Int → Nat) (N0 : Nat) (M : ax_Mm) (Q : Option ax_V → ax_Mm → Prop) : Array Value → State → Outcome → State → Prop := fun _ st oc t =>
  (∃ (r : Option ax_V) (M' : ax_Mm) (ad' : Nat → Int → Nat) (rs : List Value), Q r M' ∧ ax_rv M' ad' r rs ∧ oc = .returned rs.head? ∧ (∀ f o, M.1 f o → M'.1 f o ∧ ad' f o = ad f o) ∧ (∀ f o, ax_hp f = false → ad' f o = ad f o) ∧ ax_R D N0 t ad' M' t.heap) ∧ st.heap.size ≤ t.heap.size ∧ ∀ q, q < st.heap.size → ¬ N0 ≤ q → t.heap[q]? = st.heap[q]?
/-- A CONTRACT: called with av over M, y answers r over M' with Q r M' -/
def ax_S (y : MethodName) (cc : ByteArray) (nL : Nat) (ret : Option FieldType) (d KC KS : Nat) (av : List ax_V) (M : ax_Mm) (Q : Option ax_V → ax_Mm → Prop) : Prop :=
  ∀ (l : Launch) (D : va_G) (ad : Nat → Int → Nat) (N0 : Nat) (rv : List Value), ax_st M ad av rv → Met l y (.code y cc nL ret :: ax_GT) (ax_rm d KC KS) (ax_Pc D ad N0 M rv) (ax_Qc D ad N0 M Q) KC KS (fun q => N0 ≤ q)
theorem ax_S.imp {y : MethodName} {cc : ByteArray} {nL : Nat} {ret : Option FieldType} {d KC KS : Nat} {av : List ax_V} {M : ax_Mm} {Q Q' : Option ax_V → ax_Mm → Prop} (h : ax_S y cc nL ret d KC KS av M Q) (hq : ∀ r M', Q r M' → Q' r M') : ax_S y cc nL ret d KC KS av M Q' := by
  intro l D ad N0 rv hrv p e ha hc hk s m args below hf happ hP hK
  obtain ⟨k, o, h1, h2, h3, ⟨⟨r, M', ad', rs, g1, g2⟩, g3⟩, g4⟩ := h l D ad N0 rv hrv p e ha hc hk s m args below hf happ hP hK
  exact ⟨k, o, h1, h2, h3, ⟨⟨r, M', ad', rs, hq _ _ g1, g2⟩, g3⟩, g4⟩
theorem ax_R.moved {D : va_G} {N0 : Nat} {s U : State} {ad : Nat → Int → Nat} {M : ax_Mm} {H : Heap} (hvm : s.vm.Alike U.vm) (h : ax_R D N0 s ad M H) : ax_R D N0 U ad M H := by
  obtain ⟨ws, tys, hK, h⟩ := h
  exact ⟨ws, tys, va_K.moved hvm hK, h⟩
theorem ax_Kc.moved {s U : State} {ad0 ad : Nat → Int → Nat} {N0 : Nat} (hW : s.WarmedH U.vm) (hh : ∀ a : Nat, a < s.heap.size → ¬ N0 ≤ a → U.heap[a]? = s.heap[a]?) (hd : ∀ f o, ax_hp f = false → ad f o = ad0 f o) (h : ax_Kc s ad0 N0) : ax_Kc U ad N0 := by
  obtain ⟨h1, h2, h3, h4, h5, h6, h7, h8, h9, h10⟩ := h
  have e1 : (fun k : Nat => ad 91 k) = fun k : Nat => ad0 91 k := funext fun k => hd 91 k rfl
  have e2 : (fun k : Nat => ad 92 k) = fun k : Nat => ad0 92 k := funext fun k => hd 92 k rfl
  refine ⟨?_, ⟨(h2.1.moved hW.alike).kept hh, ?_⟩, fun k q hk => ?_, fun q hq => (h4 q hq).warmC hW, fun q hq => (h5 q hq).moved hW.alike, h6.warmC hW, h7.moved hW.alike, h8.moved hW.alike, h9.moved hW.alike, fun q hq => (h10 q hq).warmM hW⟩
  · rw [e1, e2]
    exact (h1.moved hW.alike).kept hh
  · rw [hd 93 0 rfl]
    exact h2.2.imp (fun z => (z.moved hW.alike).kept hh) (fun z => (z.moved hW.alike).kept hh)
  · rw [hd 91 k rfl]
    exact (h3 k q hk).warm hW
/-- the locals at the entry -/
def ax_la (av : List ax_V) (nL : Nat) : List (Option ax_V) := av.map some ++ List.replicate (nL - av.length) none
theorem ax_args {M : ax_Mm} {ad : Nat → Int → Nat} : ∀ {av : List ax_V} {rv : List Value} (i : Nat), av.all ax_nlg = true → ax_st M ad av rv → rv.length = av.length ∧ (lg_sl rv).length = av.length ∧ ∀ (j : Nat) (v : ax_V), av[j]? = some v → ∃ w, (i + j, w) ∈ lv_args i rv ∧ ax_w M ad v w
  | [], [], i, _, _ => ⟨rfl, rfl, fun j v h => by simp at h⟩
  | v :: vs, w :: ws, i, ha, h => by
    simp only [List.all_cons, Bool.and_eq_true] at ha
    have hc := ax_cat1 h.1 ha.1
    have hc2 : ¬ w.category = 2 := by omega
    obtain ⟨g1, g2, g3⟩ := ax_args (i + 1) ha.2 h.2
    refine ⟨by simp [g1], ?_, ?_⟩
    · have : lg_sl (w :: ws) = .val w :: lg_sl ws := by simp [lg_sl, hc2]
      rw [this]
      simp [g2]
    · intro j u hj
      rw [show lv_args i (w :: ws) = (i, w) :: lv_args (i + 1) ws by simp [lv_args, hc2]]
      cases j with
      | zero =>
        simp only [List.getElem?_cons_zero, Option.some.injEq] at hj
        subst hj
        exact ⟨w, List.mem_cons_self, h.1⟩
      | succ j =>
        simp only [List.getElem?_cons_succ] at hj
        obtain ⟨z, h1, h2⟩ := g3 j u hj
        refine ⟨z, List.mem_cons_of_mem _ ?_, h2⟩
        rw [show i + (j + 1) = i + 1 + j by omega]
        exact h1
  | [], _ :: _, _, _, h => h.elim
  | _ :: _, [], _, _, h => h.elim
theorem ax_lo_entry {M : ax_Mm} {ad : Nat → Int → Nat} {av : List ax_V} {rv : List Value} {nL : Nat} (ha : av.all ax_nlg = true) (h : ax_st M ad av rv) (hn : av.length ≤ nL) : ax_lo M ad nL (ax_la av nL) ((lg_sl rv ++ List.replicate (nL - (lg_sl rv).length) Slot.unset).toArray) := by
  obtain ⟨g1, g2, g3⟩ := ax_args 0 ha h
  refine ⟨by simp [ax_la]; omega, _, lv_entry rv (n := nL) (by omega), fun i v hi => ?_⟩
  have hi2 : av[i]? = some v := by
    unfold ax_la at hi
    by_cases hl : i < av.length
    · rw [List.getElem?_append_left (by simpa using hl), List.getElem?_map] at hi
      cases hv : av[i]? with
      | none => rw [hv] at hi; cases hi
      | some u => rw [hv] at hi; cases hi; rfl
    · rw [List.getElem?_append_right (by simpa using Nat.le_of_not_lt hl)] at hi
      have := List.mem_of_getElem? hi
      rw [List.mem_replicate] at this
      cases this.2
  obtain ⟨w, h1, h2⟩ := g3 i v hi2
  rw [Nat.zero_add] at h1
  exact ⟨w, h1, h2⟩
/-- A CONTRACT OUT OF A WALK -/
theorem ax_S_of {y : MethodName} {own : Nat} {cc : ByteArray} {nL : Nat} {ret : Option FieldType} {d KC KS : Nat} {av : List ax_V} {M : ax_Mm} {Q : Option ax_V → ax_Mm → Prop} (hy : plainName y.cls = true) (hown : y.cls = ax_nm own) (hnm : 100 ≤ own → y.name = "<init>") (hav : av.all ax_nlg = true) (hn : av.length ≤ nL)
    (h : ax_J own cc nL none (ax_rm d KC KS) M.1 (fun r M' kc ks => Q r M' ∧ ax_ro ret r ∧ kc ≤ KC ∧ ks ≤ KS) 0 0 0 (ax_la av nL) [] M) : ax_S y cc nL ret d KC KS av M Q := by
  intro l D ad N0 rv hrv
  refine Met.ofW (cc := cc) (maxL := nL) (ret := ret) hy rfl ?_
  intro p e s m args below meth c s₁ B hml hv
  obtain ⟨rfl, hN, hR, hKc⟩ := hv
  have hts : ∀ w ∈ ax_GT, w.before rv.toArray s = true := fun w hw => atoms_spec (ws := .code y cc nL ret :: ax_GT) B.pre w (List.mem_cons_of_mem _ hw)
  have hC : ax_C own cc nL none p s m rv.toArray c meth N0 ad := ⟨B.exec, B.bytes, hml, by rw [← hown]; exact findClass_of_methodNamed B.named, hts, hN, hKc, (fun q h => by cases h), B.notSynchronized, (fun h => by rw [← hnm h]; exact (name_of_methodNamed B.named B.method).1)⟩
  have hlocks := B.notSynchronized
  rw [lg_entry_eq]
  refine h p l e s m rv.toArray below meth c N0 D _ ad hC ?_ ad _ _ _ _ ⟨fun _ _ _ => rfl, fun _ _ h => h, hR, va_S.rf⟩ (ax_lo_entry hav hrv hn) trivial
  intro r M' kc' ks' pc' ad' ls rs H locs hQ hdg hrs hZ
  obtain ⟨hQ, hro, hkc, hks⟩ := hQ
  refine W.widen hkc hks ?_
  have hr := B.returns
  have key : ∀ t : State, t.heap = H → s.WarmedH t.vm → ax_Qc D ad N0 M Q rv.toArray s (.returned rs.head?) t := by
    intro t ht hW
    refine ⟨⟨r, M', ad', rs, hQ, hrs, rfl, fun f o hm => ⟨hZ.2.1 f o hm, hZ.1 f o (Or.inl hm)⟩, fun f o hm => hZ.1 f o (Or.inr hm), ?_⟩, ?_, ?_⟩
    · rw [ht]
      exact hZ.2.2.1.moved hW.alike
    · rw [ht]
      exact hZ.2.2.2.1
    · intro q h1 h2
      rw [ht]
      exact hZ.2.2.2.2.1 q h1 h2
  rcases r with _ | x | x | q
  · subst hrs
    cases ret with
    | some ty => exact hro.elim
    | none => exact W.vret B.exec B.bytes hr key hZ.2.2.2.2.2 hdg hlocks
  · obtain ⟨w, rfl, z, rfl, hz⟩ := hrs
    subst hz
    cases ret with
    | none => exact hro.elim
    | some ty => exact W.zret B.exec B.bytes hr (ax_fit_n hro).1 key hZ.2.2.2.2.2 hdg hlocks
  · obtain ⟨w, rfl, z, rfl, hz⟩ := hrs
    cases ret with
    | none => exact hro.elim
    | some ty =>
      cases ty <;> first | exact hro.elim | exact W.lret B.exec B.bytes hr key hZ.2.2.2.2.2 hdg hlocks
  · obtain ⟨w, rfl, hw⟩ := hrs
    have hv : w = .null ∨ ∃ a, w = .ref a := by
      cases q with
      | none => exact Or.inl hw
      | some q => exact Or.inr ⟨_, hw.2⟩
    cases ret with
    | none => exact hro.elim
    | some ty =>
      cases ty with
      | object n => exact W.aret B.exec B.bytes hr (Or.inl ⟨_, rfl⟩) hv key hZ.2.2.2.2.2 hdg hlocks
      | array n => exact W.aret B.exec B.bytes hr (Or.inr ⟨_, rfl⟩) hv key hZ.2.2.2.2.2 hdg hlocks
      | _ => exact hro.elim
section AC
variable {own : Nat} {cc : ByteArray} {nL : Nat} {scr : Option (Nat × (Nat → Int32))} {R : Room} {p0 : Nat → Int → Prop} {Q : ax_Q} {kc ks pc : Nat} {la : List (Option ax_V)} {st : List ax_V} {M : ax_Mm}
/-- the way on behind a call -/
theorem ax_goon {p : Program} {l : Launch} {e : Env} {s : State} {m : MethodId} {args : Array Value} {below : List Frame} {meth : Method} {c : Code} {N0 : Nat} {D : va_G} {QQ : State → Prop} {ad0 ad : Nat → Int → Nat} {ls : Array Slot} {rs0 rest : List Value} {H : Heap} {locs : List Loc} {KC KS : Nat} {Qs : Option ax_V → ax_Mm → Prop} {aa : Array Value}
    (C : ax_C own cc nL scr p s m args c meth N0 ad0) (hret : ∀ (r : Option ax_V) (M' : ax_Mm) (kc' ks' pc' : Nat) (ad : Nat → Int → Nat) (ls : Array Slot) (rs : List Value) (H : Heap) (locs : List Loc), Q r M' kc' ks' → decode cc pc' = .ok (ax_ri r, 1) → ax_rv M' ad r rs → ax_Z D N0 nL s p0 ad0 ad M' H locs → W p l e R s m args below meth c H locs kc' ks' QQ (F0 m pc' ls rs))
    (Z : ax_Z D N0 nL s p0 ad0 ad M H locs) (L : ax_lo M ad nL la ls) (S : ax_st M ad st rest) (hrun : va_Run p l e R s m args below meth c H locs kc ks KC KS (F0 m pc ls rs0) rest (ax_Qc D ad N0 M Qs aa) (fun q => N0 ≤ q))
    (kk : ∀ (r : Option ax_V) (M' : ax_Mm), Qs r M' → ax_J own cc nL scr R p0 Q (kc + KC) (ks + KS) (pc + 3) la (r.toList ++ st) M') : W p l e R s m args below meth c H locs kc ks QQ (F0 m pc ls rs0) := by
  intro T hT X
  obtain ⟨v, st₀, t, T', L', h0, X', hL, e1, e2, ⟨⟨r, M', ad', rs, hQ, hrs, hv, hag, hag2, hR⟩, hz, hk⟩, stp⟩ := hrun T hT X
  cases hv
  rw [h0] at hz hk
  have hR' : ax_R D N0 s ad' M' T'.heap := by
    rw [e1]
    exact hR.moved (by rw [← e2]; exact X'.warmed.alike.symm)
  have hS : va_S (fun q => N0 ≤ q) s.heap T'.heap (locs ++ L') := by
    obtain ⟨s1, s2, s3⟩ := Z.2.2.2
    refine ⟨Nat.le_trans s1 (by rw [e1]; exact hz), fun q h1 h2 => ?_, fun q hq => ?_⟩
    · rw [e1, hk q (Nat.lt_of_lt_of_le h1 s1) h2]
      exact s2 q h1 h2
    · rcases List.mem_append.mp hq with h | h
      · exact s3 q h
      · exact hL q h
  have S' : ax_st M' ad' (r.toList ++ st) (rs.head?.toList ++ rest) := by
    have hS0 := ax_st_mono hag S
    cases r with
    | none =>
      rw [show rs = [] from hrs]
      exact hS0
    | some u =>
      obtain ⟨w, rfl, hw⟩ := hrs
      exact ⟨hw, hS0⟩
  have hg0 : ∀ f o, p0 f o ∨ ax_hp f = false → ad' f o = ad0 f o := by
    intro f o h
    rcases h with h | h
    · rw [(hag f o (Z.2.1 f o h)).2]
      exact Z.1 f o (Or.inl h)
    · rw [hag2 f o h]
      exact Z.1 f o (Or.inr h)
  obtain ⟨t2, a1, b1⟩ := kk r M' hQ p l e s m args below meth c N0 D QQ ad0 C hret ad' ls _ T'.heap (locs ++ L') ⟨hg0, fun f o h => (hag f o (Z.2.1 f o h)).1, hR', hS⟩ (ax_lo_mono hag L) S' T' rfl X'
  exact ⟨t2, stp t2 a1, b1⟩
theorem ax_blind {D : va_G} {ad : Nat → Int → Nat} {N0 : Nat} {rv : List Value} : FrameBlind (ax_Pc D ad N0 M rv) := by
  intro a U g mk h
  obtain ⟨h1, h2, h3, h4⟩ := h
  refine ⟨h1, h2, h3.moved (Vm.Alike.refl U.vm), ?_⟩
  exact ax_Kc.moved (s := U) (State.WarmedH.refl U) (fun _ _ _ => rfl) (fun _ _ _ => rfl) h4
theorem ax_pre {D : va_G} {ad ad0 : Nat → Int → Nat} {N0 : Nat} {rv : List Value} {p : Program} {s : State} {m : MethodId} {args : Array Value} {c : Code} {meth : Method} {H : Heap} {locs : List Loc} (C : ax_C own cc nL scr p s m args c meth N0 ad0) (Z : ax_Z D N0 nL s p0 ad0 ad M H locs) : ∀ U : State, U.heap = H → s.WarmedH U.vm → ax_Pc D ad N0 M rv rv.toArray U := by
  intro U hU hW
  refine ⟨rfl, ?_, ?_, ?_⟩
  · rw [hU]
    exact Nat.le_trans C.2.2.2.2.2.1 Z.2.2.2.1
  · rw [hU]
    exact Z.2.2.1.moved hW.alike
  · exact ax_Kc.moved hW (fun a h1 h2 => by rw [hU]; exact Z.2.2.2.2.1 a h1 h2) (fun f o h => Z.1 f o (Or.inr h)) C.2.2.2.2.2.2.1
theorem ax_st_app {M : ax_Mm} {ad : Nat → Int → Nat} : ∀ {a b : List ax_V} {rs : List Value}, ax_st M ad (a ++ b) rs → ∃ r1 r2, rs = r1 ++ r2 ∧ ax_st M ad a r1 ∧ ax_st M ad b r2
  | [], _, rs, h => ⟨[], rs, rfl, trivial, h⟩
  | v :: a, b, rs, h => by
    obtain ⟨w, ws, rfl, h1, h2⟩ := ax_st_c h
    obtain ⟨r1, r2, rfl, h3, h4⟩ := ax_st_app h2
    exact ⟨w :: r1, r2, rfl, ⟨h1, h3⟩, h4⟩
theorem ax_st_snoc {M : ax_Mm} {ad : Nat → Int → Nat} : ∀ {a b : List ax_V} {r1 r2 : List Value}, ax_st M ad a r1 → ax_st M ad b r2 → ax_st M ad (a ++ b) (r1 ++ r2)
  | [], _, [], _, _, h => h
  | _ :: _, _, _ :: _, _, h, h' => ⟨h.1, ax_st_snoc h.2 h'⟩
  | [], _, _ :: _, _, h, _ => h.elim
  | _ :: _, _, [], _, h, _ => h.elim
theorem ax_st_rev {M : ax_Mm} {ad : Nat → Int → Nat} : ∀ {a : List ax_V} {rs : List Value}, ax_st M ad a rs → ax_st M ad a.reverse rs.reverse
  | [], [], _ => trivial
  | v :: a, w :: rs, h => by
    rw [List.reverse_cons, List.reverse_cons]
    exact ax_st_snoc (ax_st_rev h.2) ⟨h.1, trivial⟩
  | [], _ :: _, h => h.elim
  | _ :: _, [], h => h.elim
theorem ax_st_len {M : ax_Mm} {ad : Nat → Int → Nat} : ∀ {a : List ax_V} {rs : List Value}, ax_st M ad a rs → rs.length = a.length
  | [], [], _ => rfl
  | _ :: _, _ :: _, h => by simp [ax_st_len h.2]
  | [], _ :: _, h => h.elim
  | _ :: _, [], h => h.elim
/-- the words that values take on the operand stack -/
def ax_sz (st : List ax_V) : Nat := (st.map fun v => if ax_nlg v = true then 1 else 2).sum
theorem ax_st_sz {M : ax_Mm} {ad : Nat → Int → Nat} : ∀ {a : List ax_V} {rs : List Value}, ax_st M ad a rs → (rs.map fun v => v.category).sum ≤ ax_sz a
  | [], [], _ => Nat.le_refl _
  | v :: a, w :: rs, h => by
    have ih := ax_st_sz h.2
    have hw : w.category ≤ if ax_nlg v = true then 1 else 2 := by
      by_cases hv : ax_nlg v = true
      · rw [if_pos hv, ax_cat1 h.1 hv]
        exact Nat.le_refl _
      · rw [if_neg hv]
        rcases lv_cat w with h | h <;> omega
    simp only [ax_sz, List.map_cons, List.sum_cons] at ih ⊢
    omega
  | [], _ :: _, h => h.elim
  | _ :: _, [], h => h.elim
/-- what is asked of a callee, of a caller's room -/
def ax_cal (y : MethodName) (cY : ByteArray) (nY : Nat) (rY : Option FieldType) (n : Nat) : Prop := Cond.code y cY nY rY ∈ ax_GT ∧ Cond.initialized y.cls ∈ ax_GT ∧ (y.cls ≠ "java/lang/invoke/MethodHandle" ∧ y.cls ≠ "java/lang/invoke/VarHandle") ∧ (parseMethodDescriptor y.desc).map (fun d => d.parameters.length) = some n ∧ nY ≤ 40
def ax_hav (R : Room) (d KC KS kc ks : Nat) : Prop := d + 1 ≤ R.frames ∧ 64 * (d + 1) ≤ R.locals ∧ kc + KC ≤ R.cells ∧ ks + KS ≤ R.slots
theorem ax_callB {p : Program} {s : State} {m : MethodId} {args : Array Value} {c : Code} {meth : Method} {N0 : Nat} {ad0 : Nat → Int → Nat} {y : MethodName} {cY : ByteArray} {nY n idx d KC KS kc ks : Nat} {rY : Option FieldType} (C : ax_C own cc nL scr p s m args c meth N0 ad0) (hy : ax_cal y cY nY rY n) (hl : Cond.methodLink (ax_nm own) idx y ∈ ax_GT) (hR : ax_hav R d KC KS kc ks) :
    CallB R s args (ax_nm own) idx y cY nY rY (.code y cY nY rY :: ax_GT) (ax_rm d KC KS) KC KS n := by
  obtain ⟨h1, h2, h3, h4, h5⟩ := hy
  have hts := C.2.2.2.2.1
  have hgood : ∀ w ∈ (Cond.code y cY nY rY :: ax_GT), ∀ (a' : Array Value) (U : State), s.WarmedH U.vm → w.before a' U = true := by
    intro w hw a' U hW
    have hw' : w ∈ ax_GT := by
      rcases List.mem_cons.mp hw with rfl | h
      · exact h1
      · exact h
    exact word_at hW (ax_GT_good w hw').2 (hts w hw')
  refine ⟨rfl, rfl, hR.1, ?_, hgood, List.mem_cons_self, hts _ h1, hts _ h2, h3, ?_, hts _ hl⟩
  · have := hR.2.1
    show 8 + (nY + 11) + 64 * d ≤ R.locals
    omega
  · intro sig hs
    rw [hs] at h4
    simpa using h4.symm
theorem aj_callS {y : MethodName} {cY : ByteArray} {nY idx d KC KS : Nat} {rY : Option FieldType} {av : List ax_V} {Qs : Option ax_V → ax_Mm → Prop} (hy : ax_cal y cY nY rY av.length) (hl : Cond.methodLink (ax_nm own) idx y ∈ ax_GT) (hst : Cond.static y ∈ ax_GT) (hs : ax_S y cY nY rY d KC KS av M Qs) (hR : ax_hav R d KC KS kc ks) (hz : ax_sz st ≤ 8) (h : decode cc pc = .ok (.invokestatic idx, 3))
    (kk : ∀ (r : Option ax_V) (M' : ax_Mm), Qs r M' → ax_J own cc nL scr R p0 Q (kc + KC) (ks + KS) (pc + 3) la (r.toList ++ st) M') : ax_J own cc nL scr R p0 Q kc ks pc la (av.reverse ++ st) M := by
  intro p l e s m args below meth c N0 D QQ ad0 C hret ad ls rs H locs Z L S
  obtain ⟨r1, r2, rfl, S1, S2⟩ := ax_st_app S
  have S3 := ax_st_rev S1
  rw [List.reverse_reverse] at S3
  refine ax_goon C hret Z L S2 (va_runS (As := r1.reverse) (rest := r2) (Ts := ax_GT) ⟨C.1, C.2.1, C.2.2.1, C.2.2.2.1, C.2.2.2.2.1⟩ (hs l D ad N0 r1.reverse S3) ⟨ax_callB C hy hl hR, C.2.2.2.2.1 _ hst⟩ ⟨ax_blind, ax_pre C Z⟩ rfl (by rw [ax_st_len S3]) L.2.choose_spec.1.1 (by simp) ?_ h ⟨hR.2.2.1, hR.2.2.2⟩) kk
  have := ax_st_sz S2
  simp [JFrame.monitorRoom]
  omega
theorem ax_rcv {D : va_G} {ad : Nat → Int → Nat} {N0 f ci : Nat} {o : Int} {s : State} {H : Heap} {q : vw_C} (hR : ax_R D N0 s ad M H) (hm : M.1 f o) (ho : ax_ob f = true) (hci : ∀ c' : Nat, ax_ok f c' = true → (c' : Int) = M.2.2.2 f o → c' = ci) (hq : vwCl[ci]? = some q) : ∃ cell : Cell, H[ad f o]? = some cell ∧ cell.vm.isStatics = false ∧ s.vm.findClass q.1 = some cell.cls := by
  obtain ⟨ws, tys, hK, hP, hD, hc, hi, hcl⟩ := hR
  obtain ⟨q0, en, h1, h2⟩ := hc f o hm (ax_hp_ob ho)
  obtain ⟨c', fs, rfl, h3, h4, h5, h6⟩ := ax_obj ho h2
  cases hci c' h3 h4
  exact va_recv hK hP hq h1
theorem ax_gin {l : List Cond} (h : ∀ w ∈ l, w ∈ ax_GT) : GoodIn ax_GT l := fun w hw => ax_GT_good w (h w hw)
theorem aj_callV {y : MethodName} {cY : ByteArray} {nY idx d KC KS f ci : Nat} {o : Int} {q : vw_C} {rY : Option FieldType} {av : List ax_V} {Qs : Option ax_V → ax_Mm → Prop} (hy : ax_cal y cY nY rY av.length) (hl : Cond.methodLink (ax_nm own) idx y ∈ ax_GT) (hin : Cond.instanceMethod y ∈ ax_GT) (hq : vwCl[ci]? = some q) (hsel : Cond.selects q.1 y y ∈ ax_GT) (ho : ax_ob f = true) (hci : ∀ c' : Nat, ax_ok f c' = true → (c' : Int) = M.2.2.2 f o → c' = ci)
    (hs : ax_S y cY nY rY d KC KS (.inr (.inr (some (f, o))) :: av) M Qs) (hR : ax_hav R d KC KS kc ks) (hz : ax_sz st ≤ 8) (h : decode cc pc = .ok (.invokevirtual idx, 3))
    (kk : ∀ (r : Option ax_V) (M' : ax_Mm), Qs r M' → ax_J own cc nL scr R p0 Q (kc + KC) (ks + KS) (pc + 3) la (r.toList ++ st) M') : ax_J own cc nL scr R p0 Q kc ks pc la (av.reverse ++ .inr (.inr (some (f, o))) :: st) M := by
  intro p l e s m args below meth c N0 D QQ ad0 C hret ad ls rs H locs Z L S
  obtain ⟨r1, r2, rfl, S1, S2⟩ := ax_st_app S
  have S3 := ax_st_rev S1
  rw [List.reverse_reverse] at S3
  obtain ⟨r3, rfl, hm, S4⟩ := ax_st_r S2
  refine ax_goon C hret Z L S4 (va_runV (C := q.1) (As := r1.reverse) (rest := r3) (Ts := ax_GT) ⟨C.1, C.2.1, C.2.2.1, C.2.2.2.1, C.2.2.2.2.1⟩ (hs l D ad N0 (.ref (ad f o) :: r1.reverse) ⟨⟨hm, rfl⟩, S3⟩) ⟨ax_callB C hy hl hR, C.2.2.2.2.1 _ hin, C.2.2.2.2.1 _ hsel⟩ ⟨ax_blind, ax_rcv Z.2.2.1 hm ho hci hq, ax_pre C Z⟩ rfl (by rw [ax_st_len S3]) L.2.choose_spec.1.1 (by simp) ?_ h ⟨hR.2.2.1, hR.2.2.2⟩) kk
  have := ax_st_sz S4
  simp [JFrame.monitorRoom]
  omega
/-- a method of the ants: linked as x (declared in 'owner'), taken as y by the receiver's class -/
theorem aj_callU {x y : MethodName} {owner : String} {cY b0 : ByteArray} {nY m0 idx d KC KS f ci : Nat} {r0 : Option FieldType} {o : Int} {q : vw_C} {rY : Option FieldType} {av : List ax_V} {Qs : Option ax_V → ax_Mm → Prop} (hy : ax_cal y cY nY rY av.length) (hl : Cond.methodLink (ax_nm own) idx x ∈ ax_GT) (hsm : Cond.sameMethod x.cls owner x.name x.desc ∈ ax_GT) (hin0 : Cond.instanceMethod ⟨owner, x.name, x.desc⟩ ∈ ax_GT) (hin : Cond.instanceMethod y ∈ ax_GT) (hq : vwCl[ci]? = some q) (hsel : Cond.selects q.1 x y ∈ ax_GT) (h0 : Cond.code ⟨owner, x.name, x.desc⟩ b0 m0 r0 ∈ ax_GT) (hd : owner ≠ "java/lang/invoke/MethodHandle" ∧ owner ≠ "java/lang/invoke/VarHandle" ∧ (parseMethodDescriptor x.desc).map (fun d => d.parameters.length) = some av.length) (ho : ax_ob f = true) (hci : ∀ c' : Nat, ax_ok f c' = true → (c' : Int) = M.2.2.2 f o → c' = ci)
    (hs : ax_S y cY nY rY d KC KS (.inr (.inr (some (f, o))) :: av) M Qs) (hR : ax_hav R d KC KS kc ks) (hz : ax_sz st ≤ 8) (h : decode cc pc = .ok (.invokevirtual idx, 3))
    (kk : ∀ (r : Option ax_V) (M' : ax_Mm), Qs r M' → ax_J own cc nL scr R p0 Q (kc + KC) (ks + KS) (pc + 3) la (r.toList ++ st) M') : ax_J own cc nL scr R p0 Q kc ks pc la (av.reverse ++ .inr (.inr (some (f, o))) :: st) M := by
  intro p l e s m args below meth c N0 D QQ ad0 C hret ad ls rs H locs Z L S
  obtain ⟨r1, r2, rfl, S1, S2⟩ := ax_st_app S
  have S3 := ax_st_rev S1
  rw [List.reverse_reverse] at S3
  obtain ⟨r3, rfl, hm, S4⟩ := ax_st_r S2
  have hgi : GoodIn ax_GT (va_wsO (ax_nm own) idx q.1 owner x y (.code y cY nY rY :: ax_GT)) := by
    refine ax_gin fun w hw => ?_
    unfold va_wsO at hw
    rcases List.mem_append.mp hw with hw | hw
    · simp only [List.mem_cons, List.not_mem_nil, or_false] at hw
      rcases hw with rfl | rfl | rfl | rfl | rfl | rfl
      · exact hl
      · exact hsm
      · exact hin0
      · exact hsel
      · exact hin
      · exact hy.2.1
    · rcases List.mem_cons.mp hw with rfl | hw
      · exact hy.1
      · exact hw
  refine ax_goon C hret Z L S4 (va_runU (C := q.1) (As := r1.reverse) (rest := r3) (Ts := ax_GT) ⟨C.1, C.2.1, C.2.2.1, C.2.2.2.1, C.2.2.2.2.1⟩ (hs l D ad N0 (.ref (ad f o) :: r1.reverse) ⟨⟨hm, rfl⟩, S3⟩) (va_cwO av.length C.2.2.2.2.1 hgi rfl rfl rfl h0 hd ⟨hR.1, by have := hR.2.1; have := hy.2.2.2.2; show 8 + (nY + 11) + 64 * d ≤ R.locals; omega⟩) ⟨ax_blind, ax_rcv Z.2.2.1 hm ho hci hq, ax_pre C Z⟩ rfl (by rw [ax_st_len S3]) L.2.choose_spec.1.1 (by simp) ?_ h ⟨hR.2.2.1, hR.2.2.2⟩) kk
  have := ax_st_sz S4
  simp [JFrame.monitorRoom]
  omega
/-- super.y(..) -/
theorem aj_callP {y : MethodName} {cY : ByteArray} {nY idx d KC KS f ci : Nat} {o : Int} {q : vw_C} {rY : Option FieldType} {av : List ax_V} {Qs : Option ax_V → ax_Mm → Prop} (hy : ax_cal y cY nY rY av.length) (hne : y.name ≠ "<init>") (hl : Cond.methodLink (ax_nm own) idx y ∈ ax_GT) (hsm : Cond.sameMethod y.cls y.cls y.name y.desc ∈ ax_GT) (hsu : Cond.superclass (ax_nm own) y.cls ∈ ax_GT) (hin : Cond.instanceMethod y ∈ ax_GT) (hq : vwCl[ci]? = some q) (ho : ax_ob f = true) (hci : ∀ c' : Nat, ax_ok f c' = true → (c' : Int) = M.2.2.2 f o → c' = ci)
    (hs : ax_S y cY nY rY d KC KS (.inr (.inr (some (f, o))) :: av) M Qs) (hR : ax_hav R d KC KS kc ks) (hz : ax_sz st ≤ 8) (h : decode cc pc = .ok (.invokespecial idx, 3))
    (kk : ∀ (r : Option ax_V) (M' : ax_Mm), Qs r M' → ax_J own cc nL scr R p0 Q (kc + KC) (ks + KS) (pc + 3) la (r.toList ++ st) M') : ax_J own cc nL scr R p0 Q kc ks pc la (av.reverse ++ .inr (.inr (some (f, o))) :: st) M := by
  intro p l e s m args below meth c N0 D QQ ad0 C hret ad ls rs H locs Z L S
  obtain ⟨r1, r2, rfl, S1, S2⟩ := ax_st_app S
  have S3 := ax_st_rev S1
  rw [List.reverse_reverse] at S3
  obtain ⟨r3, rfl, hm, S4⟩ := ax_st_r S2
  have hgi : GoodIn ax_GT (va_wsSU (ax_nm own) idx y (.code y cY nY rY :: ax_GT)) := by
    refine ax_gin fun w hw => ?_
    unfold va_wsSU at hw
    rcases List.mem_append.mp hw with hw | hw
    · simp only [List.mem_cons, List.not_mem_nil, or_false] at hw
      rcases hw with rfl | rfl | rfl | rfl | rfl
      · exact hl
      · exact hsm
      · exact hsu
      · exact hin
      · exact hy.2.1
    · rcases List.mem_cons.mp hw with rfl | hw
      · exact hy.1
      · exact hw
  have hca : ∃ cC, ClassAt s q.1 cC := by
    obtain ⟨ws, tys, hK, -⟩ := Z.2.2.1
    exact ⟨_, (hK.1 ci q hq).2⟩
  obtain ⟨cC, hca⟩ := hca
  refine ax_goon C hret Z L S4 (va_runSU (C := q.1) hca (As := r1.reverse) (rest := r3) (Ts := ax_GT) ⟨C.1, C.2.1, C.2.2.1, C.2.2.2.1, C.2.2.2.2.1⟩ (hs l D ad N0 (.ref (ad f o) :: r1.reverse) ⟨⟨hm, rfl⟩, S3⟩) (va_cwSU av.length C.2.2.2.2.1 hgi rfl rfl rfl ⟨hne, hy.2.2.2.1⟩ ⟨hR.1, by have := hR.2.1; have := hy.2.2.2.2; show 8 + (nY + 11) + 64 * d ≤ R.locals; omega⟩) ⟨ax_blind, ax_rcv Z.2.2.1 hm ho hci hq, ax_pre C Z⟩ rfl (by rw [ax_st_len S3]) L.2.choose_spec.1.1 (by simp) ?_ h ⟨hR.2.2.1, hR.2.2.2⟩) kk
  have := ax_st_sz S4
  simp [JFrame.monitorRoom]
  omega
/-- a constructor -/
theorem aj_callI {y : MethodName} {cY : ByteArray} {nY idx d KC KS f : Nat} {o : Int} {av : List ax_V} {Qs : Option ax_V → ax_Mm → Prop} (hy : ax_cal y cY nY none av.length) (hnm : y.name = "<init>") (hl : Cond.methodLink (ax_nm own) idx y ∈ ax_GT) (hin : Cond.instanceMethod y ∈ ax_GT)
    (hs : ax_S y cY nY none d KC KS (.inr (.inr (some (f, o))) :: av) M Qs) (hR : ax_hav R d KC KS kc ks) (hz : ax_sz st ≤ 8) (h : decode cc pc = .ok (.invokespecial idx, 3))
    (kk : ∀ (r : Option ax_V) (M' : ax_Mm), Qs r M' → ax_J own cc nL scr R p0 Q (kc + KC) (ks + KS) (pc + 3) la (r.toList ++ st) M') : ax_J own cc nL scr R p0 Q kc ks pc la (av.reverse ++ .inr (.inr (some (f, o))) :: st) M := by
  intro p l e s m args below meth c N0 D QQ ad0 C hret ad ls rs H locs Z L S
  obtain ⟨r1, r2, rfl, S1, S2⟩ := ax_st_app S
  have S3 := ax_st_rev S1
  rw [List.reverse_reverse] at S3
  obtain ⟨r3, rfl, hm, S4⟩ := ax_st_r S2
  refine ax_goon C hret Z L S4 (va_runI (As := r1.reverse) (rest := r3) (Ts := ax_GT) ⟨C.1, C.2.1, C.2.2.1, C.2.2.2.1, C.2.2.2.2.1⟩ (hs l D ad N0 (.ref (ad f o) :: r1.reverse) ⟨⟨hm, rfl⟩, S3⟩) ⟨ax_callB C hy hl hR, hnm, C.2.2.2.2.1 _ hin⟩ ⟨ax_blind, ax_pre C Z⟩ rfl (by rw [ax_st_len S3]) L.2.choose_spec.1.1 (by simp) ?_ h ⟨hR.2.2.1, hR.2.2.2⟩) kk
  have := ax_st_sz S4
  simp [JFrame.monitorRoom]
  omega
/-- a private constructor of a nest mate -/
theorem aj_callIN {y : MethodName} {host : String} {cY : ByteArray} {nY idx d KC KS f : Nat} {o : Int} {av : List ax_V} {Qs : Option ax_V → ax_Mm → Prop} (hy : ax_cal y cY nY none av.length) (hnm : y.name = "<init>") (hl : (ax_nm own, idx, y, host) ∈ ax_nst) (hin : Cond.instanceMethod y ∈ ax_GT)
    (hs : ax_S y cY nY none d KC KS (.inr (.inr (some (f, o))) :: av) M Qs) (hR : ax_hav R d KC KS kc ks) (hz : ax_sz st ≤ 8) (h : decode cc pc = .ok (.invokespecial idx, 3))
    (kk : ∀ (r : Option ax_V) (M' : ax_Mm), Qs r M' → ax_J own cc nL scr R p0 Q (kc + KC) (ks + KS) (pc + 3) la (r.toList ++ st) M') : ax_J own cc nL scr R p0 Q kc ks pc la (av.reverse ++ .inr (.inr (some (f, o))) :: st) M := by
  intro p l e s m args below meth c N0 D QQ ad0 C hret ad ls rs H locs Z L S
  obtain ⟨r1, r2, rfl, S1, S2⟩ := ax_st_app S
  have S3 := ax_st_rev S1
  rw [List.reverse_reverse] at S3
  obtain ⟨r3, rfl, hm, S4⟩ := ax_st_r S2
  have hgi : GoodIn ax_GT (.code y cY nY none :: ax_GT) := by
    refine ax_gin fun w hw => ?_
    rcases List.mem_cons.mp hw with rfl | hw
    · exact hy.1
    · exact hw
  refine ax_goon C hret Z L S4 (va_runIN (As := r1.reverse) (rest := r3) (Ts := ax_GT) ⟨C.1, C.2.1, C.2.2.1, C.2.2.2.1, C.2.2.2.2.1⟩ (hs l D ad N0 (.ref (ad f o) :: r1.reverse) ⟨⟨hm, rfl⟩, S3⟩) ⟨va_cnB av.length C.2.2.2.2.1 hgi rfl rfl rfl (C.2.2.2.2.2.2.1.2.2.2.2.2.2.2.2.2 _ hl) (C.2.2.2.2.1 _ hy.2.1) ⟨hy.2.2.1.1, hy.2.2.1.2, hy.2.2.2.1⟩ ⟨hR.1, by have := hR.2.1; have := hy.2.2.2.2; show 8 + (nY + 11) + 64 * d ≤ R.locals; omega⟩, hnm, C.2.2.2.2.1 _ hin⟩ ⟨ax_blind, ax_pre C Z⟩ rfl (by rw [ax_st_len S3]) L.2.choose_spec.1.1 (by simp) ?_ h ⟨hR.2.2.1, hR.2.2.2⟩) kk
  have := ax_st_sz S4
  simp [JFrame.monitorRoom]
  omega
/-- Object() -/
theorem aj_objI {idx f : Nat} {o : Int} (hl : Cond.methodLink (ax_nm own) idx Lib.objectInit ∈ ax_GT) (hin : Cond.instanceMethod Lib.objectInit ∈ ax_GT) (hc : Cond.code Lib.objectInit ⟨#[0xb1]⟩ 1 none ∈ ax_GT) (hR : 1 ≤ R.frames ∧ 64 ≤ R.locals) (hz : ax_sz st ≤ 8) (h : decode cc pc = .ok (.invokespecial idx, 3)) (kk : ax_J own cc nL scr R p0 Q kc ks (pc + 3) la st M) : ax_J own cc nL scr R p0 Q kc ks pc la (.inr (.inr (some (f, o))) :: st) M := by
  intro p l e s m args below meth c N0 D QQ ad0 C hret ad ls rs H locs Z L S
  obtain ⟨r3, rfl, hm, S4⟩ := ax_st_r S
  refine W.objInit C.1 C.2.1 C.2.2.2.1 (C.2.2.2.2.1 _ hl) (C.2.2.2.2.1 _ hin) (C.2.2.2.2.1 _ hc) rfl (by rw [C.2.2.1]; exact L.2.choose_spec.1.1) rfl h hR.1 ?_ ?_
  · have := ax_st_sz S4
    have := hR.2
    simp [JFrame.monitorRoom]
    omega
  · exact kk p l e s m args below meth c N0 D QQ ad0 C hret ad _ _ _ _ Z L S4
end AC
