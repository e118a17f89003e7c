/-! ===== nodes and codes come to the same ===== -/
theorem cJn_d {s x y : Int} (h : yOp s ≠ -1) : cJn s x y = wDone (yOp s) x y := by
  have hs : s = 43 ∨ s = 45 ∨ s = 42 ∨ s = 60 ∨ s = 61 ∨ s = 9 ∨ s = 8 := by
    unfold yOp at h
    omega
  rcases hs with rfl | rfl | rfl | rfl | rfl | rfl | rfl <;> simp [cJn, wDone, yOp]
theorem yOp_in {s : Int} (h : yOp s ≠ -1) : 10 ≤ yOp s ∧ yOp s ≤ 17 ∧ yOp s ≠ 12 := by
  unfold yOp at *
  repeat' split
  all_goals first | omega | (exfalso; simp_all)
/-- the nodes that wait, and the numbers that wait -/
def yRl (st : List Int) (ns : Int × (Int → Int)) (w : Int → Int) (kk : Int) : Prop := ns.1 = st.length ∧ ∀ (i : Nat) x, st[i]? = some x → ns.2 ((st.length : Int) - 1 - i) = w x ∧ 0 ≤ x ∧ x < kk
theorem yRl_p {st : List Int} {ns : Int × (Int → Int)} {w : Int → Int} {kk v : Int} (h : yRl st ns w kk) (hk : 0 ≤ kk) : yRl (kk :: st) (ns.1 + 1, wUp ns.2 ns.1 v) (wUp w kk v) (kk + 1) := by
  refine ⟨by show ns.1 + 1 = ((kk :: st).length : Int); rw [h.1, List.length_cons]; omega, fun i x hx => ?_⟩
  rw [List.length_cons]
  cases i with
  | zero =>
    have e : kk = x := Option.some.inj hx
    subst e
    refine ⟨?_, hk, by omega⟩
    show (if ((st.length + 1 : Nat) : Int) - 1 - ((0 : Nat) : Int) = ns.1 then v else _) = (if kk = kk then v else _)
    rw [if_pos (by rw [h.1]; omega), if_pos rfl]
  | succ i =>
    have hx : st[i]? = some x := hx
    have hi : i < st.length := (List.getElem?_eq_some_iff.mp hx).1
    obtain ⟨a1, a2, a3⟩ := h.2 i x hx
    refine ⟨?_, a2, by omega⟩
    show (if ((st.length + 1 : Nat) : Int) - 1 - ((i + 1 : Nat) : Int) = ns.1 then v else ns.2 _) = (if x = kk then v else w x)
    rw [if_neg (by rw [h.1]; omega), if_neg (by omega)]
    exact (congrArg ns.2 (by omega)).trans a1
theorem yRl_t {a : Int} {st : List Int} {ns : Int × (Int → Int)} {w : Int → Int} {kk : Int} (h : yRl (a :: st) ns w kk) : yRl st (ns.1 - 1, ns.2) w kk ∧ ns.2 (ns.1 - 1) = w a ∧ 0 ≤ a ∧ a < kk := by
  have h0 := h.2 0 a rfl
  have hl := h.1
  rw [List.length_cons] at hl
  refine ⟨⟨by show ns.1 - 1 = _; omega, fun i x hx => ?_⟩, ?_, h0.2⟩
  · have := h.2 (i + 1) x hx
    rw [List.length_cons] at this
    refine ⟨?_, this.2⟩
    exact (congrArg ns.2 (by omega)).trans this.1
  · have h01 := h0.1
    rw [List.length_cons] at h01
    exact (congrArg ns.2 (by omega)).trans h01
theorem yRl_1 {q : Int × Int × Int} {kk : Int} {st st' : List Int} {ns : Int × (Int → Int)} {w : Int → Int} {sg fs sc nm : Int → Int} {b : Int} (hk : 0 ≤ kk) (hb : (st.length : Int) ≤ 160) (hf : wf1 q kk st = some st') (h : yRl st ns w kk) (e1 : sg kk = q.1) (e2 : fs kk = q.2.1) (e3 : sc kk = q.2.2) :
    wEvOk (cdN q) ns.1 ∧ yRl st' (wEv1 (cdN q) nm ns) (wUp w kk (cV1 sg fs sc nm w kk)) (kk + 1) ∧ st'.length ≤ st.length + 1 ∧ (q.1 = 3 → 0 ≤ q.2.1 ∧ q.2.1 < 6) ∧ (q.1 ≠ 2 → q.1 ≠ 3 → 0 ≤ q.2.1 ∧ q.2.1 < kk) ∧ (q.1 ≠ 2 → q.1 ≠ 3 → q.1 ≠ 4 → q.1 ≠ 10 → 0 ≤ q.2.2 ∧ q.2.2 < kk) := by
  have hl := h.1
  unfold wf1 at hf
  by_cases c1 : (q.1 = 2 ∧ 0 ≤ q.2.1 ∧ q.2.1 ≤ 9999) ∨ (q.1 = 3 ∧ 0 ≤ q.2.1 ∧ q.2.1 < 6)
  · rw [if_pos c1] at hf
    have hst : kk :: st = st' := Option.some.inj hf
    subst hst
    rcases c1 with c | c
    · have ec : cdN q = -1 - q.2.1 := if_pos c.1
      have ev : cV1 sg fs sc nm w kk = q.2.1 := by unfold cV1; rw [e1, if_pos c.1, e2]
      have ew : wEv1 (cdN q) nm ns = (ns.1 + 1, wUp ns.2 ns.1 q.2.1) := by
        unfold wEv1
        rw [ec, if_pos (by omega)]
        simp only [show -1 - (-1 - q.2.1) = q.2.1 by omega]
      rw [ec, ← ec, ew, ev, ec]
      exact ⟨⟨by omega, fun _ => by omega, fun z => by omega, fun z => by omega⟩, yRl_p h hk, by simp, fun z => by omega, fun z => absurd c.1 z, fun z => absurd c.1 z⟩
    · have n2 : q.1 ≠ 2 := by omega
      have ec : cdN q = q.2.1 := by unfold cdN; rw [if_neg n2, if_pos c.1]
      have ev : cV1 sg fs sc nm w kk = nm q.2.1 := by unfold cV1; rw [e1, if_neg n2, if_pos c.1, e2]
      have ew : wEv1 (cdN q) nm ns = (ns.1 + 1, wUp ns.2 ns.1 (nm q.2.1)) := by
        unfold wEv1
        rw [ec, if_neg (by omega), if_pos (by omega)]
      rw [ew, ev, ec]
      exact ⟨⟨by omega, fun _ => by omega, fun z => by omega, fun z => by omega⟩, yRl_p h hk, by simp, fun z => c.2, fun _ z => absurd c.1 z, fun _ z => absurd c.1 z⟩
  · rw [if_neg c1] at hf
    by_cases c2 : q.1 = 4 ∨ q.1 = 10
    · rw [if_pos c2] at hf
      cases st with
      | nil => cases hf
      | cons a st2 =>
        have hf : (if a = q.2.1 then some (kk :: st2) else none) = some st' := hf
        by_cases ca : a = q.2.1
        · rw [if_pos ca] at hf
          have hst : kk :: st2 = st' := Option.some.inj hf
          subst hst
          obtain ⟨t1, t2, t3⟩ := yRl_t h
          rw [List.length_cons] at hl hb
          have hp := yRl_p (v := cV1 sg fs sc nm w kk) t1 hk
          have hns : (ns.1 - 1 + 1, wUp ns.2 (ns.1 - 1) (cV1 sg fs sc nm w kk)) = wEv1 (cdN q) nm ns := by
            rcases c2 with c | c
            · have ec : cdN q = 18 := by unfold cdN; rw [if_neg (by omega), if_neg (by omega), if_pos c]
              have ev : cV1 sg fs sc nm w kk = Int.bmod (-(w a)) 4294967296 := by unfold cV1; rw [e1, if_neg (by omega), if_neg (by omega), if_pos c, e2, ca]
              rw [ec, ev, ← t2]
              simp [wEv1, show ns.1 - 1 + 1 = ns.1 by omega]
            · have ec : cdN q = 12 := by unfold cdN; rw [if_neg (by omega), if_neg (by omega), if_neg (by omega), if_pos c]
              have ev : cV1 sg fs sc nm w kk = bI (w a = 0) := by unfold cV1; rw [e1, if_neg (by omega), if_neg (by omega), if_neg (by omega), if_pos c, e2, ca]
              rw [ec, ev, ← t2]
              simp [wEv1, bI, show ns.1 - 1 + 1 = ns.1 by omega]
          have hp : yRl (kk :: st2) (ns.1 - 1 + 1, wUp ns.2 (ns.1 - 1) (cV1 sg fs sc nm w kk)) (wUp w kk (cV1 sg fs sc nm w kk)) (kk + 1) := hp
          rw [hns] at hp
          have ec : cdN q = 18 ∨ cdN q = 12 := by
            rcases c2 with c | c
            · exact Or.inl (by unfold cdN; rw [if_neg (by omega), if_neg (by omega), if_pos c])
            · exact Or.inr (by unfold cdN; rw [if_neg (by omega), if_neg (by omega), if_neg (by omega), if_pos c])
          exact ⟨⟨by omega, fun z => by omega, fun _ _ => by omega, fun _ z1 z2 => by omega⟩, hp, by simp, fun z => by omega, fun _ _ => by rw [← ca]; exact t3, fun _ _ z1 z2 => by omega⟩
        · rw [if_neg ca] at hf
          cases hf
    · rw [if_neg c2] at hf
      by_cases c3 : yOp q.1 ≠ -1
      · rw [if_pos c3] at hf
        have ho := yOp_in c3
        cases st with
        | nil => cases hf
        | cons b2 st2 =>
          cases st2 with
          | nil => cases hf
          | cons a st3 =>
            have hf : (if a = q.2.1 ∧ b2 = q.2.2 then some (kk :: st3) else none) = some st' := hf
            by_cases ca : a = q.2.1 ∧ b2 = q.2.2
            · rw [if_pos ca] at hf
              have hst : kk :: st3 = st' := Option.some.inj hf
              subst hst
              obtain ⟨t1, t2, t3⟩ := yRl_t h
              obtain ⟨u1, u2, u3⟩ := yRl_t t1
              rw [List.length_cons, List.length_cons] at hl hb
              have n2 : q.1 ≠ 2 := fun z => c3 (by rw [z]; decide)
              have n3 : q.1 ≠ 3 := fun z => c3 (by rw [z]; decide)
              have ec : cdN q = yOp q.1 := by unfold cdN; rw [if_neg n2, if_neg n3, if_neg (by omega), if_neg (by omega)]
              have ev : cV1 sg fs sc nm w kk = wDone (yOp q.1) (w a) (w b2) := by unfold cV1; rw [e1, if_neg n2, if_neg n3, if_neg (by omega), if_neg (by omega), e2, e3, ← ca.1, ← ca.2, cJn_d c3]
              have u2 : ns.2 (ns.1 - 1 - 1) = w a := u2
              have hp : yRl (kk :: st3) (ns.1 - 1 - 1 + 1, wUp ns.2 (ns.1 - 1 - 1) (cV1 sg fs sc nm w kk)) (wUp w kk (cV1 sg fs sc nm w kk)) (kk + 1) := yRl_p u1 hk
              have hns : (ns.1 - 1 - 1 + 1, wUp ns.2 (ns.1 - 1 - 1) (cV1 sg fs sc nm w kk)) = wEv1 (cdN q) nm ns := by
                unfold wEv1
                rw [show ns.1 + -1 = ns.1 - 1 by omega, ec, if_neg (by omega), if_neg (by omega), if_neg (by omega), if_neg (by omega), ev, ← u2, ← t2, show ns.1 - 1 - 1 + 1 = ns.1 - 1 by omega]
              rw [hns] at hp
              rw [ec] at hp ⊢
              exact ⟨⟨by omega, fun z => by omega, fun _ z => by omega, fun _ z1 z2 => by omega⟩, hp, by simp, fun z => absurd z n3, fun _ _ => by rw [← ca.1]; exact u3, fun _ _ _ _ => by rw [← ca.2]; exact t3⟩
            · rw [if_neg ca] at hf
              cases hf
      · rw [if_neg c3] at hf
        cases hf
theorem wfx_tk {M : List (Int × Int × Int)} {b : Int} {st st' : List Int} (h : wfx M b st = some st') (k : Nat) : ∃ s, wfx (M.take k) b st = some s := by
  rw [← List.take_append_drop k M, wfx_app] at h
  cases e : wfx (M.take k) b st with
  | none => rw [e] at h; cases h
  | some s => exact ⟨s, rfl⟩
/-- the whole row -/
theorem yRl_all {M : List (Int × Int × Int)} {b : Int} {st' : List Int} {cd sg fs sc nm s0 w0 : Int → Int} (hM : M.length ≤ 160) (hb : 0 ≤ b) (h : wfx M b [] = some st') (hcd : ∀ (k : Nat) q, M[k]? = some q → cd k = cdN q ∧ sg (b + k) = q.1 ∧ fs (b + k) = q.2.1 ∧ sc (b + k) = q.2.2) : ∀ k : Nat, k ≤ M.length →
    ∃ st, wfx (M.take k) b [] = some st ∧ yRl st (wEvS cd nm s0 k) (cEv sg fs sc nm w0 b k) (b + k) ∧ st.length ≤ k
  | 0, _ => ⟨[], by rw [List.take_zero]; rfl, ⟨rfl, fun i x hx => by cases hx⟩, Nat.le_refl 0⟩
  | k + 1, hk => by
    obtain ⟨st, a1, a2, a3⟩ := yRl_all hM hb h hcd k (by omega)
    obtain ⟨s, hs⟩ := wfx_tk h (k + 1)
    have hlt : k < M.length := by omega
    have hq : M[k]? = some M[k] := List.getElem?_eq_getElem hlt
    obtain ⟨q1, q2, q3, q4⟩ := hcd k _ hq
    have htk : M.take (k + 1) = M.take k ++ [M[k]] := by rw [List.take_succ, hq]; rfl
    have hs2 := hs
    rw [htk, wfx_app, a1, List.length_take, Nat.min_eq_left (by omega)] at hs2
    have hs3 : (wf1 M[k] (b + k) st).bind (wfx [] (b + k + 1)) = some s := hs2
    cases e : wf1 M[k] (b + k) st with
    | none => rw [e] at hs3; cases hs3
    | some s2 =>
      rw [e] at hs3
      have hs4 : s2 = s := Option.some.inj hs3
      subst hs4
      have hst := yRl_1 (nm := nm) (b := b) (by omega) (by omega) e a2 q2 q3 q4
      refine ⟨s2, hs, ?_, by omega⟩
      rw [show ((k + 1 : Nat) : Int) = (k : Int) + 1 by omega, wEvS_s (by omega), cEv_s (by omega), q1, show b + ((k : Int) + 1) = b + k + 1 by omega]
      exact hst.2.1
theorem yRl_ok {M : List (Int × Int × Int)} {b : Int} {st' : List Int} {cd sg fs sc nm s0 : Int → Int} (hM : M.length ≤ 160) (hb : 0 ≤ b) (h : wfx M b [] = some st') (hcd : ∀ (k : Nat) q, M[k]? = some q → cd k = cdN q ∧ sg (b + k) = q.1 ∧ fs (b + k) = q.2.1 ∧ sc (b + k) = q.2.2) (k : Nat) (hk : k < M.length) :
    wEvOk (cd k) (wEvS cd nm s0 k).1 ∧ (sg (b + k) = 3 → 0 ≤ fs (b + k) ∧ fs (b + k) < 6) ∧ (sg (b + k) ≠ 2 → sg (b + k) ≠ 3 → 0 ≤ fs (b + k) ∧ fs (b + k) < b + k) ∧ (sg (b + k) ≠ 2 → sg (b + k) ≠ 3 → sg (b + k) ≠ 4 → sg (b + k) ≠ 10 → 0 ≤ sc (b + k) ∧ sc (b + k) < b + k) := by
  obtain ⟨st, a1, a2, a3⟩ := yRl_all (nm := nm) (s0 := s0) (w0 := fun _ => 0) hM hb h hcd k (by omega)
  obtain ⟨s, hs⟩ := wfx_tk h (k + 1)
  have hq : M[k]? = some M[k] := List.getElem?_eq_getElem hk
  obtain ⟨q1, q2, q3, q4⟩ := hcd k _ hq
  have htk : M.take (k + 1) = M.take k ++ [M[k]] := by rw [List.take_succ, hq]; rfl
  have hs2 := hs
  rw [htk, wfx_app, a1, List.length_take, Nat.min_eq_left (by omega)] at hs2
  have hs3 : (wf1 M[k] (b + k) st).bind (wfx [] (b + k + 1)) = some s := hs2
  cases e : wf1 M[k] (b + k) st with
  | none => rw [e] at hs3; cases hs3
  | some s2 =>
    have hst := yRl_1 (nm := nm) (b := b) (by omega) (by omega) e a2 q2 q3 q4
    rw [q1, q2, q3, q4]
    exact ⟨hst.1, hst.2.2.2⟩
/-- a part of a rule: its nodes and its codes -/
theorem part_ok {g h : Nat → Int → Int → Int} {n : Nat → Int → Int} {t p b row : Int} {M : List (Int × Int × Int)} (hM : M.length ≤ 160) (hb : 0 ≤ b) (hw : wfx M b [] = some [b + M.length - 1]) (hM1 : 1 ≤ M.length)
    (hcd : ∀ (k : Nat) q, M[k]? = some q → wCd h row k = cdN q ∧ g 600 t (b + k) = q.1 ∧ g 601 t (b + k) = q.2.1 ∧ g 602 t (b + k) = q.2.2) (h113 : h 113 0 row = M.length) (hro : g 603 t p = b + M.length - 1) (hfi : cFst (g 603 t) p = b) (hn : (n 603 t = 3 ∧ n 601 t = n 600 t ∧ n 602 t = n 600 t ∧ n 604 t = n 600 t ∧ n 600 t ≤ 1000) ∧ b + M.length ≤ n 600 t) :
    wRow1 h row ∧ cWf g n t p ∧ ∀ nm w0, cRe g t p nm w0 = wVl h row nm := by
  have hM' : ((M.length : Nat) : Int).toNat = M.length := by omega
  refine ⟨⟨⟨by omega, fun nm s0 k z1 z2 => ?_⟩, fun nm s0 => ?_⟩, ⟨hn.1, by rw [hfi, hro]; omega, fun k z1 z2 => ?_⟩, fun nm w0 => ?_⟩
  · have := (yRl_ok (nm := nm) (s0 := s0) hM hb hw hcd k.toNat (by omega)).1
    rw [show ((k.toNat : Nat) : Int) = k by omega] at this
    exact this
  · obtain ⟨st, a1, a2, a3⟩ := yRl_all (nm := nm) (s0 := s0) (w0 := fun _ => 0) hM hb hw hcd M.length (Nat.le_refl _)
    rw [List.take_length, hw] at a1
    have e : [b + (M.length : Int) - 1] = st := Option.some.inj a1
    rw [h113, a2.1, ← e]
    show (1 : Int) ≤ ((1 : Nat) : Int)
    omega
  · rw [hfi] at z1
    rw [hro] at z2
    have := (yRl_ok (nm := fun _ => 0) (s0 := fun _ => 0) hM hb hw hcd (k - b).toNat (by omega)).2
    rw [show b + (((k - b).toNat : Nat) : Int) = k by omega] at this
    exact ⟨this.1, fun y1 y2 => by have := this.2.1 y1 y2; omega, fun y1 y2 y3 y4 => by have := this.2.2 y1 y2 y3 y4; omega⟩
  · obtain ⟨st, a1, a2, a3⟩ := yRl_all (nm := nm) (s0 := fun _ => 0) (w0 := w0) hM hb hw hcd M.length (Nat.le_refl _)
    rw [List.take_length, hw] at a1
    have e : [b + (M.length : Int) - 1] = st := Option.some.inj a1
    subst e
    have := (a2.2 0 _ rfl).1
    unfold cRe wVl
    rw [hfi, hro, h113, show b + (M.length : Int) - 1 + 1 - b = M.length by omega, ← this]
    rfl
