/-! ===== level by level ===== -/
def FoN (t z : Int) : Prop := (oTi t = false ∧ oPl t = false) ∧ ((t = 60 ∨ t = 61) → z ≠ 0)
def FoE (t z : Int) : Prop := (FoN t z ∧ oAn t = false) ∧ oOr t = false
theorem FoE_n {t z : Int} (h : FoE t z) : ¬ (yOp t ≠ -1 ∧ ¬ (wRank (yOp t) = 4 ∧ z ≠ 0)) := by
  rintro ⟨h1, h2⟩
  obtain ⟨⟨⟨⟨a1, a2⟩, a3⟩, a4⟩, a5⟩ := h
  have b1 : t ≠ 42 := fun e => by rw [e] at a1; revert a1; decide
  have b2 : t ≠ 43 := fun e => by rw [e] at a2; revert a2; decide
  have b3 : t ≠ 45 := fun e => by rw [e] at a2; revert a2; decide
  have b4 : t ≠ 9 := fun e => by rw [e] at a4; revert a4; decide
  have b5 : t ≠ 8 := fun e => by rw [e] at a5; revert a5; decide
  by_cases c : t = 60 ∨ t = 61
  · refine h2 ⟨?_, a3 c⟩
    rcases c with rfl | rfl <;> decide
  · refine h1 ?_
    unfold yOp
    rw [if_neg b2, if_neg b3, if_neg b1, if_neg (by omega), if_neg (by omega), if_neg b4, if_neg b5]
theorem wRank_8 {t : Int} : wRank t < 8 := by
  unfold wRank
  repeat' split
  all_goals decide
theorem wRank_0 {t : Int} : 0 ≤ wRank t := by
  unfold wRank
  repeat' split
  all_goals decide
section YT
variable {T V p : Int → Int} {N : Int}
theorem yLq {ops : Int → Bool} {sub : rdF} {d : Nat} {r r' rt' : Int} {lo : Bool} {Fo' : Int → Int → Prop} (hN : T N = 0) (hN1 : N ≤ 160) (hp : ∀ i, p i ≠ -1) (he : rEp sub) (hs : ySim T V p N sub d r' rt' lo Fo')
    (ho0 : ops 0 = false) (hop : ∀ t, ops t = true → yOp t ≠ -1 ∧ wRank (yOp t) = r ∧ yOp t ≠ 30 ∧ yOp t ≠ 12 ∧ yOp t ≠ 18 ∧ t ≠ 59 ∧ t ≠ 2 ∧ t ≠ 3 ∧ t ≠ 4 ∧ t ≠ 10 ∧ (lo = true → t ≠ 9 ∧ t ≠ 8) ∧ (lo = false → t = 9 ∨ t = 8)) (hr4 : r ≠ 4) (hlo : lo = true → 4 < r) (hlo2 : lo = false → r < 4) (hrr : r < r') (hrt : r < rt') :
    ySim T V p N (fun s => rLp T ops sub 160 (sub s)) d r r lo (fun t z => Fo' t z ∧ ops t = false) := by
  intro i L mn w em o nst c h1 h2 h3 h4 h5 h6 h7 h8
  obtain ⟨s1, s2⟩ := hs i L mn w em o nst c h1 h2 h3 h4 h5 (yTop_le (Int.le_of_lt hrt) h6) h7 h8
  show yOut T V p N r lo _ i L mn w em o nst c (rLp T ops sub 160 (sub (i, L, -1)))
  by_cases e : (sub (i, L, -1)).2.2.2 = -1
  · obtain ⟨M, i', mn', w1, em1, o1, c1, g1, ⟨g2, g3, g4⟩, g5, g6, g7, g8, g9, g10⟩ := s2 e
    rw [g1]
    exact yLp hN hN1 hp he hs ho0 hop hr4 hlo hlo2 hrr hrt i L mn w em o nst c h1 h3 h4 h5 h6 160 M i' mn' w1 em1 o1 c1 (by omega) g2 g3 g4 g5 g6 (yPop_dn (Int.le_of_lt hrr) g7) g8 g9 g10
  · have e2 : (rLp T ops sub 160 (sub (i, L, -1))).2.2.2 = (sub (i, L, -1)).2.2.2 := rLp_e he 160 _ e
    refine ⟨fun _ => ?_, fun z => absurd (e2.symm.trans z) e⟩
    rw [e2]
    exact s1 e
theorem yTerm {one : rdF} {d : Nat} (hN : T N = 0) (hN1 : N ≤ 160) (hp : ∀ i, p i ≠ -1) (he : rEp one) (hs : ySim T V p N one d 7 8 true (fun _ _ => True)) : ySim T V p N (rTerm T one) d 6 6 true (fun t _ => True ∧ oTi t = false) :=
  yLq hN hN1 hp he hs rfl (fun t h => by have e : t = 42 := by simpa [oTi] using h
                                         subst e; decide) (by decide) (by decide) (by decide) (by decide) (by decide)
theorem ySum {one : rdF} {d : Nat} (hN : T N = 0) (hN1 : N ≤ 160) (hp : ∀ i, p i ≠ -1) (he : rEp one) (hs : ySim T V p N one d 7 8 true (fun _ _ => True)) : ySim T V p N (rSum T one) d 5 5 true (fun t _ => (True ∧ oTi t = false) ∧ oPl t = false) :=
  yLq hN hN1 hp (rTerm_e he) (yTerm hN hN1 hp he hs) rfl (fun t h => by have e : t = 43 ∨ t = 45 := by simpa [oPl] using h
                                                                        rcases e with rfl | rfl <;> decide) (by decide) (by decide) (by decide) (by decide) (by decide)
theorem yBoth {nt : rdF} {d : Nat} (hN : T N = 0) (hN1 : N ≤ 160) (hp : ∀ i, p i ≠ -1) (he : rEp nt) (hs : ySim T V p N nt d 3 4 false FoN) : ySim T V p N (rBoth T nt) d 2 2 false (fun t z => FoN t z ∧ oAn t = false) :=
  yLq hN hN1 hp he hs rfl (fun t h => by have e : t = 9 := by simpa [oAn] using h
                                         subst e; decide) (by decide) (by decide) (by decide) (by decide) (by decide)
theorem yEith {nt : rdF} {d : Nat} (hN : T N = 0) (hN1 : N ≤ 160) (hp : ∀ i, p i ≠ -1) (he : rEp nt) (hs : ySim T V p N nt d 3 4 false FoN) : ySim T V p N (rEith T nt) d 1 1 false FoE :=
  yLq hN hN1 hp (rBoth_e he) (yBoth hN hN1 hp he hs) rfl (fun t h => by have e : t = 8 := by simpa [oOr] using h
                                                                        subst e; decide) (by decide) (by decide) (by decide) (by decide) (by decide)
theorem yStp_f {i : Int} {mn : Bool} {w em : List Int} {o nst : Int} {c : Int → Int} (h1 : ¬ (T i = 2 ∨ T i = 3)) (h2 : ¬ ((T i = 40 ∨ T i = 45 ∨ (mn = true ∧ T i = 10)) ∧ o ≠ 5)) : yFl T V p (i, (true, mn), (w, em, o), nst, c) (p i) := by
  refine yFl_0 (a := (i, (true, mn), (w, em, o), nst, c)) ?_ (fun z => by cases z.1)
  show yStp T V i true mn w em o nst c = none
  unfold yStp
  rw [if_pos rfl, if_neg h1, if_neg h2]
theorem yStp_o {i : Int} {mn : Bool} {w em : List Int} {o nst : Int} {c : Int → Int} (h1 : ¬ (T i = 2 ∨ T i = 3)) (h2 : (T i = 40 ∨ T i = 45 ∨ (mn = true ∧ T i = 10)) ∧ o ≠ 5) : yStep T V (i, (true, mn), (w, em, o), nst, c) = some (i + 1, (true, decide (T i ≠ 45)), ((if T i = 40 then 30 else if T i = 10 then 12 else 18) :: w, em, o + 1), (if T i = 40 then nst + 1 else nst), (if T i = 40 then wUp c (nst + 1) 0 else c)) := by
  show yStp T V i true mn w em o nst c = _
  unfold yStp
  rw [if_pos rfl, if_neg h1, if_pos h2]
theorem wfx_u {M : List (Int × Int × Int)} {k x sg : Int} {st : List Int} (h : wfx M k st = some (x :: st)) (hsg : sg = 4 ∨ sg = 10) : wfx (M ++ [(sg, x, 0)]) k st = some ((k + M.length) :: st) := by
  rw [wfx_app, h]
  show (wf1 (sg, x, 0) (k + M.length) (x :: st)).bind _ = _
  unfold wf1
  rw [if_neg (by show ¬ ((sg = 2 ∧ _) ∨ (sg = 3 ∧ _)); omega), if_pos (by exact hsg)]
  show (if x = x then some ((k + M.length) :: st) else none).bind _ = _
  rw [if_pos rfl]
  rfl
theorem yNot {sub : Option rdF} {one : rdF} {d : Nat} (hN : T N = 0) (hN1 : N ≤ 160) (hp : ∀ i, p i ≠ -1) (he : rEp one) (hs : ySim T V p N one d 7 8 true (fun _ _ => True)) (h0 : sub = none → d = 0) (hf : ∀ f, sub = some f → rEp f ∧ ∃ d', d = d' + 1 ∧ ySim T V p N f d' 3 4 false FoN) : ySim T V p N (rNot T p N sub one) d 3 4 false FoN := by
  have hsum := ySum hN hN1 hp he hs
  have hse := rSum_e (T := T) he
  intro i L mn w em o nst c h1 h2 h3 h4 h5 h6 h7 h8
  obtain ⟨hmn, hc0⟩ := h8 rfl
  unfold rNot
  by_cases c10 : T i = 10
  · rw [if_pos (show T (i, L, (-1 : Int)).1 = 10 from c10)]
    cases sub with
    | none =>
      have hd := h0 rfl
      refine ⟨fun _ => ?_, fun z => absurd z (by show (rRef p N (i, L, -1)).2.2 ≠ -1; unfold rRef; rw [if_pos rfl]; exact hp i)⟩
      show yFl T V p _ (rRef p N (i, L, -1)).2.2
      rw [show (rRef p N (i, L, -1)).2.2 = p i by unfold rRef; rw [if_pos rfl]]
      exact yStp_f (by omega) (fun z => z.2 (by omega))
    | some f =>
      obtain ⟨hfe, d', rfl, hfs⟩ := hf f rfl
      have hi1 : i + 1 ≤ N := rAd_i hN h2 c10 (by decide)
      have hst := yStp_o (T := T) (V := V) (i := i) (mn := mn) (w := w) (em := em) (o := o) (nst := nst) (c := c) (by omega) ⟨Or.inr (Or.inr ⟨hmn, c10⟩), by omega⟩
      rw [if_neg (by omega), if_pos c10, if_neg (by omega), if_neg (by omega), decide_eq_true (show T i ≠ 45 by omega)] at hst
      obtain ⟨s1, s2⟩ := hfs (i + 1) L true (12 :: w) em (o + 1) nst c (by omega) hi1 (by omega) (by omega) h5 (yTop_c (Or.inr (by decide))) (fun z => by cases z) (fun _ => ⟨rfl, hc0⟩)
      have hre := yRe_s hst yRe_0
      show yOut T V p N 3 false FoN i L mn w em o nst c (rNd 10 (f (i + 1, L, -1)).1 0 (f (i + 1, L, -1)).2)
      by_cases e : (f (i + 1, L, -1)).2.2.2 = -1
      · obtain ⟨M, i', mn', w1, em1, o1, c1, g1, ⟨g2, g3, g4⟩, g5, g6, g7, g8, g9, g10⟩ := s2 e
        have hlt : (L ++ M).length < 160 := by rw [List.length_append]; omega
        rw [g1, rNd_y (s := (i', L ++ M, -1)) hlt]
        refine ⟨fun z => absurd rfl z, fun _ => ⟨M ++ [(10, (L.length : Int) + M.length - 1, 0)], i', mn', w1, em1, o1, c1, ?_, ⟨by omega, g3, ?_⟩, fun st => ?_, yRe_t hre g6, ?_, g8, (fun z => by cases z), g10⟩⟩
        · show (((L ++ M).length : Int), (i', L ++ M ++ [(10, (L.length : Int) + M.length - 1, 0)], (-1 : Int))) = _
          rw [List.length_append, List.length_append, List.append_assoc]
          show (((L.length + M.length : Nat) : Int), _) = ((L.length : Int) + ((M.length + 1 : Nat) : Int) - 1, _)
          congr 1
          omega
        · rw [List.length_append]
          show ((M.length + 1 : Nat) : Int) ≤ i' - i
          omega
        · rw [wfx_u (g5 st) (Or.inr rfl), List.length_append]
          show _ = some (((L.length : Int) + ((M.length + 1 : Nat) : Int) - 1) :: st)
          congr 2
          omega
        · rw [g7, yPop_y ⟨by decide, by decide⟩, if_pos (Or.inl rfl), List.map_append, List.append_assoc, show o + 1 - 1 = o by omega]
          rfl
      · refine ⟨fun _ => ?_, fun z => absurd ((rNd_e).symm.trans z) e⟩
        rw [rNd_e]
        exact yFl_t hre (s1 e)
  · rw [if_neg (show ¬ T (i, L, (-1 : Int)).1 = 10 from c10)]
    obtain ⟨s1, s2⟩ := hsum i L mn w em o nst c h1 h2 h3 h4 h5 (yTop_le (by decide) h6) (fun _ z => absurd z c10) (fun z => by cases z)
    by_cases e : (rSum T one (i, L, -1)).2.2.2 = -1
    · obtain ⟨M, i', mn', w1, em1, o1, c1, g1, ⟨g2, g3, g4⟩, g5, g6, g7, g8, g9, ⟨⟨-, g10⟩, g11⟩⟩ := s2 e
      have hc1 : c1 nst = 0 := (g9 rfl).mpr hc0
      rw [g1]
      by_cases cc : T i' = 60 ∨ T i' = 61
      · rw [if_pos (by exact cc)]
        have hi1 : i' + 1 ≤ N := rAd_i hN g3 rfl (by omega)
        have hop : yOp (T i') ≠ -1 ∧ wRank (yOp (T i')) = 4 ∧ yOp (T i') ≠ 30 ∧ yOp (T i') ≠ 12 ∧ yOp (T i') ≠ 18 := by rcases cc with z | z <;> rw [z] <;> decide
        obtain ⟨p1, p2, p3, p4, p5⟩ := hop
        have n59 : T i' ≠ 59 := by rcases cc with z | z <;> rw [z] <;> decide
        have n2 : T i' ≠ 2 ∧ T i' ≠ 3 ∧ T i' ≠ 4 ∧ T i' ≠ 10 := by rcases cc with z | z <;> rw [z] <;> decide
        have hpw : yPop 4 w1 em1 o1 = (w, em ++ M.map cdN, o) := by rw [yPop_dn (by decide) g7, yPop_t h6]
        have hst : yStep T V (i', (false, mn'), (w1, em1, o1), nst, c1) = some (i' + 1, (true, false), (yOp (T i') :: w, em ++ M.map cdN, o), nst, wUp c1 nst 1) := by
          show yStp T V i' false mn' w1 em1 o1 nst c1 = _
          unfold yStp
          rw [if_neg (by decide), if_neg (by omega), if_pos ⟨p1, fun z => z.2 hc1⟩, p2, hpw, if_pos (Or.inl rfl), decide_eq_false (by omega)]
        have hre := yRe_t g6 (yRe_s hst yRe_0)
        have hlen : ((L ++ M).length : Int) = L.length + M.length := by rw [List.length_append]; omega
        obtain ⟨t1, t2⟩ := hsum (i' + 1) (L ++ M) false (yOp (T i') :: w) (em ++ M.map cdN) o nst (wUp c1 nst 1) (by omega) hi1 (by omega) h4 h5 (yTop_c (Or.inr (by omega))) (fun _ _ => rfl) (fun z => by cases z)
        show yOut T V p N 3 false FoN i L mn w em o nst c (rNd (T i') ((L.length : Int) + M.length - 1) (rSum T one (i' + 1, L ++ M, -1)).1 (rSum T one (i' + 1, L ++ M, -1)).2)
        by_cases e2 : (rSum T one (i' + 1, L ++ M, -1)).2.2.2 = -1
        · obtain ⟨M2, i2, mn2, w2, em2, o2, c2, k1, ⟨k2, k3, k4⟩, k5, k6, k7, k8, k9, ⟨⟨-, k10⟩, k11⟩⟩ := t2 e2
          have hlt : (L ++ M ++ M2).length < 160 := by rw [List.length_append]; omega
          have hc2 : c2 nst ≠ 0 := fun z => by
            have := (k9 rfl).mp z
            rw [show wUp c1 nst 1 nst = 1 from if_pos rfl] at this
            cases this
          have hM3 : ((M ++ M2 ++ [(T i', (L.length : Int) + M.length - 1, ((L ++ M).length : Int) + M2.length - 1)]).length : Int) = M.length + M2.length + 1 := by rw [List.length_append, List.length_append]; show ((M.length + M2.length + 1 : Nat) : Int) = _; omega
          have hco : cdN (T i', (L.length : Int) + M.length - 1, ((L ++ M).length : Int) + M2.length - 1) = yOp (T i') := by
            unfold cdN
            rw [if_neg (by exact n2.1), if_neg (by exact n2.2.1), if_neg (by exact n2.2.2.1), if_neg (by exact n2.2.2.2)]
          have k5' : ∀ st, wfx M2 ((L.length : Int) + M.length) st = some ((((L ++ M).length : Int) + M2.length - 1) :: st) := fun st => by
            rw [← hlen]
            exact k5 st
          rw [k1, rNd_y (s := (i2, L ++ M ++ M2, -1)) hlt]
          refine ⟨fun z => absurd rfl z, fun _ => ⟨M ++ M2 ++ [(T i', (L.length : Int) + M.length - 1, ((L ++ M).length : Int) + M2.length - 1)], i2, mn2, w2, em2, o2, c2, ?_, ⟨by omega, k3, by omega⟩, fun st => ?_, yRe_t hre k6, ?_, fun j z => ?_, (fun z => by cases z), ⟨⟨k10, k11⟩, fun _ => hc2⟩⟩⟩
          · show (((L ++ M ++ M2).length : Int), (i2, L ++ M ++ M2 ++ [(T i', (L.length : Int) + M.length - 1, ((L ++ M).length : Int) + M2.length - 1)], (-1 : Int))) = _
            rw [hM3, show L ++ M ++ M2 ++ [(T i', (L.length : Int) + M.length - 1, ((L ++ M).length : Int) + M2.length - 1)] = L ++ (M ++ M2 ++ [(T i', (L.length : Int) + M.length - 1, ((L ++ M).length : Int) + M2.length - 1)]) by simp only [List.append_assoc]]
            congr 1
            rw [List.length_append, List.length_append]
            omega
          · rw [hM3, wfx_app, wfx_app, g5 st]
            show ((wfx M2 ((L.length : Int) + M.length) (((L.length : Int) + M.length - 1) :: st)).bind _) = _
            rw [k5']
            show (wf1 (T i', (L.length : Int) + M.length - 1, ((L ++ M).length : Int) + M2.length - 1) ((L.length : Int) + ((M ++ M2).length : Int)) _).bind _ = _
            unfold wf1
            rw [if_neg (by show ¬ ((T i' = 2 ∧ _) ∨ (T i' = 3 ∧ _)); rintro (z | z); exact n2.1 z.1; exact n2.2.1 z.1), if_neg (by show ¬ (T i' = 4 ∨ T i' = 10); rintro (z | z); exact n2.2.2.1 z; exact n2.2.2.2 z), if_pos (by exact p1)]
            show (if ((L.length : Int) + M.length - 1 = (L.length : Int) + M.length - 1 ∧ ((L ++ M).length : Int) + M2.length - 1 = ((L ++ M).length : Int) + M2.length - 1) then some (((L.length : Int) + ((M ++ M2).length : Int)) :: st) else none).bind _ = _
            rw [if_pos ⟨rfl, rfl⟩]
            show some (((L.length : Int) + ((M ++ M2).length : Int)) :: st) = _
            rw [List.length_append]
            congr 2
            omega
          · rw [yPop_dn (by decide) k7, yPop_y ⟨p3, by omega⟩, if_neg (by rintro (z | z); exact p4 z; exact p5 z), List.map_append, List.map_append, List.map_cons, List.map_nil, hco, Int.sub_zero]
            congr 1
            simp only [List.append_assoc]
          · rw [k8 j z, show wUp c1 nst 1 j = c1 j from if_neg (by omega)]
            exact g8 j z
        · refine ⟨fun _ => ?_, fun z => absurd ((rNd_e).symm.trans z) e2⟩
          rw [rNd_e]
          exact yFl_t hre (t1 e2)
      · rw [if_neg (by exact cc)]
        exact ⟨fun z => absurd rfl z, fun _ => ⟨M, i', mn', w1, em1, o1, c1, rfl, ⟨g2, g3, g4⟩, g5, g6, yPop_dn (by decide) g7, g8, (fun z => by cases z), ⟨⟨g10, g11⟩, fun z => absurd z cc⟩⟩⟩
    · have key : ∀ q : Int × rdS, q.2.2.2 = (rSum T one (i, L, -1)).2.2.2 → yOut T V p N 3 false FoN i L mn w em o nst c q := fun q hq => by
        refine ⟨fun _ => ?_, fun z => absurd (hq.symm.trans z) e⟩
        rw [hq]
        exact s1 e
      by_cases cc : T (rSum T one (i, L, -1)).2.1 = 60 ∨ T (rSum T one (i, L, -1)).2.1 = 61
      · rw [if_pos cc]
        refine key _ ?_
        rw [rNd_e]
        exact hse (rAdv (rSum T one (i, L, -1)).2) e
      · rw [if_neg cc]
        exact key _ rfl
theorem yOne {sub : Option (rdF × rdF)} {d : Nat} (hN : T N = 0) (hN1 : N ≤ 160) (hp : ∀ i, p i ≠ -1) (hV : ∀ i, (T i = 2 → 0 ≤ V i ∧ V i ≤ 9999) ∧ (T i = 3 → 0 ≤ V i ∧ V i < 6)) (h0 : sub = none → d = 0) (hf : ∀ q, sub = some q → (rEp q.1 ∧ rEp q.2) ∧ ∃ d', d = d' + 1 ∧ ySim T V p N q.1 d' 7 8 true (fun _ _ => True) ∧ ySim T V p N q.2 d' 1 1 false FoE) : ySim T V p N (rOne T V p N sub) d 7 8 true (fun _ _ => True) := by
  intro i L mn w em o nst c h1 h2 h3 h4 h5 h6 h7 h8
  have hr : ∀ z : Int, yFl T V p (i, (true, mn), (w, em, o), nst, c) (p i) → yOut T V p N 7 true (fun _ _ => True) i L mn w em o nst c (z, rRef p N (i, L, -1)) := fun z hz => by
    have e : (rRef p N (i, L, -1)).2.2 = p i := by unfold rRef; rw [if_pos rfl]
    exact ⟨fun _ => by rw [show (z, rRef p N (i, L, -1)).2.2.2 = p i from e]; exact hz, fun y => absurd (e.symm.trans y) (hp i)⟩
  unfold rOne
  by_cases c2 : T i = 2 ∨ T i = 3
  · rw [if_pos (show T (i, L, (-1 : Int)).1 = 2 ∨ T (i, L, (-1 : Int)).1 = 3 from c2)]
    have hi1 : i + 1 ≤ N := rAd_i hN h2 rfl (by omega)
    have hlt : L.length < 160 := by omega
    show yOut T V p N 7 true (fun _ _ => True) i L mn w em o nst c (rNd (T i) (V i) 0 (i + 1, L, -1))
    rw [rNd_y (s := (i + 1, L, -1)) hlt]
    have hst : yStep T V (i, (true, mn), (w, em, o), nst, c) = some (i + 1, (false, mn), yPop 7 w (em ++ [cdN (T i, V i, 0)]) o, nst, c) := by
      show yStp T V i true mn w em o nst c = _
      unfold yStp
      rw [if_pos rfl, if_pos c2]
      have : (if T i = 2 then -1 - V i else V i) = cdN (T i, V i, 0) := by
        unfold cdN
        by_cases z : T i = 2
        · rw [if_pos z, if_pos (by exact z)]
        · rw [if_neg z, if_neg (by exact z), if_pos (by show T i = 3; omega)]
      rw [this]
    refine ⟨fun z => absurd rfl z, fun _ => ⟨[(T i, V i, 0)], i + 1, mn, (yPop 7 w (em ++ [cdN (T i, V i, 0)]) o).1, (yPop 7 w (em ++ [cdN (T i, V i, 0)]) o).2.1, (yPop 7 w (em ++ [cdN (T i, V i, 0)]) o).2.2, c, ?_, ⟨by omega, hi1, ?_⟩, fun st => ?_, yRe_s hst yRe_0, yPop_le (Int.le_refl _) _ _ _, fun _ _ => rfl, fun _ => Iff.rfl, trivial⟩⟩
    · show _ = ((L.length : Int) + ((1 : Nat) : Int) - 1, _)
      rw [show (L.length : Int) + ((1 : Nat) : Int) - 1 = L.length by omega]
    · show ((1 : Nat) : Int) ≤ i + 1 - i
      omega
    · show (wf1 (T i, V i, 0) L.length st).bind _ = some (((L.length : Int) + ((1 : Nat) : Int) - 1) :: st)
      unfold wf1
      rw [if_pos (by show (T i = 2 ∧ 0 ≤ V i ∧ V i ≤ 9999) ∨ (T i = 3 ∧ 0 ≤ V i ∧ V i < 6); have := hV i; omega), show (L.length : Int) + ((1 : Nat) : Int) - 1 = L.length by omega]
      rfl
  · rw [if_neg (show ¬ (T (i, L, (-1 : Int)).1 = 2 ∨ T (i, L, (-1 : Int)).1 = 3) from c2)]
    cases sub with
    | none =>
      have hd := h0 rfl
      exact hr 0 (yStp_f c2 (fun z => z.2 (by omega)))
    | some q =>
      obtain ⟨⟨hq1, hq2⟩, d', rfl, hs1, hs2⟩ := hf q rfl
      show yOut T V p N 7 true (fun _ _ => True) i L mn w em o nst c (if T i = 45 then rNd 4 (q.1 (i + 1, L, -1)).1 0 (q.1 (i + 1, L, -1)).2 else if T i = 40 then ((q.2 (i + 1, L, -1)).1, rNeed T p N 41 (q.2 (i + 1, L, -1)).2) else (0, rRef p N (i, L, -1)))
      by_cases c45 : T i = 45
      · rw [if_pos c45]
        have hi1 : i + 1 ≤ N := rAd_i hN h2 c45 (by decide)
        have hst := yStp_o (T := T) (V := V) (i := i) (mn := mn) (w := w) (em := em) (o := o) (nst := nst) (c := c) c2 ⟨Or.inr (Or.inl c45), by omega⟩
        rw [if_neg (by omega), if_neg (by omega), if_neg (by omega), if_neg (by omega), decide_eq_false (show ¬ T i ≠ 45 by omega)] at hst
        obtain ⟨s1, s2⟩ := hs1 (i + 1) L false (18 :: w) em (o + 1) nst c (by omega) hi1 (by omega) (by omega) h5 (yTop_c (Or.inr wRank_8)) (fun _ _ => rfl) (fun z => by cases z)
        have hre := yRe_s hst yRe_0
        by_cases e : (q.1 (i + 1, L, -1)).2.2.2 = -1
        · obtain ⟨M, i', mn', w1, em1, o1, c1, g1, ⟨g2, g3, g4⟩, g5, g6, g7, g8, g9, g10⟩ := s2 e
          have hlt : (L ++ M).length < 160 := by rw [List.length_append]; omega
          rw [g1, rNd_y (s := (i', L ++ M, -1)) hlt]
          refine ⟨fun z => absurd rfl z, fun _ => ⟨M ++ [(4, (L.length : Int) + M.length - 1, 0)], i', mn', w1, em1, o1, c1, ?_, ⟨by omega, g3, ?_⟩, fun st => ?_, yRe_t hre g6, ?_, g8, g9, trivial⟩⟩
          · show (((L ++ M).length : Int), (i', L ++ M ++ [(4, (L.length : Int) + M.length - 1, 0)], (-1 : Int))) = _
            rw [List.length_append, List.length_append, List.append_assoc]
            show (((L.length + M.length : Nat) : Int), _) = ((L.length : Int) + ((M.length + 1 : Nat) : Int) - 1, _)
            congr 1
            omega
          · rw [List.length_append]
            show ((M.length + 1 : Nat) : Int) ≤ i' - i
            omega
          · rw [wfx_u (g5 st) (Or.inl rfl), List.length_append]
            show _ = some (((L.length : Int) + ((M.length + 1 : Nat) : Int) - 1) :: st)
            congr 2
            omega
          · rw [g7, yPop_y ⟨by decide, by decide⟩, if_pos (Or.inr rfl), List.map_append, List.append_assoc, show o + 1 - 1 = o by omega]
            rfl
        · refine ⟨fun _ => ?_, fun z => absurd ((rNd_e).symm.trans z) e⟩
          rw [rNd_e]
          exact yFl_t hre (s1 e)
      · rw [if_neg c45]
        by_cases c40 : T i = 40
        · rw [if_pos c40]
          have hi1 : i + 1 ≤ N := rAd_i hN h2 c40 (by decide)
          have hst := yStp_o (T := T) (V := V) (i := i) (mn := mn) (w := w) (em := em) (o := o) (nst := nst) (c := c) c2 ⟨Or.inl c40, by omega⟩
          rw [if_pos c40, if_pos c40, if_pos c40, decide_eq_true (show T i ≠ 45 by omega)] at hst
          have hcu : ∀ j, j ≠ nst + 1 → wUp c (nst + 1) 0 j = c j := fun j z => if_neg z
          obtain ⟨s1, s2⟩ := hs2 (i + 1) L true (30 :: w) em (o + 1) (nst + 1) (wUp c (nst + 1) 0) (by omega) hi1 (by omega) (by omega) (by omega) (yTop_c (Or.inl rfl)) (fun z => by cases z) (fun _ => ⟨rfl, if_pos rfl⟩)
          have hre := yRe_s hst yRe_0
          by_cases e : (q.2 (i + 1, L, -1)).2.2.2 = -1
          · obtain ⟨M, i', mn', w1, em1, o1, c1, g1, ⟨g2, g3, g4⟩, g5, g6, g7, g8, g9, g10⟩ := s2 e
            rw [yPop_t (yTop_c (Or.inl rfl))] at g7
            have hre2 := yRe_t hre g6
            rw [g1]
            show yOut T V p N 7 true (fun _ _ => True) i L mn w em o nst c ((L.length : Int) + M.length - 1, rNeed T p N 41 (i', L ++ M, -1))
            unfold rNeed
            by_cases c41 : T i' = 41
            · rw [if_pos (by exact c41)]
              have hi2 : i' + 1 ≤ N := rAd_i hN g3 c41 (by decide)
              have hst2 : yStep T V (i', (false, mn'), (w1, em1, o1), nst + 1, c1) = some (i' + 1, (false, mn'), yPop 7 w (em ++ M.map cdN) o, nst, c1) := by
                show yStp T V i' false mn' w1 em1 o1 (nst + 1) c1 = _
                unfold yStp
                rw [if_neg (by decide), if_neg (by omega), if_neg (fun z => z.1 (by rw [c41]; decide)), if_pos ⟨c41, by omega⟩, g7]
                show some (i' + 1, (false, mn'), yPop 7 w (em ++ M.map cdN) (o + 1 - 1), nst + 1 - 1, c1) = _
                rw [show o + 1 - 1 = o by omega, show nst + 1 - 1 = nst by omega]
              refine ⟨fun z => absurd rfl z, fun _ => ⟨M, i' + 1, mn', (yPop 7 w (em ++ M.map cdN) o).1, (yPop 7 w (em ++ M.map cdN) o).2.1, (yPop 7 w (em ++ M.map cdN) o).2.2, c1, rfl, ⟨by omega, hi2, by omega⟩, g5, yRe_t hre2 (yRe_s hst2 yRe_0), yPop_le (Int.le_refl _) _ _ _, fun j z => ?_, fun _ => ?_, trivial⟩⟩
              · rw [g8 j (by omega), hcu j (by omega)]
              · rw [g8 nst (by omega), hcu nst (by omega)]
            · rw [if_neg (by exact c41)]
              have e3 : (rRef p N (i', L ++ M, -1)).2.2 = p i' := by unfold rRef; rw [if_pos rfl]
              refine ⟨fun _ => ?_, fun z => absurd (e3.symm.trans z) (hp i')⟩
              rw [show (((L.length : Int) + M.length - 1, rRef p N (i', L ++ M, -1))).2.2.2 = p i' from e3]
              refine yFl_t hre2 (yFl_0 (a := (i', (false, mn'), (w1, em1, o1), nst + 1, c1)) ?_ (fun z => by have : nst + 1 = 0 := z.2.2; omega))
              show yStp T V i' false mn' w1 em1 o1 (nst + 1) c1 = none
              unfold yStp
              rw [if_neg (by decide), if_neg (by omega), if_neg (FoE_n g10), if_neg (fun z => c41 z.1)]
          · have e3 : ((q.2 (i + 1, L, -1)).1, rNeed T p N 41 (q.2 (i + 1, L, -1)).2).2.2.2 = (q.2 (i + 1, L, -1)).2.2.2 := rNeed_e e
            refine ⟨fun _ => ?_, fun z => absurd (e3.symm.trans z) e⟩
            rw [e3]
            exact yFl_t hre (s1 e)
        · rw [if_neg c40]
          exact hr 0 (yStp_f c2 (fun z => by
            rcases z.1 with y | y | y
            · exact c40 y
            · exact c45 y
            · rw [h7 rfl y.2] at y; cases y.1))
theorem yAll (hN : T N = 0) (hN1 : N ≤ 160) (hp : ∀ i, p i ≠ -1) (hV : ∀ i, (T i = 2 → 0 ≤ V i ∧ V i ≤ 9999) ∧ (T i = 3 → 0 ≤ V i ∧ V i < 6)) : ∀ d : Nat, ySim T V p N (rAll T V p N d).1 d 7 8 true (fun _ _ => True) ∧ ySim T V p N (rAll T V p N d).2 d 3 4 false FoN
  | 0 => by
    have h1 : ySim T V p N (rOne T V p N none) 0 7 8 true (fun _ _ => True) := yOne hN hN1 hp hV (fun _ => rfl) (fun q h => by cases h)
    exact ⟨h1, yNot hN hN1 hp (rAll_e 0).1 h1 (fun _ => rfl) (fun q h => by cases h)⟩
  | d + 1 => by
    obtain ⟨h1, h2⟩ := yAll hN hN1 hp hV d
    have he := rAll_e (T := T) (V := V) (p := p) (N := N) d
    have h3 : ySim T V p N (rOne T V p N (some ((rAll T V p N d).1, rEith T (rAll T V p N d).2))) (d + 1) 7 8 true (fun _ _ => True) := yOne hN hN1 hp hV (fun h => by cases h) (fun q h => by cases h; exact ⟨⟨he.1, rEith_e he.2⟩, d, rfl, h1, yEith hN hN1 hp he.2 h2⟩)
    exact ⟨h3, yNot hN hN1 hp (rAll_e (d + 1)).1 h3 (fun h => by cases h) (fun f h => by cases h; exact ⟨he.2, d, rfl, h2⟩)⟩
/-- a whole part, to its ';' -/
theorem yPart (hN : T N = 0) (hN1 : N ≤ 160) (hp : ∀ i, p i ≠ -1) (hV : ∀ i, (T i = 2 → 0 ≤ V i ∧ V i ≤ 9999) ∧ (T i = 3 → 0 ≤ V i ∧ V i < 6)) (i : Int) (L : List (Int × Int × Int)) (c : Int → Int) (h1 : 0 ≤ i) (h2 : i ≤ N) (h3 : (L.length : Int) ≤ i) (hc : c 0 = 0) :
    (∃ (M : List (Int × Int × Int)) (i' : Int) (b : syS), rEith T (rAll T V p N 5).2 (i, L, -1) = ((L.length : Int) + M.length - 1, (i', L ++ M, -1)) ∧ rNeed T p N 59 (i', L ++ M, -1) = (i' + 1, L ++ M, -1) ∧ (i < i' ∧ i' + 1 ≤ N ∧ (M.length : Int) ≤ i' - i) ∧ (∀ st, wfx M L.length st = some (((L.length : Int) + M.length - 1) :: st)) ∧
      yRe T V (i, (true, true), ([], [], 0), 0, c) b ∧ yStep T V b = none ∧ yDn T b ∧ b.1 = i' ∧ yPop 1 b.2.2.1.1 b.2.2.1.2.1 b.2.2.1.2.2 = ([], M.map cdN, 0)) ∨
    ((rNeed T p N 59 (rEith T (rAll T V p N 5).2 (i, L, -1)).2).2.2 ≠ -1 ∧ yFl T V p (i, (true, true), ([], [], 0), 0, c) (rNeed T p N 59 (rEith T (rAll T V p N 5).2 (i, L, -1)).2).2.2) := by
  have he := rAll_e (T := T) (V := V) (p := p) (N := N) 5
  obtain ⟨s1, s2⟩ := yEith hN hN1 hp he.2 (yAll hN hN1 hp hV 5).2 i L true [] [] 0 0 c h1 h2 h3 rfl (Int.le_refl _) (fun _ _ z => by cases z) (fun z => by cases z) (fun _ => ⟨rfl, hc⟩)
  by_cases e : (rEith T (rAll T V p N 5).2 (i, L, -1)).2.2.2 = -1
  · obtain ⟨M, i', mn', w1, em1, o1, c1, g1, ⟨g2, g3, g4⟩, g5, g6, g7, g8, g9, g10⟩ := s2 e
    by_cases c59 : T i' = 59
    · have hi2 : i' + 1 ≤ N := rAd_i hN g3 c59 (by decide)
      refine Or.inl ⟨M, i', (i', (false, mn'), (w1, em1, o1), 0, c1), g1, if_pos c59, ⟨g2, hi2, g4⟩, g5, g6, ?_, ⟨rfl, c59, rfl⟩, rfl, g7⟩
      show yStp T V i' false mn' w1 em1 o1 0 c1 = none
      unfold yStp
      rw [if_neg (by decide), if_pos ⟨c59, rfl⟩]
    · have e3 : (rNeed T p N 59 (i', L ++ M, -1)).2.2 = p i' := by unfold rNeed rRef; rw [if_neg (by exact c59), if_pos rfl]
      rw [g1]
      refine Or.inr ⟨?_, ?_⟩
      · show (rNeed T p N 59 (i', L ++ M, -1)).2.2 ≠ -1
        rw [e3]
        exact hp i'
      · show yFl T V p _ (rNeed T p N 59 (i', L ++ M, -1)).2.2
        rw [e3]
        refine yFl_t g6 (yFl_0 (a := (i', (false, mn'), (w1, em1, o1), 0, c1)) ?_ (fun z => c59 z.2.1))
        show yStp T V i' false mn' w1 em1 o1 0 c1 = none
        unfold yStp
        rw [if_neg (by decide), if_neg (fun z => c59 z.1), if_neg (FoE_n g10), if_neg (fun z => z.2 rfl)]
  · have e3 : (rNeed T p N 59 (rEith T (rAll T V p N 5).2 (i, L, -1)).2).2.2 = (rEith T (rAll T V p N 5).2 (i, L, -1)).2.2.2 := rNeed_e e
    rw [e3]
    exact Or.inr ⟨e, s1 e⟩
end YT
