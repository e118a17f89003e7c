/-! ===== that both readings come to the same ===== -/
/-- f, reading from i on, goes as what waits does: r its rank, rt what may stand ahead, lo: no 'not' at its head -/
def yOut (T V p : Int → Int) (N : Int) (r : Int) (lo : Bool) (Fo : Int → Int → Prop) (i : Int) (L : List (Int × Int × Int)) (mn : Bool) (w em : List Int) (o nst : Int) (c : Int → Int) (q : Int × rdS) : Prop :=
  (q.2.2.2 ≠ -1 → yFl T V p (i, (true, mn), (w, em, o), nst, c) q.2.2.2) ∧
  (q.2.2.2 = -1 → ∃ (M : List (Int × Int × Int)) (i' : Int) (mn' : Bool) (w1 em1 : List Int) (o1 : Int) (c1 : Int → Int),
    q = ((L.length : Int) + M.length - 1, (i', L ++ M, -1)) ∧ (i < i' ∧ i' ≤ N ∧ (M.length : Int) ≤ i' - i) ∧
    (∀ st, wfx M L.length st = some (((L.length : Int) + M.length - 1) :: st)) ∧
    yRe T V (i, (true, mn), (w, em, o), nst, c) (i', (false, mn'), (w1, em1, o1), nst, c1) ∧
    yPop r w1 em1 o1 = yPop r w (em ++ M.map cdN) o ∧
    (∀ j, j < nst → c1 j = c j) ∧ (lo = true → (c1 nst = 0 ↔ c nst = 0)) ∧ Fo (T i') (c1 nst))
def ySim (T V p : Int → Int) (N : Int) (f : rdF) (d : Nat) (r rt : Int) (lo : Bool) (Fo : Int → Int → Prop) : Prop :=
  ∀ (i : Int) (L : List (Int × Int × Int)) (mn : Bool) (w em : List Int) (o nst : Int) (c : Int → Int),
    0 ≤ i → i ≤ N → (L.length : Int) ≤ i → o + d = 5 → 0 ≤ nst → yTop rt w → (lo = true → T i = 10 → mn = false) → (lo = false → mn = true ∧ c nst = 0) →
    yOut T V p N r lo Fo i L mn w em o nst c (f (i, L, -1))
section YS
variable {T V p : Int → Int} {N : Int}
theorem rNd_y {sg x y : Int} {s : rdS} (h : s.2.1.length < 160) : rNd sg x y s = ((s.2.1.length : Int), (s.1, s.2.1 ++ [(sg, x, y)], s.2.2)) := if_neg (by omega)
/-- a row of them, with signs of one rank between -/
theorem yLp {ops : Int → Bool} {sub : rdF} {d : Nat} {r r' rt' : Int} {lo : Bool} {Fo' : Int → Int → Prop} (hN : T N = 0) (hN1 : N ≤ 160) (hp : ∀ i, p i ≠ -1) (he : rEp sub) (hs : ySim T V p N sub d r' rt' lo Fo')
    (ho0 : ops 0 = false) (hop : ∀ t, ops t = true → yOp t ≠ -1 ∧ wRank (yOp t) = r ∧ yOp t ≠ 30 ∧ yOp t ≠ 12 ∧ yOp t ≠ 18 ∧ t ≠ 59 ∧ t ≠ 2 ∧ t ≠ 3 ∧ t ≠ 4 ∧ t ≠ 10 ∧ (lo = true → t ≠ 9 ∧ t ≠ 8) ∧ (lo = false → t = 9 ∨ t = 8)) (hr4 : r ≠ 4) (hlo : lo = true → 4 < r) (hlo2 : lo = false → r < 4) (hrr : r < r') (hrt : r < rt')
    (i0 : Int) (L0 : List (Int × Int × Int)) (mn0 : Bool) (w em0 : List Int) (o nst : Int) (c0 : Int → Int) (hi0 : 0 ≤ i0) (hL0 : (L0.length : Int) ≤ i0) (hod : o + d = 5) (hns : 0 ≤ nst) (hw : yTop r w) :
    ∀ (k : Nat) (M : List (Int × Int × Int)) (i' : Int) (mn' : Bool) (w1 em1 : List Int) (o1 : Int) (c1 : Int → Int), N - i' ≤ k → i0 < i' → i' ≤ N → (M.length : Int) ≤ i' - i0 →
      (∀ st, wfx M L0.length st = some (((L0.length : Int) + M.length - 1) :: st)) →
      yRe T V (i0, (true, mn0), (w, em0, o), nst, c0) (i', (false, mn'), (w1, em1, o1), nst, c1) →
      yPop r w1 em1 o1 = yPop r w (em0 ++ M.map cdN) o → (∀ j, j < nst → c1 j = c0 j) → (lo = true → (c1 nst = 0 ↔ c0 nst = 0)) → Fo' (T i') (c1 nst) →
      yOut T V p N r lo (fun t z => Fo' t z ∧ ops t = false) i0 L0 mn0 w em0 o nst c0 (rLp T ops sub k ((L0.length : Int) + M.length - 1, (i', L0 ++ M, -1)))
  | k, M, i', mn', w1, em1, o1, c1, hk, h1, h2, h3, h4, h5, h6, h7, h8, h9 => by
    have hend : ops (T i') = false → yOut T V p N r lo (fun t z => Fo' t z ∧ ops t = false) i0 L0 mn0 w em0 o nst c0 ((L0.length : Int) + M.length - 1, (i', L0 ++ M, -1)) := fun z =>
      ⟨fun z2 => absurd rfl z2, fun _ => ⟨M, i', mn', w1, em1, o1, c1, rfl, ⟨h1, h2, h3⟩, h4, h5, h6, h7, h8, h9, z⟩⟩
    cases k with
    | zero =>
      refine hend ?_
      rw [show i' = N by omega, hN]
      exact ho0
    | succ k =>
      show yOut T V p N r lo _ i0 L0 mn0 w em0 o nst c0 (if ops (T i') = true then rLp T ops sub k (rNd (T i') ((L0.length : Int) + M.length - 1) (sub (i' + 1, L0 ++ M, -1)).1 (sub (i' + 1, L0 ++ M, -1)).2) else ((L0.length : Int) + M.length - 1, (i', L0 ++ M, -1)))
      by_cases c : ops (T i') = true
      · rw [if_pos c]
        obtain ⟨p1, p2, p3, p4, p5, p6, p7, p8, p9, p10, p11, p12⟩ := hop _ c
        have hi1 : i' + 1 ≤ N := rAd_i hN h2 rfl (fun z => by rw [z, ho0] at c; cases c)
        have hpw : yPop r w1 em1 o1 = (w, em0 ++ M.map cdN, o) := by rw [h6, yPop_t hw]
        have hst : yStep T V (i', (false, mn'), (w1, em1, o1), nst, c1) = some (i' + 1, (true, decide (T i' = 9 ∨ T i' = 8)), (yOp (T i') :: w, em0 ++ M.map cdN, o), nst, wUp c1 nst (if r = 4 ∨ (4 < r ∧ c1 nst ≠ 0) then 1 else 0)) := by
          show yStp T V i' false mn' w1 em1 o1 nst c1 = _
          unfold yStp
          rw [if_neg (by decide), if_neg (fun z => p6 z.1), if_pos ⟨p1, fun z => hr4 (by rw [← p2]; exact z.1)⟩, p2, hpw]
        have hre := yRe_t h5 (yRe_s hst yRe_0)
        have hlen : ((L0 ++ M).length : Int) = L0.length + M.length := by rw [List.length_append]; omega
        have hcu : ∀ j, j ≠ nst → wUp c1 nst (if r = 4 ∨ (4 < r ∧ c1 nst ≠ 0) then 1 else 0) j = c1 j := fun j z => if_neg z
        have hcn : wUp c1 nst (if r = 4 ∨ (4 < r ∧ c1 nst ≠ 0) then 1 else 0) nst = (if r = 4 ∨ (4 < r ∧ c1 nst ≠ 0) then 1 else 0) := if_pos rfl
        have hS := hs (i' + 1) (L0 ++ M) (decide (T i' = 9 ∨ T i' = 8)) (yOp (T i') :: w) (em0 ++ M.map cdN) o nst (wUp c1 nst (if r = 4 ∨ (4 < r ∧ c1 nst ≠ 0) then 1 else 0)) (by omega) hi1 (by omega) hod hns (yTop_c (Or.inr (by omega)))
          (fun z _ => decide_eq_false (by have := p11 z; omega)) (fun z => ⟨decide_eq_true (p12 z), by rw [hcn, if_neg (by have := hlo2 z; omega)]⟩)
        obtain ⟨s1, s2⟩ := hS
        by_cases e : (sub (i' + 1, L0 ++ M, -1)).2.2.2 = -1
        · obtain ⟨M2, i2, mn2, w2, em2, o2, c2, g1, ⟨g2, g3, g4⟩, g5, g6, g7, g8, g9, g10⟩ := s2 e
          have hlt : (L0 ++ M ++ M2).length < 160 := by rw [List.length_append]; omega
          rw [g1, rNd_y (s := (i2, L0 ++ M ++ M2, -1)) hlt]
          have hlen2 : ((L0 ++ M ++ M2).length : Int) = L0.length + M.length + M2.length := by rw [List.length_append, List.length_append]; omega
          have hM3 : ((M ++ M2 ++ [(T i', (L0.length : Int) + M.length - 1, ((L0 ++ M).length : Int) + M2.length - 1)]).length : Int) = M.length + M2.length + 1 := by rw [List.length_append, List.length_append]; show ((M.length + M2.length + 1 : Nat) : Int) = _; omega
          have hco : cdN (T i', (L0.length : Int) + M.length - 1, ((L0 ++ M).length : Int) + M2.length - 1) = yOp (T i') := by
            unfold cdN
            rw [if_neg (by exact p7), if_neg (by exact p8), if_neg (by exact p9), if_neg (by exact p10)]
          have g5' : ∀ st, wfx M2 ((L0.length : Int) + M.length) st = some ((((L0 ++ M).length : Int) + M2.length - 1) :: st) := fun st => by
            rw [← hlen]
            exact g5 st
          have hwf : ∀ st, wfx (M ++ M2 ++ [(T i', (L0.length : Int) + M.length - 1, ((L0 ++ M).length : Int) + M2.length - 1)]) L0.length st = some (((L0.length : Int) + (M ++ M2 ++ [(T i', (L0.length : Int) + M.length - 1, ((L0 ++ M).length : Int) + M2.length - 1)]).length - 1) :: st) := by
            intro st
            rw [wfx_app, wfx_app, h4 st]
            show ((wfx M2 ((L0.length : Int) + M.length) (((L0.length : Int) + M.length - 1) :: st)).bind _) = _
            rw [g5']
            show (wf1 (T i', (L0.length : Int) + M.length - 1, ((L0 ++ M).length : Int) + M2.length - 1) ((L0.length : Int) + ((M ++ M2).length : Int)) _).bind _ = _
            unfold wf1
            rw [if_neg (by show ¬ ((T i' = 2 ∧ _) ∨ (T i' = 3 ∧ _)); rintro (z | z); exact p7 z.1; exact p8 z.1), if_neg (by show ¬ (T i' = 4 ∨ T i' = 10); rintro (z | z); exact p9 z; exact p10 z), if_pos (by exact p1)]
            show (if ((L0.length : Int) + M.length - 1 = (L0.length : Int) + M.length - 1 ∧ ((L0 ++ M).length : Int) + M2.length - 1 = ((L0 ++ M).length : Int) + M2.length - 1) then some (((L0.length : Int) + ((M ++ M2).length : Int)) :: st) else none).bind _ = _
            rw [if_pos ⟨rfl, rfl⟩]
            show some (((L0.length : Int) + ((M ++ M2).length : Int)) :: st) = _
            rw [hM3, List.length_append]
            congr 2
            omega
          have hpp : yPop r w2 em2 o2 = yPop r w (em0 ++ (M ++ M2 ++ [(T i', (L0.length : Int) + M.length - 1, ((L0 ++ M).length : Int) + M2.length - 1)]).map cdN) o := by
            rw [yPop_dn (Int.le_of_lt hrr) g7, yPop_y ⟨p3, by omega⟩, if_neg (by rintro (z | z); exact p4 z; exact p5 z), List.map_append, List.map_append, List.map_cons, List.map_nil, hco, Int.sub_zero]
            congr 1
            simp only [List.append_assoc]
          have := yLp hN hN1 hp he hs ho0 hop hr4 hlo hlo2 hrr hrt i0 L0 mn0 w em0 o nst c0 hi0 hL0 hod hns hw k (M ++ M2 ++ [(T i', (L0.length : Int) + M.length - 1, ((L0 ++ M).length : Int) + M2.length - 1)]) i2 mn2 w2 em2 o2 c2 (by omega) (by omega) g3 (by omega) hwf
            (yRe_t hre g6) hpp (fun j z => by rw [g8 j z, hcu j (by omega)]; exact h7 j z)
            (fun z => by
              rw [g9 z, hcn, ← h8 z]
              have := hlo z
              constructor
              · intro y
                by_cases q : c1 nst = 0
                · exact q
                · rw [if_pos (Or.inr ⟨this, q⟩)] at y; cases y
              · intro y
                rw [if_neg (by omega)]) g10
          rw [hM3] at this
          have hLe : L0 ++ M ++ M2 ++ [(T i', (L0.length : Int) + M.length - 1, ((L0 ++ M).length : Int) + M2.length - 1)] = L0 ++ (M ++ M2 ++ [(T i', (L0.length : Int) + M.length - 1, ((L0 ++ M).length : Int) + M2.length - 1)]) := by simp only [List.append_assoc]
          show yOut T V p N r lo _ i0 L0 mn0 w em0 o nst c0 (rLp T ops sub k (((L0 ++ M ++ M2).length : Int), (i2, L0 ++ M ++ M2 ++ [(T i', (L0.length : Int) + M.length - 1, ((L0 ++ M).length : Int) + M2.length - 1)], -1)))
          rw [hLe, show ((L0 ++ M ++ M2).length : Int) = (L0.length : Int) + ((M.length : Int) + M2.length + 1) - 1 by omega]
          exact this
        · have e2 : (rLp T ops sub k (rNd (T i') ((L0.length : Int) + M.length - 1) (sub (i' + 1, L0 ++ M, -1)).1 (sub (i' + 1, L0 ++ M, -1)).2)).2.2.2 = (sub (i' + 1, L0 ++ M, -1)).2.2.2 := by
            rw [rLp_e he k _ (by rw [rNd_e]; exact e), rNd_e]
          refine ⟨fun _ => ?_, fun z => absurd (e2.symm.trans z) e⟩
          rw [e2]
          exact yFl_t hre (s1 e)
      · rw [if_neg c]
        exact hend (by simpa using c)
end YS
