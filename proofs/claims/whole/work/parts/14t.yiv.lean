/-! ===== what holds while a text is read by what waits; tokens of bytes that agree ===== -/
def c30 : List Int → Int
  | [] => 0
  | t :: w => c30 w + (if t = 30 then 1 else 0)
def cOp : List Int → Int
  | [] => 0
  | t :: w => cOp w + (if t = 30 ∨ t = 12 ∨ t = 18 then 1 else 0)
theorem c30_in : ∀ w, 0 ≤ c30 w ∧ c30 w ≤ cOp w
  | [] => ⟨Int.le_refl _, Int.le_refl _⟩
  | t :: w => by
    have := c30_in w
    show 0 ≤ c30 w + (if t = 30 then 1 else 0) ∧ c30 w + (if t = 30 then 1 else 0) ≤ cOp w + (if t = 30 ∨ t = 12 ∨ t = 18 then 1 else 0)
    by_cases c : t = 30
    · rw [if_pos c, if_pos (Or.inl c)]; omega
    · rw [if_neg c]
      split <;> omega
def wOk (w : List Int) : Prop := ∀ x ∈ w, x = 30 ∨ 1 ≤ wRank x
theorem yPop_iv {r : Int} : ∀ (w em : List Int) (o : Int), wOk w → wOk (yPop r w em o).1 ∧ c30 (yPop r w em o).1 = c30 w ∧ (o = cOp w → (yPop r w em o).2.2 = cOp (yPop r w em o).1) ∧ (yPop r w em o).1.length + (yPop r w em o).2.1.length = w.length + em.length ∧ (yPop r w em o).1.length ≤ w.length ∧ (yPop r w em o).2.2 ≤ o ∧ (∀ t w', (yPop r w em o).1 = t :: w' → t = 30 ∨ wRank t < r)
  | [], em, o, h => ⟨h, rfl, id, rfl, Nat.le_refl _, Int.le_refl _, fun t w' e => by cases e⟩
  | t :: w, em, o, h => by
    by_cases c : t ≠ 30 ∧ r ≤ wRank t
    · rw [yPop_y c]
      obtain ⟨a1, a2, a3, a4, a5, a6, a7⟩ := yPop_iv (r := r) w (em ++ [t]) (o - (if t = 12 ∨ t = 18 then 1 else 0)) (fun x hx => h x (List.mem_cons_of_mem _ hx))
      refine ⟨a1, ?_, fun e => a3 ?_, ?_, ?_, ?_, a7⟩
      · rw [a2]
        show c30 w = c30 w + (if t = 30 then 1 else 0)
        rw [if_neg c.1]
        omega
      · have e2 : o = cOp w + (if t = 30 ∨ t = 12 ∨ t = 18 then 1 else 0) := e
        by_cases c2 : t = 12 ∨ t = 18
        · rw [if_pos (Or.inr c2)] at e2
          rw [if_pos c2]
          omega
        · rw [if_neg (fun z => z.elim c.1 c2)] at e2
          rw [if_neg c2]
          omega
      · rw [a4, List.length_append, List.length_cons]
        show w.length + (em.length + 1) = w.length + 1 + em.length
        omega
      · rw [List.length_cons]; omega
      · have : o - (if t = 12 ∨ t = 18 then (1 : Int) else 0) ≤ o := by split <;> omega
        omega
    · rw [yPop_n c]
      refine ⟨h, rfl, id, rfl, Nat.le_refl _, Int.le_refl _, fun t' w' e => ?_⟩
      cases e
      by_cases c2 : t = 30
      · exact Or.inl c2
      · exact Or.inr (by
          by_cases c3 : r ≤ wRank t
          · exact absurd ⟨c2, c3⟩ c
          · omega)
/-- what holds on the way, i0 its begin -/
def yIv (i0 : Int) (a : syS) : Prop := wOk a.2.2.1.1 ∧ a.2.2.2.1 = c30 a.2.2.1.1 ∧ a.2.2.1.2.2 = cOp a.2.2.1.1 ∧ a.2.2.1.2.2 ≤ 5 ∧ (a.2.2.1.1.length : Int) + a.2.2.1.2.1.length ≤ a.1 - i0 ∧ i0 ≤ a.1
/-- behind all that ranks: an open bracket, if one is open -/
theorem yPop_30 {w em : List Int} {o nst : Int} (h : wOk w) (hn : nst = c30 w) (hz : nst ≠ 0) : ∃ w', (yPop 1 w em o).1 = 30 :: w' := by
  obtain ⟨a1, a2, -, -, -, -, a7⟩ := yPop_iv (r := 1) w em o h
  cases e : (yPop 1 w em o).1 with
  | nil =>
    rw [e] at a2
    exact absurd (by rw [hn, ← a2]; rfl) hz
  | cons t w' =>
    rcases a7 t w' e with y | y
    · exact ⟨w', by rw [y]⟩
    · rw [e] at a1
      rcases a1 t List.mem_cons_self with z | z
      · exact ⟨w', by rw [z]⟩
      · omega
theorem yOp_rank {t : Int} (h : yOp t ≠ -1) : 1 ≤ wRank (yOp t) ∧ yOp t ≠ 30 ∧ yOp t ≠ 12 ∧ yOp t ≠ 18 := by
  have hs : t = 43 ∨ t = 45 ∨ t = 42 ∨ t = 60 ∨ t = 61 ∨ t = 9 ∨ t = 8 := by
    unfold yOp at h
    omega
  rcases hs with rfl | rfl | rfl | rfl | rfl | rfl | rfl <;> decide
theorem wOk_c {t : Int} {w : List Int} (h : t = 30 ∨ 1 ≤ wRank t) (hw : wOk w) : wOk (t :: w) := fun x hx => by
  rcases List.mem_cons.mp hx with e | e
  · rw [e]; exact h
  · exact hw x e
theorem yIv_s {T V : Int → Int} {i0 : Int} {a b : syS} (h : yStep T V a = some b) (hv : yIv i0 a) : yIv i0 b ∧ b.1 = a.1 + 1 := by
  obtain ⟨i, ⟨wa, mn⟩, ⟨w, em, o⟩, nst, c⟩ := a
  obtain ⟨v1, v2, v3, v4, v5, v6⟩ := hv
  have v1 : wOk w := v1
  have v2 : nst = c30 w := v2
  have v3 : o = cOp w := v3
  have v4 : o ≤ 5 := v4
  have v5 : (w.length : Int) + em.length ≤ i - i0 := v5
  have v6 : i0 ≤ i := v6
  have h : yStp T V i wa mn w em o nst c = some b := h
  unfold yStp at h
  by_cases c1 : wa = true
  · rw [if_pos c1] at h
    by_cases c2 : T i = 2 ∨ T i = 3
    · rw [if_pos c2] at h
      cases h
      obtain ⟨a1, a2, a3, a4, a5, a6, a7⟩ := yPop_iv (r := 7) w (em ++ [if T i = 2 then -1 - V i else V i]) o v1
      have a6' : (yPop 7 w (em ++ [if T i = 2 then -1 - V i else V i]) o).2.2 ≤ o := a6
      rw [List.length_append] at a4
      refine ⟨⟨a1, v2.trans a2.symm, a3 v3, Int.le_trans a6' v4, ?_, by show i0 ≤ i + 1; omega⟩, rfl⟩
      show ((yPop 7 w _ o).1.length : Int) + (yPop 7 w _ o).2.1.length ≤ i + 1 - i0
      have : ([if T i = 2 then -1 - V i else V i] : List Int).length = 1 := rfl
      omega
    · rw [if_neg c2] at h
      by_cases c3 : (T i = 40 ∨ T i = 45 ∨ (mn = true ∧ T i = 10)) ∧ o ≠ 5
      · rw [if_pos c3] at h
        cases h
        by_cases c4 : T i = 40
        · refine ⟨⟨?_, ?_, ?_, by show o + 1 ≤ 5; omega, ?_, by show i0 ≤ i + 1; omega⟩, rfl⟩
          · show wOk ((if T i = 40 then 30 else if T i = 10 then 12 else 18) :: w)
            rw [if_pos c4]
            exact wOk_c (Or.inl rfl) v1
          · show (if T i = 40 then nst + 1 else nst) = c30 ((if T i = 40 then 30 else if T i = 10 then 12 else 18) :: w)
            rw [if_pos c4, if_pos c4, v2]
            rfl
          · show o + 1 = cOp ((if T i = 40 then 30 else if T i = 10 then 12 else 18) :: w)
            rw [if_pos c4, v3]
            rfl
          · show (((_ :: w).length : Nat) : Int) + em.length ≤ i + 1 - i0
            rw [List.length_cons]
            omega
        · by_cases c5 : T i = 10
          · refine ⟨⟨?_, ?_, ?_, by show o + 1 ≤ 5; omega, ?_, by show i0 ≤ i + 1; omega⟩, rfl⟩
            · show wOk ((if T i = 40 then 30 else if T i = 10 then 12 else 18) :: w)
              rw [if_neg c4, if_pos c5]
              exact wOk_c (Or.inr (by decide)) v1
            · show (if T i = 40 then nst + 1 else nst) = c30 ((if T i = 40 then 30 else if T i = 10 then 12 else 18) :: w)
              rw [if_neg c4, if_neg c4, if_pos c5, v2]
              show c30 w = c30 w + 0
              omega
            · show o + 1 = cOp ((if T i = 40 then 30 else if T i = 10 then 12 else 18) :: w)
              rw [if_neg c4, if_pos c5, v3]
              rfl
            · show (((_ :: w).length : Nat) : Int) + em.length ≤ i + 1 - i0
              rw [List.length_cons]
              omega
          · refine ⟨⟨?_, ?_, ?_, by show o + 1 ≤ 5; omega, ?_, by show i0 ≤ i + 1; omega⟩, rfl⟩
            · show wOk ((if T i = 40 then 30 else if T i = 10 then 12 else 18) :: w)
              rw [if_neg c4, if_neg c5]
              exact wOk_c (Or.inr (by decide)) v1
            · show (if T i = 40 then nst + 1 else nst) = c30 ((if T i = 40 then 30 else if T i = 10 then 12 else 18) :: w)
              rw [if_neg c4, if_neg c4, if_neg c5, v2]
              show c30 w = c30 w + 0
              omega
            · show o + 1 = cOp ((if T i = 40 then 30 else if T i = 10 then 12 else 18) :: w)
              rw [if_neg c4, if_neg c5, v3]
              rfl
            · show (((_ :: w).length : Nat) : Int) + em.length ≤ i + 1 - i0
              rw [List.length_cons]
              omega
      · rw [if_neg c3] at h
        cases h
  · rw [if_neg c1] at h
    by_cases c2 : T i = 59 ∧ nst = 0
    · rw [if_pos c2] at h
      cases h
    · rw [if_neg c2] at h
      by_cases c3 : yOp (T i) ≠ -1 ∧ ¬ (wRank (yOp (T i)) = 4 ∧ c nst ≠ 0)
      · rw [if_pos c3] at h
        cases h
        obtain ⟨a1, a2, a3, a4, a5, a6, a7⟩ := yPop_iv (r := wRank (yOp (T i))) w em o v1
        obtain ⟨r1, r2, r3, r4⟩ := yOp_rank c3.1
        refine ⟨⟨wOk_c (Or.inr r1) a1, ?_, ?_, Int.le_trans a6 v4, ?_, by show i0 ≤ i + 1; omega⟩, rfl⟩
        · show nst = c30 _ + (if yOp (T i) = 30 then 1 else 0)
          rw [if_neg r2, a2, v2]
          omega
        · show (yPop (wRank (yOp (T i))) w em o).2.2 = cOp _ + (if yOp (T i) = 30 ∨ yOp (T i) = 12 ∨ yOp (T i) = 18 then 1 else 0)
          rw [if_neg (by rintro (z | z | z); exact r2 z; exact r3 z; exact r4 z), a3 v3]
          omega
        · show (((_ :: (yPop (wRank (yOp (T i))) w em o).1).length : Nat) : Int) + (yPop (wRank (yOp (T i))) w em o).2.1.length ≤ i + 1 - i0
          rw [List.length_cons]
          omega
      · rw [if_neg c3] at h
        by_cases c4 : T i = 41 ∧ nst ≠ 0
        · rw [if_pos c4] at h
          cases h
          obtain ⟨a1, a2, a3, a4, a5, a6, a7⟩ := yPop_iv (r := 1) w em o v1
          obtain ⟨w', hw'⟩ := yPop_30 (em := em) (o := o) v1 v2 c4.2
          have a3' := a3 v3
          rw [hw'] at a1 a2 a3' a4
          have e30 : c30 (30 :: w') = c30 w' + 1 := rfl
          have eOp : cOp (30 :: w') = cOp w' + 1 := rfl
          rw [e30] at a2
          rw [eOp] at a3'
          rw [List.length_cons] at a4
          have o2 : (yPop 1 w em o).2.2 - 1 = cOp w' := by omega
          obtain ⟨b1, b2, b3, b4, b5, b6, b7⟩ := yPop_iv (r := 7) w' (yPop 1 w em o).2.1 ((yPop 1 w em o).2.2 - 1) (fun x hx => a1 x (List.mem_cons_of_mem _ hx))
          have et : (yPop 1 w em o).1.tail = w' := by rw [hw']; rfl
          show yIv i0 (i + 1, (false, mn), yPop 7 (yPop 1 w em o).1.tail (yPop 1 w em o).2.1 ((yPop 1 w em o).2.2 - 1), nst - 1, c) ∧ _
          rw [et]
          refine ⟨⟨b1, ?_, b3 o2, Int.le_trans b6 (by omega), ?_, by show i0 ≤ i + 1; omega⟩, rfl⟩
          · show nst - 1 = c30 _
            rw [b2]
            omega
          · show ((yPop 7 w' _ _).1.length : Int) + (yPop 7 w' _ _).2.1.length ≤ i + 1 - i0
            omega
        · rw [if_neg c4] at h
          cases h
/-- faults stay -/
theorem rPart_e {T V p : Int → Int} {N t : Int} {s : rdS} (h : s.2.2 ≠ -1) : (rPart T V p N t s).2.2 = s.2.2 := by
  have e1 : (rNeed T p N t s).2.2 = s.2.2 := rNeed_e h
  have e2 : (rEith T (rAll T V p N 5).2 (rNeed T p N t s)).2.2.2 = s.2.2 := (rEith_e (rAll_e 5).2 _ (by rw [e1]; exact h)).trans e1
  exact (rNeed_e (by rw [e2]; exact h)).trans e2
theorem rSZ_3 {T V p : Int → Int} {N : Int} (h : (rS3 T V p N).2.2 ≠ -1) : (rSZ T V p N).2.2 = (rS3 T V p N).2.2 := by
  unfold rSZ
  split
  · rfl
  · rw [rRef_e h]
theorem rSZ_2 {T V p : Int → Int} {N : Int} (h : (rS2 T V p N).2.2 ≠ -1) : (rSZ T V p N).2.2 = (rS2 T V p N).2.2 := by
  have e : (rS3 T V p N).2.2 = (rS2 T V p N).2.2 := rPart_e h
  rw [rSZ_3 (by rw [e]; exact h), e]
theorem rSZ_1 {T V p : Int → Int} {N : Int} (h : (rS1 T V p N).2.2 ≠ -1) : (rSZ T V p N).2.2 = (rS1 T V p N).2.2 := by
  have e : (rS2 T V p N).2.2 = (rS1 T V p N).2.2 := rPart_e h
  rw [rSZ_2 (by rw [e]; exact h), e]
theorem tkP_lt {B : Int → Int} {m j : Int} (hj : 0 ≤ j) (h : tkP B m j < m) : tkE B m (tkP B m j) ≤ tkP B m (j + 1) ∧ tkP B m j < tkP B m (j + 1) := by
  rw [tkP_s hj, if_pos h]
  have he := tkE_in (B := B) h
  have := lx_in (k := tkE B m (tkP B m j)) (bSp_m (B := B) (m := m))
  omega
