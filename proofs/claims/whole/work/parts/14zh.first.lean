/-! ===== the first text ===== -/
theorem rPart_1 {T V p : Int → Int} {N t i : Int} {L : List (Int × Int × Int)} (h0 : T i = t) (h1 : T (i + 1) = 2 ∨ T (i + 1) = 3) (h2 : T (i + 1 + 1) = 59) (hl : L.length < 160) : rPart T V p N t (i, L, -1) = (i + 3, L ++ [(T (i + 1), V (i + 1), 0)], -1) ∧ rRoot T V p N t (i, L, -1) = (L.length : Int) := by
  have e1 : rNeed T p N t (i, L, -1) = (i + 1, L, -1) := if_pos h0
  have eo : ∀ sub, rOne T V p N sub (i + 1, L, -1) = ((L.length : Int), (i + 1 + 1, L ++ [(T (i + 1), V (i + 1), 0)], -1)) := fun sub => by
    unfold rOne
    rw [if_pos (by exact h1)]
    unfold rNd
    rw [if_neg (by show ¬ (160 ≤ L.length); omega)]
    rfl
  have et : ∀ sub, rTerm T (rOne T V p N sub) (i + 1, L, -1) = ((L.length : Int), (i + 1 + 1, L ++ [(T (i + 1), V (i + 1), 0)], -1)) := fun sub => by
    unfold rTerm
    rw [eo, rLp_x (by show oTi (T (i + 1 + 1)) = false; rw [h2]; rfl)]
  have es : ∀ sub, rSum T (rOne T V p N sub) (i + 1, L, -1) = ((L.length : Int), (i + 1 + 1, L ++ [(T (i + 1), V (i + 1), 0)], -1)) := fun sub => by
    unfold rSum
    rw [et, rLp_x (by show oPl (T (i + 1 + 1)) = false; rw [h2]; rfl)]
  have en : ∀ sb sub, rNot T p N sb (rOne T V p N sub) (i + 1, L, -1) = ((L.length : Int), (i + 1 + 1, L ++ [(T (i + 1), V (i + 1), 0)], -1)) := fun sb sub => by
    unfold rNot
    rw [if_neg (by show ¬ T (i + 1) = 10; omega), es, if_neg (by show ¬ (T (i + 1 + 1) = 60 ∨ T (i + 1 + 1) = 61); omega)]
  have eb : rBoth T (rAll T V p N 5).2 (i + 1, L, -1) = ((L.length : Int), (i + 1 + 1, L ++ [(T (i + 1), V (i + 1), 0)], -1)) := by
    have e5 : (rAll T V p N 5).2 (i + 1, L, -1) = ((L.length : Int), (i + 1 + 1, L ++ [(T (i + 1), V (i + 1), 0)], -1)) := by
      show rNot T p N (some (rAll T V p N 4).2) (rOne T V p N (some ((rAll T V p N 4).1, rEith T (rAll T V p N 4).2))) (i + 1, L, -1) = _
      exact en _ _
    unfold rBoth
    rw [e5, rLp_x (by show oAn (T (i + 1 + 1)) = false; rw [h2]; rfl)]
  have ee : rEith T (rAll T V p N 5).2 (i + 1, L, -1) = ((L.length : Int), (i + 1 + 1, L ++ [(T (i + 1), V (i + 1), 0)], -1)) := by
    unfold rEith
    rw [eb, rLp_x (by show oOr (T (i + 1 + 1)) = false; rw [h2]; rfl)]
  refine ⟨?_, ?_⟩
  · unfold rPart
    rw [e1, ee]
    unfold rNeed
    rw [if_pos (by exact h2)]
    show (i + 1 + 1 + 1, _, _) = _
    rw [show i + 1 + 1 + 1 = i + 3 by omega]
  · unfold rRoot
    rw [e1, ee]
theorem ft_T : (tT (kB 0) 31 0 = 5 ∧ tT (kB 0) 31 1 = 2 ∧ tT (kB 0) 31 2 = 59 ∧ tT (kB 0) 31 3 = 6 ∧ tT (kB 0) 31 4 = 2 ∧ tT (kB 0) 31 5 = 59 ∧ tT (kB 0) 31 6 = 7 ∧ tT (kB 0) 31 7 = 3 ∧ tT (kB 0) 31 8 = 59 ∧ tT (kB 0) 31 9 = 0) ∧ tV (kB 0) 31 1 = 1 ∧ tV (kB 0) 31 4 = 0 ∧ tV (kB 0) 31 7 = 4 := by decide +kernel
/-- the first text, read -/
theorem ft_read {p : Int → Int} {N : Int} : (rSZ (tT (kB 0) 31) (tV (kB 0) 31) p N).2.2 = -1 ∧ (rSZ (tT (kB 0) 31) (tV (kB 0) 31) p N).2.1 = [(2, 1, 0), (2, 0, 0), (3, 4, 0)] ∧ (rSk (tT (kB 0) 31) (tV (kB 0) 31) p N 1).2.1 = [(2, 1, 0)] ∧ (rSk (tT (kB 0) 31) (tV (kB 0) 31) p N 2).2.1 = [(2, 1, 0), (2, 0, 0)] ∧ (rSk (tT (kB 0) 31) (tV (kB 0) 31) p N 3).2.1 = [(2, 1, 0), (2, 0, 0), (3, 4, 0)] ∧ rRo (tT (kB 0) 31) (tV (kB 0) 31) p N 0 = 0 ∧ rRo (tT (kB 0) 31) (tV (kB 0) 31) p N 1 = 1 ∧ rRo (tT (kB 0) 31) (tV (kB 0) 31) p N 2 = 2 := by
  obtain ⟨⟨t0, t1, t2, t3, t4, t5, t6, t7, t8, t9⟩, v1, v4, v7⟩ := ft_T
  generalize tT (kB 0) 31 = T at *
  generalize tV (kB 0) 31 = V at *
  have a := rPart_1 (V := V) (p := p) (N := N) (L := []) t0 (Or.inl t1) t2 (by decide)
  have e1 : rS1 T V p N = (3, [(2, 1, 0)], -1) := by
    show rPart T V p N 5 (0, [], -1) = _
    rw [a.1]
    show (0 + 3, [(T 1, V 1, 0)], _) = _
    rw [t1, v1]
    rfl
  have b := rPart_1 (V := V) (p := p) (N := N) (L := [(2, 1, 0)]) t3 (Or.inl t4) t5 (by decide)
  have e2 : rS2 T V p N = (6, [(2, 1, 0), (2, 0, 0)], -1) := by
    show rPart T V p N 6 (rS1 T V p N) = _
    rw [e1, b.1]
    show (3 + 3, [(2, 1, 0), (T 4, V 4, 0)], _) = _
    rw [t4, v4]
    rfl
  have c := rPart_1 (V := V) (p := p) (N := N) (L := [(2, 1, 0), (2, 0, 0)]) t6 (Or.inr t7) t8 (by decide)
  have e3 : rS3 T V p N = (9, [(2, 1, 0), (2, 0, 0), (3, 4, 0)], -1) := by
    show rPart T V p N 7 (rS2 T V p N) = _
    rw [e2, c.1]
    show (6 + 3, [(2, 1, 0), (2, 0, 0), (T 7, V 7, 0)], _) = _
    rw [t7, v7]
    rfl
  have ez : rSZ T V p N = (9, [(2, 1, 0), (2, 0, 0), (3, 4, 0)], -1) := by
    unfold rSZ
    rw [e3, if_pos (by exact t9)]
  refine ⟨by rw [ez], by rw [ez], ?_, ?_, ?_, a.2, ?_, ?_⟩
  · show (rS1 T V p N).2.1 = _
    rw [e1]
  · show (rS2 T V p N).2.1 = _
    rw [e2]
  · show (rS3 T V p N).2.1 = _
    rw [e3]
  · show rRoot T V p N 6 (rS1 T V p N) = 1
    rw [e1]
    exact b.2
  · show rRoot T V p N 7 (rS2 T V p N) = 2
    rw [e2]
    exact c.2
/-- its parts, in a memory that holds its codes -/
theorem ft_pd {p : Int → Int} {N : Int} {h : Nat → Int → Int → Int} (c0 : h 112 0 0 = -2) (c1 : h 112 0 160 = -1) (c2 : h 112 0 320 = 4) (m0 : h 113 0 0 = 1) (m1 : h 113 0 1 = 1) (m2 : h 113 0 2 = 1) : ∀ q, 0 ≤ q → q < 3 → yPd h (tT (kB 0) 31) (tV (kB 0) 31) p N (3 * 0) q := by
  obtain ⟨-, -, s1, s2, s3, r0, r1, r2⟩ := ft_read (p := p) (N := N)
  have one : ∀ (x y : Int × Int × Int) (k : Nat), [x][k]? = some y → k = 0 ∧ y = x := fun x y k hk => by
    cases k with
    | zero => exact ⟨rfl, (Option.some.inj hk).symm⟩
    | succ k => cases hk
  intro q z1 z2
  have hq : q = 0 ∨ q = 1 ∨ q = 2 := by omega
  rcases hq with rfl | rfl | rfl
  · have s0 : (rSk (tT (kB 0) 31) (tV (kB 0) 31) p N 0).2.1 = [] := by unfold rSk; rw [if_pos rfl]
    refine ⟨[(2, 1, 0)], ?_, Nat.le_refl _, ?_, ?_, m0, fun k x hx => ?_⟩
    · rw [show (0 : Int) + 1 = 1 from rfl, s1, s0]; rfl
    · rw [s0]; rfl
    · rw [s0]; exact r0
    obtain ⟨rfl, rfl⟩ := one _ _ _ hx
    exact c0
  · refine ⟨[(2, 0, 0)], ?_, Nat.le_refl _, ?_, ?_, m1, fun k x hx => ?_⟩
    · rw [show (1 : Int) + 1 = 2 from rfl, s2, s1]; rfl
    · rw [s1]; rfl
    · rw [s1]; exact r1
    · obtain ⟨rfl, rfl⟩ := one _ _ _ hx
      exact c1
  · refine ⟨[(3, 4, 0)], ?_, Nat.le_refl _, ?_, ?_, m2, fun k x hx => ?_⟩
    · rw [show (2 : Int) + 1 = 3 from rfl, s3, s2]; rfl
    · rw [s2]; rfl
    · rw [s2]; exact r2
    · obtain ⟨rfl, rfl⟩ := one _ _ _ hx
      exact c2
