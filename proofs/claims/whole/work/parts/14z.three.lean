/-! ===== the three parts of a text, both ways ===== -/
def rSk (T V p : Int → Int) (N q : Int) : rdS := if q = 0 then (0, [], -1) else if q = 1 then rS1 T V p N else if q = 2 then rS2 T V p N else rS3 T V p N
section RK
variable {T V p : Int → Int} {N q : Int}
theorem rSk_s (h0 : 0 ≤ q) (h3 : q < 3) : rSk T V p N (q + 1) = rPart T V p N (q + 5) (rSk T V p N q) := by
  have h : q = 0 ∨ q = 1 ∨ q = 2 := by omega
  rcases h with rfl | rfl | rfl <;> rfl
theorem rRo_k (h0 : 0 ≤ q) (h3 : q < 3) : rRo T V p N q = rRoot T V p N (q + 5) (rSk T V p N q) := by
  have h : q = 0 ∨ q = 1 ∨ q = 2 := by omega
  rcases h with rfl | rfl | rfl <;> rfl
theorem rSZ_k (h0 : 0 ≤ q) (h3 : q < 3) (h : (rSk T V p N (q + 1)).2.2 ≠ -1) : (rSZ T V p N).2.2 = (rSk T V p N (q + 1)).2.2 := by
  have hq : q = 0 ∨ q = 1 ∨ q = 2 := by omega
  rcases hq with rfl | rfl | rfl
  · exact rSZ_1 h
  · exact rSZ_2 h
  · exact rSZ_3 h
/-- one part: what the reading by what waits comes to -/
theorem yPq (hN : T N = 0) (hN1 : N ≤ 160) (hp : ∀ i, p i ≠ -1) (hV : ∀ i, (T i = 2 → 0 ≤ V i ∧ V i ≤ 9999) ∧ (T i = 3 → 0 ≤ V i ∧ V i < 6)) (h0 : 0 ≤ q) (h3 : q < 3) (he : (rSk T V p N q).2.2 = -1) (hi : 0 ≤ (rSk T V p N q).1 ∧ (rSk T V p N q).1 ≤ N ∧ ((rSk T V p N q).2.1.length : Int) ≤ (rSk T V p N q).1) :
    (T (rSk T V p N q).1 ≠ q + 5 → (rSZ T V p N).2.2 = p (rSk T V p N q).1) ∧
    (T (rSk T V p N q).1 = q + 5 → (rSk T V p N q).1 + 1 ≤ N ∧ ∀ (c : Int → Int) (b : syS), c 0 = 0 → yRe T V ((rSk T V p N q).1 + 1, (true, true), ([], [], 0), 0, c) b → yStep T V b = none →
      (¬ yDn T b → (rSZ T V p N).2.2 = p b.1) ∧
      (yDn T b → ((rSk T V p N (q + 1)).2.2 = -1 ∧ (rSk T V p N (q + 1)).1 = b.1 + 1 ∧ b.1 + 1 ≤ N ∧ 0 ≤ b.1 ∧ ((rSk T V p N (q + 1)).2.1.length : Int) ≤ (rSk T V p N (q + 1)).1) ∧
        ∃ M : List (Int × Int × Int), (rSk T V p N (q + 1)).2.1 = (rSk T V p N q).2.1 ++ M ∧ 1 ≤ M.length ∧ wfx M (rSk T V p N q).2.1.length [] = some [((rSk T V p N q).2.1.length : Int) + M.length - 1] ∧ rRo T V p N q = ((rSk T V p N q).2.1.length : Int) + M.length - 1 ∧ (yPop 1 b.2.2.1.1 b.2.2.1.2.1 b.2.2.1.2.2).2.1 = M.map cdN)) := by
  have hsk := rSk_s (T := T) (V := V) (p := p) (N := N) h0 h3
  have hro := rRo_k (T := T) (V := V) (p := p) (N := N) h0 h3
  have hsz := rSZ_k (T := T) (V := V) (p := p) (N := N) h0 h3
  generalize hs : rSk T V p N q = s at hsk hro hi he ⊢
  obtain ⟨i, L, e⟩ := s
  have he : e = -1 := he
  subst he
  obtain ⟨hi1, hi2, hi3⟩ := hi
  have hi1 : 0 ≤ i := hi1
  have hi2 : i ≤ N := hi2
  have hi3 : (L.length : Int) ≤ i := hi3
  refine ⟨fun hT => ?_, fun hT => ?_⟩
  · have hT : T i ≠ q + 5 := hT
    have e1 : (rNeed T p N (q + 5) (i, L, -1)).2.2 = p i := by unfold rNeed rRef; rw [if_neg (by exact hT), if_pos rfl]
    have e2 : (rEith T (rAll T V p N 5).2 (rNeed T p N (q + 5) (i, L, -1))).2.2.2 = p i := (rEith_e (rAll_e 5).2 _ (by rw [e1]; exact hp i)).trans e1
    have e3 : (rSk T V p N (q + 1)).2.2 = p i := by
      rw [hsk]
      exact (rNeed_e (by rw [e2]; exact hp i)).trans e2
    rw [hsz (by rw [e3]; exact hp i), e3]
  · have hT : T i = q + 5 := hT
    have hi4 : i + 1 ≤ N := rAd_i hN hi2 hT (by omega)
    have e1 : rNeed T p N (q + 5) (i, L, -1) = (i + 1, L, -1) := if_pos hT
    have hsk2 : rSk T V p N (q + 1) = rNeed T p N 59 (rEith T (rAll T V p N 5).2 (i + 1, L, -1)).2 := by
      rw [hsk]
      unfold rPart
      rw [e1]
    refine ⟨hi4, fun c b hc hre hst => ?_⟩
    have hre : yRe T V (i + 1, (true, true), ([], [], 0), 0, c) b := hre
    rcases yPart hN hN1 hp hV (i + 1) L c (by omega) hi4 (by omega) hc with ⟨M, i', b', g1, g2, ⟨g3, g4, g5⟩, g6, g7, g8, g9, g10, g11⟩ | ⟨hne, b', f1, f2, f3, f4⟩
    · have hb := yRe_end hre hst g7 g8
      subst hb
      refine ⟨fun z => absurd g9 z, fun _ => ?_⟩
      have hsk3 : rSk T V p N (q + 1) = (i' + 1, L ++ M, -1) := by rw [hsk2, g1]; exact g2
      have hM1 : 1 ≤ M.length := by
        cases M with
        | nil => have := g6 []; exact absurd (Option.some.inj this) (by simp)
        | cons x M => rw [List.length_cons]; omega
      have hro2 : rRo T V p N q = (L.length : Int) + M.length - 1 := by
        rw [hro]
        unfold rRoot
        rw [e1, g1]
      rw [hsk3, hro2]
      refine ⟨⟨rfl, by rw [g10], by rw [g10]; exact g4, by rw [g10]; omega, ?_⟩, M, rfl, hM1, g6 [], rfl, by rw [g11]⟩
      show ((L ++ M).length : Int) ≤ i' + 1
      rw [List.length_append]
      omega
    · have hb := yRe_end hre hst f1 f2
      subst hb
      have hne2 : (rSk T V p N (q + 1)).2.2 ≠ -1 := by rw [hsk2]; exact hne
      refine ⟨fun _ => ?_, fun z => absurd z f3⟩
      rw [hsz hne2, hsk2]
      exact f4.symm
end RK
/-- a part done: its codes stand in the row -/
def yPd (h : Nat → Int → Int → Int) (T V p : Int → Int) (N base q : Int) : Prop := ∃ M : List (Int × Int × Int), (rSk T V p N (q + 1)).2.1 = (rSk T V p N q).2.1 ++ M ∧ 1 ≤ M.length ∧ wfx M (rSk T V p N q).2.1.length [] = some [((rSk T V p N q).2.1.length : Int) + M.length - 1] ∧ rRo T V p N q = ((rSk T V p N q).2.1.length : Int) + M.length - 1 ∧ h 113 0 (base + q) = M.length ∧ ∀ (k : Nat) x, M[k]? = some x → h 112 0 (160 * (base + q) + k) = cdN x
theorem yPd_fr {h h' : Nat → Int → Int → Int} {T V p : Int → Int} {N base q : Int} (hl : ((rSk T V p N (q + 1)).2.1.length : Int) ≤ 160) (e1 : h' 113 0 (base + q) = h 113 0 (base + q)) (e2 : ∀ j, 160 * (base + q) ≤ j → j < 160 * (base + q) + 160 → h' 112 0 j = h 112 0 j) (hd : yPd h T V p N base q) : yPd h' T V p N base q := by
  obtain ⟨M, a1, a2, a3, a4, a5, a6⟩ := hd
  refine ⟨M, a1, a2, a3, a4, by rw [e1]; exact a5, fun k x hx => ?_⟩
  have hk : k < M.length := (List.getElem?_eq_some_iff.mp hx).1
  rw [a1, List.length_append] at hl
  rw [e2 _ (by omega) (by omega)]
  exact a6 k x hx
