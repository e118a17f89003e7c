/-! ===== the class's families of one, the reference's of the other ===== -/
def mixM (g g2 : Nat → Int → Int → Int) : Nat → Int → Int → Int := fun f o j => if f ≠ 50 ∧ (f < 100 ∨ 199 < f) then g f o j else g2 f o j
theorem mixM_c {g g2 : Nat → Int → Int → Int} {f : Nat} {o j : Int} (h : f ≠ 50 ∧ (f < 100 ∨ 199 < f)) : mixM g g2 f o j = g f o j := if_pos h
theorem mixM_r {g g2 : Nat → Int → Int → Int} {f : Nat} {o j : Int} (h : ¬ (f ≠ 50 ∧ (f < 100 ∨ 199 < f))) : mixM g g2 f o j = g2 f o j := if_neg h
theorem yTx_mix {g g' g2 : Nat → Int → Int → Int} {r : Int} (e : ∀ (f : Nat) (o j : Int), ¬ (f ≠ 50 ∧ (f < 100 ∨ 199 < f)) → g' f o j = g f o j) (hx : yTx g' g2 r) : yTx g (mixM g g2) r := by
  have e108 : g' 108 = g 108 := funext fun o => funext fun j => e 108 o j (by omega)
  have e50 : g' 50 = g 50 := funext fun o => funext fun j => e 50 o j (by omega)
  unfold yTx at hx ⊢
  rw [e108, e50] at hx
  have m50 : ∀ o j, mixM g g2 50 o j = g2 50 o j := fun o j => mixM_r (by omega)
  refine ⟨fun z => ?_, fun z => ?_⟩
  · obtain ⟨x1, x2⟩ := hx.1 z
    refine ⟨x1, ?_⟩
    funext f o j
    by_cases c : f ≠ 50 ∧ (f < 100 ∨ 199 < f)
    · exact mixM_c c
    · rw [mixM_r c, x2, e f o j c]
  · obtain ⟨y1, y2, y3, y4, y5⟩ := hx.2 z
    refine ⟨fun f o j w => ?_, y2, by rw [m50]; exact y3, fun w => ?_, fun w => ?_⟩
    · by_cases c : f ≠ 50 ∧ (f < 100 ∨ 199 < f)
      · exact mixM_c c
      · rw [mixM_r c, ← e f o j c]
        exact y1 f o j w
    · rw [m50]
      exact y4 w
    · obtain ⟨u1, u2, u3⟩ := y5 w
      refine ⟨u1, by rw [m50]; exact u2, fun q z1 z2 => ?_⟩
      obtain ⟨M, v1, v2, v3, v4, v5, v6⟩ := u3 q z1 z2
      exact ⟨M, v1, v2, v3, v4, by rw [mixM_r (by omega)]; exact v5, fun k x hk => by rw [mixM_r (by omega)]; exact v6 k x hk⟩
