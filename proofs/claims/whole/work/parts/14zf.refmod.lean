/-! ===== the reference is made ===== -/
def mdG (g : Nat → Int → Int → Int) : Nat → Int → Int → Int := ax_u3 (ax_u3 (ax_u3 (ax_u3 (ax_u3 (ax_u3 (ax_u3 (ax_u3 (ax_u3 (ax_u3 (ax_u3 (ax_u3 (ax_u3 (ax_u3 (ax_u3 (ax_u3 (ax_u3 (ax_u3 (ax_u3 (ax_u3 (ax_u3 (ax_u3 (ax_u3 (ax_u3 (ax_u3 (ax_u3 (ax_u3 (ax_u3 (ax_u3 (ax_u3 (ax_u3 (ax_u3 (ax_u3 (ax_u3 (ax_u3 (ax_u3 (ax_u3 (ax_u3 (ax_u3 (ax_u3 (ax_u3 (ax_u3 (ax_u3 (ax_u3 (ax_u3 (ax_u3 (ax_u3 (ax_u3 (ax_u3 (ax_u3 (ax_u3 (ax_u3 (ax_u3 (ax_u3 (ax_u3 (ax_u3 (ax_u3 (ax_u3 (ax_u3 (ax_u3 (ax_u3 (ax_u3 (ax_u3 (ax_u3 (ax_u3 (ax_u3 (ax_u3 (ax_u3 (ax_u3 (ax_u3 (ax_u3 (ax_u3 (ax_u3 (ax_u3 (ax_u3 g 1050 0 0 10) 118 0 0 109) 118 0 1 101) 118 0 2 101) 118 0 3 116) 118 0 4 115) 118 0 5 112) 118 0 6 108) 118 0 7 97) 118 0 8 99) 118 0 9 101) 118 0 10 108) 118 0 11 101) 118 0 12 102) 118 0 13 116) 118 0 14 98) 118 0 15 101) 118 0 16 97) 118 0 17 116) 118 0 18 111) 118 0 19 116) 118 0 20 104) 118 0 21 101) 118 0 22 114) 118 0 23 115) 118 0 24 110) 118 0 25 117) 118 0 26 109) 118 0 27 98) 118 0 28 101) 118 0 29 114) 118 0 30 116) 118 0 31 117) 118 0 32 114) 118 0 33 110) 118 0 34 115) 118 0 35 116) 118 0 36 97) 118 0 37 121) 118 0 38 104) 118 0 39 101) 118 0 40 97) 118 0 41 116) 118 0 42 111) 118 0 43 114) 118 0 44 97) 118 0 45 110) 118 0 46 100) 118 0 47 110) 118 0 48 111) 118 0 49 116) 119 0 0 0) 119 0 1 5) 119 0 2 10) 119 0 3 14) 119 0 4 18) 119 0 5 24) 119 0 6 30) 119 0 7 34) 119 0 8 38) 119 0 9 42) 119 0 10 44) 119 0 11 47) 119 0 12 50) 155 0 0 (-1)) 155 0 1 (-1)) 155 0 2 (-1)) 155 0 3 (-1)) 112 0 0 (-2)) 113 0 0 1) 112 0 160 (-1)) 113 0 1 1) 112 0 320 4) 113 0 2 1) 1050 0 10 1
theorem mod_1 {g : Nat → Int → Int → Int} : ∀ (f : Nat) (o j : Int), ¬ (f = 1050 ∨ ((f = 118 ∨ f = 119 ∨ f = 155 ∨ f = 112 ∨ f = 113) ∧ o = 0)) → mdG g f o j = g f o j := fun f o j z => by
  unfold mdG
  iterate 75 rw [ax_u3_n (by omega)]
theorem mod_2 {g : Nat → Int → Int → Int} : ∀ j, j ≠ 0 → j ≠ 10 → mdG g 1050 0 j = g 1050 0 j := fun j z1 z2 => by
  unfold mdG
  iterate 75 rw [ax_u3_n (by omega)]
theorem mod_3 {g : Nat → Int → Int → Int} : mLtr (mdG g) := by
  have hb : ∀ w : Int, 0 ≤ w → w ≤ 12 → w = 0 ∨ w = 1 ∨ w = 2 ∨ w = 3 ∨ w = 4 ∨ w = 5 ∨ w = 6 ∨ w = 7 ∨ w = 8 ∨ w = 9 ∨ w = 10 ∨ w = 11 ∨ w = 12 := fun w z1 z2 => by omega
  have hk : ∀ (m i : Int), m < 7 → 0 ≤ i → i < m → i = 0 ∨ i = 1 ∨ i = 2 ∨ i = 3 ∨ i = 4 ∨ i = 5 := fun m i z0 z1 z2 => by omega
  refine ⟨fun w z1 z2 => ?_, fun w z1 z2 => ?_⟩
  · have e0 : mdG g 119 0 0 = 0 := rfl
    have e1 : mdG g 119 0 1 = 5 := rfl
    have e2 : mdG g 119 0 2 = 10 := rfl
    have e3 : mdG g 119 0 3 = 14 := rfl
    have e4 : mdG g 119 0 4 = 18 := rfl
    have e5 : mdG g 119 0 5 = 24 := rfl
    have e6 : mdG g 119 0 6 = 30 := rfl
    have e7 : mdG g 119 0 7 = 34 := rfl
    have e8 : mdG g 119 0 8 = 38 := rfl
    have e9 : mdG g 119 0 9 = 42 := rfl
    have e10 : mdG g 119 0 10 = 44 := rfl
    have e11 : mdG g 119 0 11 = 47 := rfl
    have e12 : mdG g 119 0 12 = 50 := rfl
    rcases hb w z1 z2 with rfl | rfl | rfl | rfl | rfl | rfl | rfl | rfl | rfl | rfl | rfl | rfl | rfl <;> omega
  · rcases hb w z1 (by omega) with rfl | rfl | rfl | rfl | rfl | rfl | rfl | rfl | rfl | rfl | rfl | rfl | rfl
    all_goals first
      | (exfalso; omega)
      | (refine ⟨rfl, fun i y1 y2 => ?_⟩
         rcases hk _ i (by decide) y1 y2 with rfl | rfl | rfl | rfl | rfl | rfl <;> first | rfl | (exact absurd y2 (by decide)))
