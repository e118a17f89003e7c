/-! ===== where the law begins ===== -/
/-- the lengths of what is made, and its classes -/
def nT (f : Nat) (_ : Int) : Int := match f with
  | 1 => 10
  | 2 => 2
  | 3 => 8
  | 4 => 5
  | 50 => 11
  | 103 => 7
  | 104 => 7
  | 105 => 7
  | 106 => 7
  | 107 => 7
  | 108 => 160
  | 112 => 2880
  | 113 => 18
  | 118 => 50
  | 119 => 13
  | 120 => 170
  | 124 => 8
  | 127 => 170
  | 128 => 6
  | 129 => 7
  | 130 => 7
  | 131 => 7
  | 132 => 7
  | 133 => 7
  | 134 => 7
  | 135 => 7
  | 136 => 7
  | 137 => 7
  | 138 => 7
  | 143 => 7
  | 144 => 7
  | 145 => 7
  | 151 => 7
  | 152 => 7
  | 153 => 7
  | 154 => 7
  | 155 => 4
  | 156 => 4
  | 157 => 160
  | 158 => 40
  | 200 => 7
  | 209 => 896
  | 210 => 128
  | 214 => 81
  | 215 => 81
  | 216 => 6
  | 302 => 160
  | 303 => 161
  | 304 => 161
  | 305 => 161
  | 308 => 160
  | 309 => 160
  | 310 => 160
  | 311 => 3
  | 402 => 40
  | 702 => 6
  | 703 => 4
  | 1001 => 10
  | 1002 => 2
  | 1003 => 8
  | 1004 => 5
  | 1050 => 11
  | _ => 0
theorem nT_X : nX nT := ⟨⟨rfl, rfl, rfl, rfl, rfl, rfl, rfl, rfl⟩, ⟨rfl, rfl, ⟨rfl, rfl, rfl, rfl, rfl, rfl, rfl, rfl⟩⟩, ⟨rfl, rfl⟩, fun _ _ _ => ⟨rfl, rfl, rfl⟩⟩
theorem nT_L : mLen nT := by
  show ∀ q ∈ mLens, nT q.1 0 = q.2
  decide
def mL (f : Nat) : Prop := f = 103 ∨ f = 104 ∨ f = 105 ∨ f = 106 ∨ f = 107 ∨ f = 108 ∨ f = 112 ∨ f = 113 ∨ f = 118 ∨ f = 119 ∨ f = 120 ∨ f = 124 ∨ f = 127 ∨ f = 128 ∨ f = 129 ∨ f = 130 ∨ f = 131 ∨ f = 132 ∨ f = 133 ∨ f = 134 ∨ f = 135 ∨ f = 136 ∨ f = 137 ∨ f = 138 ∨ f = 143 ∨ f = 144 ∨ f = 145 ∨ f = 151 ∨ f = 152 ∨ f = 153 ∨ f = 154 ∨ f = 155 ∨ f = 156 ∨ f = 157 ∨ f = 158
theorem mL_b {f : Nat} (h : mL f) : 100 ≤ f ∧ f ≤ 158 := by unfold mL at h; omega
theorem mdP_i {P : Nat → Int → Prop} {f : Nat} {o : Int} : mdP P f o ↔ (P f o ∨ (mL f ∧ o = 0)) := by
  unfold mdP mkP mL
  constructor
  · rintro (h | h | h | h | h | h | h | h | h | h | h | h | h | h | h | h | h | h | h | h | h | h | h | h | h | h | h | h | h | h | h | h | h | h | h | h)
    · exact Or.inr ⟨by omega, h.2⟩
    · exact Or.inr ⟨by omega, h.2⟩
    · exact Or.inr ⟨by omega, h.2⟩
    · exact Or.inr ⟨by omega, h.2⟩
    · exact Or.inr ⟨by omega, h.2⟩
    · exact Or.inr ⟨by omega, h.2⟩
    · exact Or.inr ⟨by omega, h.2⟩
    · exact Or.inr ⟨by omega, h.2⟩
    · exact Or.inr ⟨by omega, h.2⟩
    · exact Or.inr ⟨by omega, h.2⟩
    · exact Or.inr ⟨by omega, h.2⟩
    · exact Or.inr ⟨by omega, h.2⟩
    · exact Or.inr ⟨by omega, h.2⟩
    · exact Or.inr ⟨by omega, h.2⟩
    · exact Or.inr ⟨by omega, h.2⟩
    · exact Or.inr ⟨by omega, h.2⟩
    · exact Or.inr ⟨by omega, h.2⟩
    · exact Or.inr ⟨by omega, h.2⟩
    · exact Or.inr ⟨by omega, h.2⟩
    · exact Or.inr ⟨by omega, h.2⟩
    · exact Or.inr ⟨by omega, h.2⟩
    · exact Or.inr ⟨by omega, h.2⟩
    · exact Or.inr ⟨by omega, h.2⟩
    · exact Or.inr ⟨by omega, h.2⟩
    · exact Or.inr ⟨by omega, h.2⟩
    · exact Or.inr ⟨by omega, h.2⟩
    · exact Or.inr ⟨by omega, h.2⟩
    · exact Or.inr ⟨by omega, h.2⟩
    · exact Or.inr ⟨by omega, h.2⟩
    · exact Or.inr ⟨by omega, h.2⟩
    · exact Or.inr ⟨by omega, h.2⟩
    · exact Or.inr ⟨by omega, h.2⟩
    · exact Or.inr ⟨by omega, h.2⟩
    · exact Or.inr ⟨by omega, h.2⟩
    · exact Or.inr ⟨by omega, h.2⟩
    · exact Or.inl h
  · rintro (h | ⟨h, rfl⟩)
    · exact Or.inr (Or.inr (Or.inr (Or.inr (Or.inr (Or.inr (Or.inr (Or.inr (Or.inr (Or.inr (Or.inr (Or.inr (Or.inr (Or.inr (Or.inr (Or.inr (Or.inr (Or.inr (Or.inr (Or.inr (Or.inr (Or.inr (Or.inr (Or.inr (Or.inr (Or.inr (Or.inr (Or.inr (Or.inr (Or.inr (Or.inr (Or.inr (Or.inr (Or.inr (Or.inr (h)))))))))))))))))))))))))))))))))))
    · rcases h with h | h | h | h | h | h | h | h | h | h | h | h | h | h | h | h | h | h | h | h | h | h | h | h | h | h | h | h | h | h | h | h | h | h | h
      · exact Or.inr (Or.inr (Or.inr (Or.inr (Or.inr (Or.inr (Or.inr (Or.inr (Or.inr (Or.inr (Or.inr (Or.inr (Or.inr (Or.inr (Or.inr (Or.inr (Or.inr (Or.inr (Or.inr (Or.inr (Or.inr (Or.inr (Or.inr (Or.inr (Or.inr (Or.inr (Or.inr (Or.inr (Or.inr (Or.inr (Or.inr (Or.inr (Or.inr (Or.inr (Or.inl ⟨h, rfl⟩))))))))))))))))))))))))))))))))))
      · exact Or.inr (Or.inr (Or.inr (Or.inr (Or.inr (Or.inr (Or.inr (Or.inr (Or.inr (Or.inr (Or.inr (Or.inr (Or.inr (Or.inr (Or.inr (Or.inr (Or.inr (Or.inr (Or.inr (Or.inr (Or.inr (Or.inr (Or.inr (Or.inr (Or.inr (Or.inr (Or.inr (Or.inr (Or.inr (Or.inr (Or.inr (Or.inr (Or.inr (Or.inl ⟨h, rfl⟩)))))))))))))))))))))))))))))))))
      · exact Or.inr (Or.inr (Or.inr (Or.inr (Or.inr (Or.inr (Or.inr (Or.inr (Or.inr (Or.inr (Or.inr (Or.inr (Or.inr (Or.inr (Or.inr (Or.inr (Or.inr (Or.inr (Or.inr (Or.inr (Or.inr (Or.inr (Or.inr (Or.inr (Or.inr (Or.inr (Or.inr (Or.inr (Or.inr (Or.inr (Or.inr (Or.inr (Or.inl ⟨h, rfl⟩))))))))))))))))))))))))))))))))
      · exact Or.inr (Or.inr (Or.inr (Or.inr (Or.inr (Or.inr (Or.inr (Or.inr (Or.inr (Or.inr (Or.inr (Or.inr (Or.inr (Or.inr (Or.inr (Or.inr (Or.inr (Or.inr (Or.inr (Or.inr (Or.inr (Or.inr (Or.inr (Or.inr (Or.inr (Or.inr (Or.inr (Or.inr (Or.inr (Or.inr (Or.inr (Or.inl ⟨h, rfl⟩)))))))))))))))))))))))))))))))
      · exact Or.inr (Or.inr (Or.inr (Or.inr (Or.inr (Or.inr (Or.inr (Or.inr (Or.inr (Or.inr (Or.inr (Or.inr (Or.inr (Or.inr (Or.inr (Or.inr (Or.inr (Or.inr (Or.inr (Or.inr (Or.inr (Or.inr (Or.inr (Or.inr (Or.inr (Or.inr (Or.inr (Or.inr (Or.inr (Or.inr (Or.inl ⟨h, rfl⟩))))))))))))))))))))))))))))))
      · exact Or.inr (Or.inr (Or.inr (Or.inr (Or.inr (Or.inr (Or.inr (Or.inr (Or.inr (Or.inr (Or.inr (Or.inr (Or.inr (Or.inr (Or.inr (Or.inr (Or.inr (Or.inr (Or.inr (Or.inr (Or.inr (Or.inr (Or.inr (Or.inr (Or.inr (Or.inr (Or.inr (Or.inr (Or.inr (Or.inl ⟨h, rfl⟩)))))))))))))))))))))))))))))
      · exact Or.inr (Or.inr (Or.inr (Or.inr (Or.inr (Or.inr (Or.inr (Or.inr (Or.inr (Or.inr (Or.inr (Or.inr (Or.inr (Or.inr (Or.inr (Or.inr (Or.inr (Or.inr (Or.inr (Or.inr (Or.inr (Or.inr (Or.inr (Or.inr (Or.inr (Or.inr (Or.inr (Or.inr (Or.inl ⟨h, rfl⟩))))))))))))))))))))))))))))
      · exact Or.inr (Or.inr (Or.inr (Or.inr (Or.inr (Or.inr (Or.inr (Or.inr (Or.inr (Or.inr (Or.inr (Or.inr (Or.inr (Or.inr (Or.inr (Or.inr (Or.inr (Or.inr (Or.inr (Or.inr (Or.inr (Or.inr (Or.inr (Or.inr (Or.inr (Or.inr (Or.inr (Or.inl ⟨h, rfl⟩)))))))))))))))))))))))))))
      · exact Or.inr (Or.inr (Or.inr (Or.inr (Or.inr (Or.inr (Or.inr (Or.inr (Or.inr (Or.inr (Or.inr (Or.inr (Or.inr (Or.inr (Or.inr (Or.inr (Or.inr (Or.inr (Or.inr (Or.inr (Or.inr (Or.inr (Or.inr (Or.inr (Or.inr (Or.inr (Or.inl ⟨h, rfl⟩))))))))))))))))))))))))))
      · exact Or.inr (Or.inr (Or.inr (Or.inr (Or.inr (Or.inr (Or.inr (Or.inr (Or.inr (Or.inr (Or.inr (Or.inr (Or.inr (Or.inr (Or.inr (Or.inr (Or.inr (Or.inr (Or.inr (Or.inr (Or.inr (Or.inr (Or.inr (Or.inr (Or.inr (Or.inl ⟨h, rfl⟩)))))))))))))))))))))))))
      · exact Or.inr (Or.inr (Or.inr (Or.inr (Or.inr (Or.inr (Or.inr (Or.inr (Or.inr (Or.inr (Or.inr (Or.inr (Or.inr (Or.inr (Or.inr (Or.inr (Or.inr (Or.inr (Or.inr (Or.inr (Or.inr (Or.inr (Or.inr (Or.inr (Or.inl ⟨h, rfl⟩))))))))))))))))))))))))
      · exact Or.inr (Or.inr (Or.inr (Or.inr (Or.inr (Or.inr (Or.inr (Or.inr (Or.inr (Or.inr (Or.inr (Or.inr (Or.inr (Or.inr (Or.inr (Or.inr (Or.inr (Or.inr (Or.inr (Or.inr (Or.inr (Or.inr (Or.inr (Or.inl ⟨h, rfl⟩)))))))))))))))))))))))
      · exact Or.inr (Or.inr (Or.inr (Or.inr (Or.inr (Or.inr (Or.inr (Or.inr (Or.inr (Or.inr (Or.inr (Or.inr (Or.inr (Or.inr (Or.inr (Or.inr (Or.inr (Or.inr (Or.inr (Or.inr (Or.inr (Or.inr (Or.inl ⟨h, rfl⟩))))))))))))))))))))))
      · exact Or.inr (Or.inr (Or.inr (Or.inr (Or.inr (Or.inr (Or.inr (Or.inr (Or.inr (Or.inr (Or.inr (Or.inr (Or.inr (Or.inr (Or.inr (Or.inr (Or.inr (Or.inr (Or.inr (Or.inr (Or.inr (Or.inl ⟨h, rfl⟩)))))))))))))))))))))
      · exact Or.inr (Or.inr (Or.inr (Or.inr (Or.inr (Or.inr (Or.inr (Or.inr (Or.inr (Or.inr (Or.inr (Or.inr (Or.inr (Or.inr (Or.inr (Or.inr (Or.inr (Or.inr (Or.inr (Or.inr (Or.inl ⟨h, rfl⟩))))))))))))))))))))
      · exact Or.inr (Or.inr (Or.inr (Or.inr (Or.inr (Or.inr (Or.inr (Or.inr (Or.inr (Or.inr (Or.inr (Or.inr (Or.inr (Or.inr (Or.inr (Or.inr (Or.inr (Or.inr (Or.inr (Or.inl ⟨h, rfl⟩)))))))))))))))))))
      · exact Or.inr (Or.inr (Or.inr (Or.inr (Or.inr (Or.inr (Or.inr (Or.inr (Or.inr (Or.inr (Or.inr (Or.inr (Or.inr (Or.inr (Or.inr (Or.inr (Or.inr (Or.inr (Or.inl ⟨h, rfl⟩))))))))))))))))))
      · exact Or.inr (Or.inr (Or.inr (Or.inr (Or.inr (Or.inr (Or.inr (Or.inr (Or.inr (Or.inr (Or.inr (Or.inr (Or.inr (Or.inr (Or.inr (Or.inr (Or.inr (Or.inl ⟨h, rfl⟩)))))))))))))))))
      · exact Or.inr (Or.inr (Or.inr (Or.inr (Or.inr (Or.inr (Or.inr (Or.inr (Or.inr (Or.inr (Or.inr (Or.inr (Or.inr (Or.inr (Or.inr (Or.inr (Or.inl ⟨h, rfl⟩))))))))))))))))
      · exact Or.inr (Or.inr (Or.inr (Or.inr (Or.inr (Or.inr (Or.inr (Or.inr (Or.inr (Or.inr (Or.inr (Or.inr (Or.inr (Or.inr (Or.inr (Or.inl ⟨h, rfl⟩)))))))))))))))
      · exact Or.inr (Or.inr (Or.inr (Or.inr (Or.inr (Or.inr (Or.inr (Or.inr (Or.inr (Or.inr (Or.inr (Or.inr (Or.inr (Or.inr (Or.inl ⟨h, rfl⟩))))))))))))))
      · exact Or.inr (Or.inr (Or.inr (Or.inr (Or.inr (Or.inr (Or.inr (Or.inr (Or.inr (Or.inr (Or.inr (Or.inr (Or.inr (Or.inl ⟨h, rfl⟩)))))))))))))
      · exact Or.inr (Or.inr (Or.inr (Or.inr (Or.inr (Or.inr (Or.inr (Or.inr (Or.inr (Or.inr (Or.inr (Or.inr (Or.inl ⟨h, rfl⟩))))))))))))
      · exact Or.inr (Or.inr (Or.inr (Or.inr (Or.inr (Or.inr (Or.inr (Or.inr (Or.inr (Or.inr (Or.inr (Or.inl ⟨h, rfl⟩)))))))))))
      · exact Or.inr (Or.inr (Or.inr (Or.inr (Or.inr (Or.inr (Or.inr (Or.inr (Or.inr (Or.inr (Or.inl ⟨h, rfl⟩))))))))))
      · exact Or.inr (Or.inr (Or.inr (Or.inr (Or.inr (Or.inr (Or.inr (Or.inr (Or.inr (Or.inl ⟨h, rfl⟩)))))))))
      · exact Or.inr (Or.inr (Or.inr (Or.inr (Or.inr (Or.inr (Or.inr (Or.inr (Or.inl ⟨h, rfl⟩))))))))
      · exact Or.inr (Or.inr (Or.inr (Or.inr (Or.inr (Or.inr (Or.inr (Or.inl ⟨h, rfl⟩)))))))
      · exact Or.inr (Or.inr (Or.inr (Or.inr (Or.inr (Or.inr (Or.inl ⟨h, rfl⟩))))))
      · exact Or.inr (Or.inr (Or.inr (Or.inr (Or.inr (Or.inl ⟨h, rfl⟩)))))
      · exact Or.inr (Or.inr (Or.inr (Or.inr (Or.inl ⟨h, rfl⟩))))
      · exact Or.inr (Or.inr (Or.inr (Or.inl ⟨h, rfl⟩)))
      · exact Or.inr (Or.inr (Or.inl ⟨h, rfl⟩))
      · exact Or.inr (Or.inl ⟨h, rfl⟩)
      · exact Or.inl ⟨h, rfl⟩
theorem u3_c {r : Nat → Int → Int → Option (Nat × Int)} {f f' : Nat} {o j o' j' : Int} {x : Option (Nat × Int)} {q : Nat × Int} (h : ax_u3 r f o j x f' o' j' = some q) : x = some q ∨ r f' o' j' = some q := by
  unfold ax_u3 at h
  split at h
  · exact Or.inl h
  · exact Or.inr h
theorem mdR_c {r : Nat → Int → Int → Option (Nat × Int)} {f : Nat} {o j : Int} {q : Nat × Int} (h : mdR r f o j = some q) : (q.2 = 0 ∧ mL q.1) ∨ r f o j = some q := by
  have key : ∀ F : Nat, mL F → some (F, (0 : Int)) = some q → (q.2 = 0 ∧ mL q.1) := fun F hF e => by
    cases e
    exact ⟨rfl, hF⟩
  unfold mdR at h
  rcases u3_c h with h | h
  · exact Or.inl (key 158 (by unfold mL; omega) h)
  rcases u3_c h with h | h
  · exact Or.inl (key 157 (by unfold mL; omega) h)
  rcases u3_c h with h | h
  · exact Or.inl (key 156 (by unfold mL; omega) h)
  rcases u3_c h with h | h
  · exact Or.inl (key 155 (by unfold mL; omega) h)
  rcases u3_c h with h | h
  · exact Or.inl (key 154 (by unfold mL; omega) h)
  rcases u3_c h with h | h
  · exact Or.inl (key 153 (by unfold mL; omega) h)
  rcases u3_c h with h | h
  · exact Or.inl (key 152 (by unfold mL; omega) h)
  rcases u3_c h with h | h
  · exact Or.inl (key 151 (by unfold mL; omega) h)
  rcases u3_c h with h | h
  · exact Or.inl (key 145 (by unfold mL; omega) h)
  rcases u3_c h with h | h
  · exact Or.inl (key 144 (by unfold mL; omega) h)
  rcases u3_c h with h | h
  · exact Or.inl (key 143 (by unfold mL; omega) h)
  rcases u3_c h with h | h
  · exact Or.inl (key 138 (by unfold mL; omega) h)
  rcases u3_c h with h | h
  · exact Or.inl (key 137 (by unfold mL; omega) h)
  rcases u3_c h with h | h
  · exact Or.inl (key 136 (by unfold mL; omega) h)
  rcases u3_c h with h | h
  · exact Or.inl (key 135 (by unfold mL; omega) h)
  rcases u3_c h with h | h
  · exact Or.inl (key 134 (by unfold mL; omega) h)
  rcases u3_c h with h | h
  · exact Or.inl (key 133 (by unfold mL; omega) h)
  rcases u3_c h with h | h
  · exact Or.inl (key 132 (by unfold mL; omega) h)
  rcases u3_c h with h | h
  · exact Or.inl (key 131 (by unfold mL; omega) h)
  rcases u3_c h with h | h
  · exact Or.inl (key 130 (by unfold mL; omega) h)
  rcases u3_c h with h | h
  · exact Or.inl (key 129 (by unfold mL; omega) h)
  rcases u3_c h with h | h
  · exact Or.inl (key 128 (by unfold mL; omega) h)
  rcases u3_c h with h | h
  · exact Or.inl (key 127 (by unfold mL; omega) h)
  rcases u3_c h with h | h
  · exact Or.inl (key 124 (by unfold mL; omega) h)
  rcases u3_c h with h | h
  · exact Or.inl (key 120 (by unfold mL; omega) h)
  rcases u3_c h with h | h
  · exact Or.inl (key 119 (by unfold mL; omega) h)
  rcases u3_c h with h | h
  · exact Or.inl (key 118 (by unfold mL; omega) h)
  rcases u3_c h with h | h
  · exact Or.inl (key 113 (by unfold mL; omega) h)
  rcases u3_c h with h | h
  · exact Or.inl (key 112 (by unfold mL; omega) h)
  rcases u3_c h with h | h
  · exact Or.inl (key 108 (by unfold mL; omega) h)
  rcases u3_c h with h | h
  · exact Or.inl (key 107 (by unfold mL; omega) h)
  rcases u3_c h with h | h
  · exact Or.inl (key 106 (by unfold mL; omega) h)
  rcases u3_c h with h | h
  · exact Or.inl (key 105 (by unfold mL; omega) h)
  rcases u3_c h with h | h
  · exact Or.inl (key 104 (by unfold mL; omega) h)
  rcases u3_c h with h | h
  · exact Or.inl (key 103 (by unfold mL; omega) h)
  exact Or.inr h
theorem nd_md {P : Nat → Int → Prop} {g G : Nat → Int → Int → Int} {r : Nat → Int → Int → Option (Nat × Int)} {n : Nat → Int → Int} (hnd : ax_nd (P, g, r, n)) (hz : ∀ (f : Nat) (j : Int), 100 ≤ f → f ≤ 158 → r f 0 j = none) : ax_nd (mdP P, G, mdR r, n) := by
  intro f o j q hm hq
  rcases mdR_c hq with ⟨z1, z2⟩ | z
  · exact Or.inl (mdP_i.mpr (Or.inr ⟨z2, z1⟩))
  · rcases mdP_i.mp hm with y | ⟨y1, y2⟩
    · exact (hnd f o j q y z).imp (fun w => mdP_i.mpr (Or.inl w)) id
    · have z : r f o j = some q := z
      have := mL_b y1
      rw [y2, hz f j this.1 this.2] at z
      cases z
theorem md_A {P : Nat → Int → Prop} {r : Nat → Int → Int → Option (Nat × Int)} : ∀ k : Nat, ax_isA 50 k = true → k < ax_N 50 → mdR r 1050 0 k = some (ax_sb 50 + k, 0) ∧ mdP P (ax_sb 50 + k) 0 := by
  intro k h1 h2
  have e9 : ∀ q : Nat, q < 59 → ax_isA 50 q = true → q ∈ [3, 4, 5, 6, 7, 8, 12, 13, 18, 19, 20, 24, 27, 28, 29, 30, 31, 32, 33, 34, 35, 36, 37, 38, 43, 44, 45, 51, 52, 53, 54, 55, 56, 57, 58] := by decide
  have hk := e9 k h2 h1
  simp only [List.mem_cons, List.not_mem_nil, or_false] at hk
  refine ⟨?_, mdP_i.mpr (Or.inr ⟨by unfold mL; show _ ∨ _; have : ax_sb 50 = 100 := rfl; omega, rfl⟩)⟩
  rcases hk with rfl | rfl | rfl | rfl | rfl | rfl | rfl | rfl | rfl | rfl | rfl | rfl | rfl | rfl | rfl | rfl | rfl | rfl | rfl | rfl | rfl | rfl | rfl | rfl | rfl | rfl | rfl | rfl | rfl | rfl | rfl | rfl | rfl | rfl | rfl <;> rfl
/-- a made thing takes its name; what led to it raw leads to 999 -/
def dN (f : Nat) (o : Int) : Nat → Int → Bool := fun f' o' => f' == f + 1000 && decide (o' = o)
theorem dN_f {f f' : Nat} {o o' : Int} : dN f o f' o' = false ↔ ¬ (f' = f + 1000 ∧ o' = o) := by
  unfold dN
  simp only [Bool.and_eq_false_iff, beq_eq_false_iff_ne, decide_eq_false_iff_not]
  omega
theorem nd_nm {P : Nat → Int → Prop} {g G : Nat → Int → Int → Int} {r : Nat → Int → Int → Option (Nat × Int)} {n N : Nat → Int → Int} {f : Nat} {o : Int} (h : ax_nd (P, g, r, n)) (hm : P (f + 1000) o) : ax_nd (dpP (dN f o) (rnP P f o), G, dpR (dN f o) (rnR r f o), N) := by
  refine nd_dp (g := G) (fun f' o' j q h1 h2 h3 h4 => ?_)
  have key : ∀ (f2 : Nat) (o2 : Int), P f2 o2 → r f2 o2 j = some q → rnP P f o q.1 q.2 ∨ q = (999, 0) := fun f2 o2 z1 z2 => (h f2 o2 j q z1 z2).imp (fun w => Or.inr ⟨w, dN_f.mp h4⟩) id
  by_cases c : f' = f ∧ o' = o
  · rw [c.1, c.2, rnR_s] at h3
    exact key _ _ hm h3
  · rw [rnR_n c] at h3
    exact key _ _ (h1.resolve_left c).1 h3
theorem dn_i {P : Nat → Int → Prop} {f f' : Nat} {o o' : Int} (hf : f < 1000) : dpP (dN f o) (rnP P f o) f' o' ↔ ((f' = f ∧ o' = o) ∨ (P f' o' ∧ ¬ (f' = f + 1000 ∧ o' = o))) := by
  constructor
  · exact fun z => z.1
  · exact fun z => ⟨z, dN_f.mpr (z.elim (fun y => by omega) (fun y => y.2))⟩
section NW
variable {own : Nat} {cc : ByteArray} {nL : Nat} {scr : Option (Nat × (Nat → Int32))} {R : Room} {p0 : Nat → Int → Prop} {Q : ax_Q} {kc ks pc : Nat} {la : List (Option ax_V)} {st : List ax_V}
variable {P : Nat → Int → Prop} {g : Nat → Int → Int → Int} {r : Nat → Int → Int → Option (Nat × Int)} {n : Nat → Int → Int}
theorem aj_nameD {f : Nat} {o : Int} (hl : f < 999) (ho : ax_ob f = true) (hm : P (f + 1000) o) (hfr : ¬ P f o) (hp0 : ∀ f o, p0 f o → P f o) (hp : ¬ p0 (f + 1000) o) (h99 : ¬ P 999 0) (hnd : ax_nd (P, g, r, n)) (hA : ∀ k : Nat, ax_isA f k = true → k < ax_N f → r (f + 1000) o k = some (ax_sb f + k, o) ∧ P (ax_sb f + k) o) (hn : n f o = n (f + 1000) o)
    (hla : ∀ v, some v ∈ la → ax_nvf (f + 1000) v = true ∧ ax_pv (dpP (dN f o) (rnP P f o)) v) (hst : ∀ v ∈ st, ax_nvf (f + 1000) v = true ∧ ax_pv (dpP (dN f o) (rnP P f o)) v)
    (kk : ax_J own cc nL scr R p0 Q kc ks pc la (.inr (.inr (some (f, o))) :: st) (dpP (dN f o) (rnP P f o), rnG g f o, dpR (dN f o) (rnR r f o), n)) : ax_J own cc nL scr R p0 Q kc ks pc la (.inr (.inr (some (f + 1000, o))) :: st) (P, g, r, n) := by
  refine aj_nameN (M := (P, g, r, n)) (by omega) ho hm hfr hp hnd (by omega) hA (fun v hv => (hla v hv).1) (fun v hv => (hst v hv).1) ?_
  rw [rn_e, rnN_e hn]
  refine aj_dropD (D := dN f o) (fun f' o' z => (dn_i (by omega)).mpr (Or.inr ⟨hp0 _ _ z, fun y => hp (by rw [← y.1, ← y.2]; exact z)⟩)) (fun z => ?_) (fun f' o' z1 z2 z3 k z4 z5 => ?_) (fun v hv => (hla v hv).2) (fun v hv => ?_) kk
  · rcases z with y | y
    · omega
    · exact h99 y.1
  · have hsb : ax_sb f' ≤ 700 := by unfold ax_sb; split <;> omega
    have hNb : ax_N f' ≤ 59 := by unfold ax_N; split <;> omega
    exact dN_f.mpr (by omega)
  · rcases List.mem_cons.mp hv with rfl | hv
    · exact (dn_i (by omega)).mpr (Or.inl ⟨rfl, rfl⟩)
    · exact (hst v hv).2
end NW
/-- the world that the constructors leave -/
theorem lw_first {Pa P1 P2 : Nat → Int → Prop} {g1 gA gm g2 : Nat → Int → Int → Int} {r1 rA r2 : Nat → Int → Int → Option (Nat × Int)} {n1 : Nat → Int → Int} (hPa : ∀ f o, Pa f o ↔ (pW f o ∨ (f = 1001 ∧ o = 0))) (hx : cX10 Pa nT P1 g1 r1 n1)
    (hgA : gA = rnG g1 1 0) (hrA : rA = dpR (dN 1 0) (rnR r1 1 0))
    (hm1 : ∀ (f : Nat) (o j : Int), ¬ (f = 1050 ∨ ((f = 118 ∨ f = 119 ∨ f = 155 ∨ f = 112 ∨ f = 113) ∧ o = 0)) → gm f o j = gA f o j) (hm2 : gm 1050 0 0 = 10 ∧ gm 1050 0 10 = 1 ∧ ∀ j, j ≠ 0 → j ≠ 10 → gm 1050 0 j = gA 1050 0 j) (hm3 : gm 112 0 0 = -2 ∧ gm 112 0 160 = -1 ∧ gm 112 0 320 = 4 ∧ gm 113 0 0 = 1 ∧ gm 113 0 1 = 1 ∧ gm 113 0 2 = 1) (hm4 : gm 155 0 0 = -1 ∧ gm 155 0 1 = -1 ∧ gm 155 0 2 = -1 ∧ gm 155 0 3 = -1) (hm5 : mLtr gm)
    (hg2 : g2 = rnG gm 50 0) (hr2 : ∀ (f : Nat) (o j : Int) (q : Nat × Int), f ≠ 50 → f ≠ 1050 → rA f o j = some q → q.1 ≠ 1050 → r2 f o j = some q) (hP2 : ∀ f o, P2 f o ↔ (((f = 50 ∧ o = 0) ∨ (f = 1 ∧ o = 0) ∨ (mL f ∧ o = 0)) ∨ (P1 f o ∧ ¬ (f = 1001 ∧ o = 0)))) (hnd : ax_nd (P2, g2, r2, n1)) : lwI 0 P2 g2 r2 n1 := by
  obtain ⟨x1, x2, x3, ⟨⟨a1, a2, a3, a4, a5⟩, ⟨a6, a7, a8⟩, a9, a10⟩, ⟨⟨b1, b2, b3, b4⟩, ⟨b5, b6⟩, b7, b8⟩, x5⟩ := hx
  -- what the class's families hold
  have e1 : ∀ (f : Nat) (o j : Int), f ≠ 50 → f ≠ 1050 → f ≠ 1 → ¬ ((f = 118 ∨ f = 119 ∨ f = 155 ∨ f = 112 ∨ f = 113) ∧ o = 0) → g2 f o j = g1 f o j := fun f o j z1 z2 z3 z4 => by
    rw [hg2, rnG_n (by omega), hm1 f o j (by omega), hgA, rnG_n (by omega)]
  have e2 : ∀ j, g2 1 0 j = g1 1001 0 j := fun j => by
    rw [hg2, rnG_n (by omega), hm1 1 0 j (by omega), hgA, rnG_s]
  have e3 : g2 50 0 0 = 10 ∧ g2 50 0 10 = 1 ∧ ∀ j, j ≠ 0 → j ≠ 10 → g2 50 0 j = 0 := by
    rw [hg2]
    refine ⟨by rw [rnG_s]; exact hm2.1, by rw [rnG_s]; exact hm2.2.1, fun j z1 z2 => ?_⟩
    rw [rnG_s, hm2.2.2 j z1 z2, hgA, rnG_n (by omega)]
    exact a10 1050 0 j (by omega)
  have e4 : ∀ (f : Nat) (o j : Int), f ≠ 50 → f ≠ 1050 → g2 f o j = gm f o j := fun f o j z1 z2 => by rw [hg2, rnG_n (by omega)]
  have c0 : ∀ (f : Nat) (o j : Int) (q : Nat × Int), f ≠ 50 → f ≠ 1050 → f ≠ 1 → r1 f o j = some q → q.1 < 999 → r2 f o j = some q := fun f o j q z1 z2 z3 z4 z5 => hr2 f o j q z1 z2 (by rw [hrA]; exact dpR_k (by rw [rnR_n (by omega)]; exact z4) (dN_f.mpr (by omega))) (by omega)
  have c1 : ∀ (j : Int) (q : Nat × Int), r1 1001 0 j = some q → q.1 < 999 → r2 1 0 j = some q := fun j q z4 z5 => hr2 1 0 j q (by decide) (by decide) (by rw [hrA]; exact dpR_k (by rw [rnR_s]; exact z4) (dN_f.mpr (by omega))) (by omega)
  have d1 : ∀ (f : Nat) (o : Int), P1 f o → f ≠ 1001 → P2 f o := fun f o z1 z2 => (hP2 f o).mpr (Or.inr ⟨z1, fun y => z2 y.1⟩)
  have d2 : ∀ (f : Nat) (o : Int), fX f o → P2 f o := fun f o z => d1 f o ((x1 f o).mpr (Or.inl (Or.inl (Or.inr z)))) (by unfold fX at z; omega)
  have d3 : ∀ (f : Nat) (o : Int), pW f o → P2 f o := fun f o z => d1 f o ((x1 f o).mpr (Or.inl (Or.inl (Or.inl ((hPa f o).mpr (Or.inl z)))))) (by unfold pW at z; omega)
  have d6 : ∀ (f : Nat), (f = 6 ∨ (600 ≤ f ∧ f ≤ 604)) → P2 f 0 := fun f z => d1 f 0 ((x1 f 0).mpr (Or.inr ⟨z, rfl⟩)) (by omega)
  have n0 : ∀ (f : Nat) (o : Int), ¬ (f = 6 ∨ (600 ≤ f ∧ f ≤ 604) ∨ f = 1006) → n1 f o = nT f o := fun f o z => x2 f o (by omega)
  have hmd : mdC g2 := ⟨⟨(e4 112 0 0 (by decide) (by decide)).trans hm3.1, (e4 112 0 160 (by decide) (by decide)).trans hm3.2.1, (e4 112 0 320 (by decide) (by decide)).trans hm3.2.2.1⟩, (e4 113 0 0 (by decide) (by decide)).trans hm3.2.2.2.1, (e4 113 0 1 (by decide) (by decide)).trans hm3.2.2.2.2.1, (e4 113 0 2 (by decide) (by decide)).trans hm3.2.2.2.2.2⟩
  obtain ⟨ru1, ru2⟩ := x3 g2 hmd
  have hru := cRu_c (g' := g2) (fun f j z1 z2 => e1 f 0 j (by omega) (by omega) (by omega) (by omega)) ru1
  obtain ⟨f0, f10, fj⟩ := e3
  have h50 : g2 50 0 1 = 0 ∧ g2 50 0 2 = 0 ∧ g2 50 0 9 = 0 ∧ g2 50 0 11 = 0 ∧ g2 50 0 46 = 0 := ⟨fj 1 (by decide) (by decide), fj 2 (by decide) (by decide), fj 9 (by decide) (by decide), fj 11 (by decide) (by decide), fj 46 (by decide) (by decide)⟩
  obtain ⟨h1, h2, h9, h11, h46⟩ := h50
  have t1 : g2 2 0 1 = 0 := (e1 2 0 1 (by decide) (by decide) (by decide) (by omega)).trans a6
  have t2 : g2 2 0 2 = 10 := (e1 2 0 2 (by decide) (by decide) (by decide) (by omega)).trans a1
  have t3 : g2 2 0 3 = 0 := (e1 2 0 3 (by decide) (by decide) (by decide) (by omega)).trans a7
  have t11 : g2 2 0 11 = 1 := (e1 2 0 11 (by decide) (by decide) (by decide) (by omega)).trans a2
  have z0 : ∀ (f : Nat) (o j : Int), (f = 402 ∨ (99 < f ∧ f < 300 ∧ ¬ ((f = 118 ∨ f = 119 ∨ f = 155 ∨ f = 112 ∨ f = 113) ∧ o = 0))) → g2 f o j = 0 := fun f o j z => (e1 f o j (by omega) (by omega) (by omega) (by omega)).trans (a10 f o j (by omega))
  have k155 : ∀ s, 0 ≤ s → s < 4 → g2 155 0 s = -1 := fun s y1 y2 => by
    rw [e4 155 0 s (by decide) (by decide)]
    have : s = 0 ∨ s = 1 ∨ s = 2 ∨ s = 3 := by omega
    rcases this with rfl | rfl | rfl | rfl
    · exact hm4.1
    · exact hm4.2.1
    · exact hm4.2.2.1
    · exact hm4.2.2.2
  have hw : cWd P2 r2 n1 g2 g2 := by
    refine ⟨⟨⟨⟨n0 200 0 (by omega), by omega, by omega⟩, fun a y1 y2 => by omega⟩, ⟨⟨by omega, by omega, by omega⟩, fun a y1 y2 => by omega⟩, ⟨by omega, by omega, by omega, by omega, by omega, fun t q y1 y2 y3 y4 => ?_, fun a y1 y2 => by omega⟩⟩, ⟨n0 214 0 (by omega), n0 215 0 (by omega), n0 216 0 (by omega), n0 209 0 (by omega), n0 210 0 (by omega)⟩, ⟨⟨⟨c1 0 _ b1 (by decide), d2 2 0 (by unfold fX; omega)⟩, ⟨c1 1 _ b2 (by decide), d2 3 0 (by unfold fX; omega)⟩, n0 702 0 (by omega)⟩, ⟨by rw [e2]; omega, by rw [e2]; omega, ?_⟩, fun t y1 y2 => ?_⟩, ⟨fun p y1 y2 => ⟨z0 214 0 p (by omega), z0 215 0 p (by omega)⟩, by omega, fun w y1 y2 => ?_⟩, ⟨n0 703 0 (by omega), fun s y1 y2 => ?_⟩, Or.inl ⟨h46, by rw [e2]; exact a3⟩, ⟨⟨n0 302 0 (by omega), n0 303 0 (by omega), n0 304 0 (by omega), n0 305 0 (by omega), n0 308 0 (by omega), n0 309 0 (by omega), n0 310 0 (by omega), n0 311 0 (by omega)⟩, ⟨?_, by omega, by omega⟩, fun k y1 y2 => by omega⟩⟩
    · have : t = 0 := by omega
      subst this
      exact ru2 q y3 y4
    · rw [h11]
      exact c0 2 0 4 _ (by decide) (by decide) (by decide) b5 (by decide)
    · have : t = 0 := by omega
      subst this
      exact ⟨⟨c0 702 0 0 _ (by decide) (by decide) (by decide) b6 (by decide), d6 6 (Or.inl rfl)⟩, hru⟩
    · have := z0 210 0 w (by omega)
      exact ⟨by omega, fun y => by omega⟩
    · have hs := a9 s y1 y2
      have s4 : ∀ j, g2 4 s j = g1 4 s j := fun j => e1 4 s j (by decide) (by decide) (by decide) (by omega)
      have k156 := z0 156 0 s (by omega)
      have k5 := k155 s y1 y2
      refine ⟨⟨c0 703 0 s _ (by decide) (by decide) (by decide) (b7 s y1 y2) (show (4 : Nat) < 999 by decide), d1 4 s ((x1 4 s).mpr (Or.inl (Or.inr (by omega)))) (by decide)⟩, n0 402 s (by omega), ⟨by rw [s4, k5]; exact hs.1, by rw [s4, k156]; exact hs.2⟩, ⟨by omega, by omega, by omega⟩, fun k y3 y4 => ?_⟩
      rw [z0 402 s k (by omega), z0 157 0 _ (by omega)]
    · rw [h9]
      exact (e1 3 0 0 (by decide) (by decide) (by decide) (by omega)).trans a5
  have hS : cStr P2 := ⟨fun k y1 y2 => ⟨d3 91 k (by unfold pW; omega), d3 92 k (by unfold pW; omega)⟩, d3 93 0 (by unfold pW; omega)⟩
  refine ⟨hw, by omega, ⟨hS, d3 90 0 (by unfold pW; omega), (hP2 1 0).mpr (Or.inl (Or.inr (Or.inl ⟨rfl, rfl⟩))), (hP2 50 0).mpr (Or.inl (Or.inl ⟨rfl, rfl⟩))⟩, fun f o z => ?_, hnd, fun f o z1 z2 => ?_, fun q hq => ?_, ?_⟩
  · rcases (hP2 f o).mp z with y | ⟨y1, y2⟩
    · rcases y with y | y | y
      · omega
      · omega
      · have := mL_b y.1
        omega
    · rcases (x1 f o).mp y1 with ((w | w) | w) | w
      · rcases (hPa f o).mp w with v | v
        · unfold pW at v
          omega
        · exact absurd v y2
      · unfold fX at w
        omega
      · omega
      · omega
  · rw [f10]
    rcases (hP2 f o).mp z1 with y | ⟨y1, y2⟩
    · rcases y with y | y | y
      · omega
      · omega
      · have := mL_b y.1
        omega
    · rcases (x1 f o).mp y1 with ((w | w) | w) | w
      · rcases (hPa f o).mp w with v | v
        · unfold pW at v
          omega
        · exact absurd v y2
      · unfold fX at w
        omega
      · omega
      · omega
  · have e : ∀ q ∈ mLens, 99 < q.1 ∧ q.1 < 200 := by decide
    rw [n0 q.1 0 (by have := e q hq; omega)]
    exact nT_L q hq
  · have e8 : ∀ j, g2 118 0 j = gm 118 0 j := fun j => e4 118 0 j (by decide) (by decide)
    have e9 : ∀ j, g2 119 0 j = gm 119 0 j := fun j => e4 119 0 j (by decide) (by decide)
    refine ⟨fun w y1 y2 => by rw [e9]; exact hm5.1 w y1 y2, fun w y1 y2 => ?_⟩
    rw [e9, e9]
    exact ⟨(hm5.2 w y1 y2).1, fun k y3 y4 => by rw [e8]; exact (hm5.2 w y1 y2).2 k y3 y4⟩
