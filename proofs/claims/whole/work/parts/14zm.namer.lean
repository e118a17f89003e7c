/-! ===== names of what was made where all is nought ===== -/
def rnP (P : Nat → Int → Prop) (f : Nat) (o : Int) : Nat → Int → Prop := fun f' o' => (f' = f ∧ o' = o) ∨ (P f' o' ∧ ¬ (f' = f + 1000 ∧ o' = o))
def rnG (g : Nat → Int → Int → Int) (f : Nat) (o : Int) : Nat → Int → Int → Int := fun f' o' j => if f' = f ∧ o' = o then g (f + 1000) o j else g f' o' j
def rnR (r : Nat → Int → Int → Option (Nat × Int)) (f : Nat) (o : Int) : Nat → Int → Int → Option (Nat × Int) := fun f' o' j => if f' = f ∧ o' = o then r (f + 1000) o j else r f' o' j
def rnN (n : Nat → Int → Int) (f : Nat) (o : Int) : Nat → Int → Int := fun f' o' => if f' = f ∧ o' = o then n (f + 1000) o else n f' o'
section RN
variable {P : Nat → Int → Prop} {g g' : Nat → Int → Int → Int} {r : Nat → Int → Int → Option (Nat × Int)} {n : Nat → Int → Int} {f F : Nat} {o : Int}
theorem rnN_e (h : n f o = n (f + 1000) o) : rnN n f o = n := by
  funext f' o'
  unfold rnN
  by_cases c : f' = f ∧ o' = o
  · rw [if_pos c, c.1, c.2, h]
  · rw [if_neg c]
theorem rnG_s {j : Int} : rnG g f o f o j = g (f + 1000) o j := if_pos ⟨rfl, rfl⟩
theorem rnG_n {f' : Nat} {o' j : Int} (h : ¬ (f' = f ∧ o' = o)) : rnG g f o f' o' j = g f' o' j := if_neg h
theorem rnR_s {j : Int} : rnR r f o f o j = r (f + 1000) o j := if_pos ⟨rfl, rfl⟩
theorem rnR_n {f' : Nat} {o' j : Int} (h : ¬ (f' = f ∧ o' = o)) : rnR r f o f' o' j = r f' o' j := if_neg h
theorem rn_e : ax_rn (P, g, r, n) f o = (rnP P f o, rnG g f o, rnR r f o, rnN n f o) := rfl
theorem nd_p (h : ax_nd (P, g, r, n)) (hz : ∀ j, r f o j = none) : ax_nd (mkP P f o, g, r, n) := by
  intro f2 o2 j q hm hq
  have hq : r f2 o2 j = some q := hq
  by_cases c : f2 = f ∧ o2 = o
  · rw [c.1, c.2, hz] at hq
    cases hq
  · exact (h f2 o2 j q (hm.resolve_left c) hq).imp (fun y => Or.inr y) id
theorem nr_p {o2 : Int} (h : ax_nr (P, g, r, n) F o2) (hz : ∀ j, r f o j = none) : ax_nr (mkP P f o, g', r, n) F o2 := by
  intro f2 o3 j hm hq
  have hq : r f2 o3 j = some (F, o2) := hq
  by_cases c : f2 = f ∧ o3 = o
  · rw [c.1, c.2, hz] at hq
    cases hq
  · exact h f2 o3 j (hm.resolve_left c) hq
end RN
section NM
variable {P : Nat → Int → Prop} {g g' : Nat → Int → Int → Int} {r : Nat → Int → Int → Option (Nat × Int)} {n : Nat → Int → Int} 
theorem pl_k : (ax_u3 (ax_u3 (ax_u3 (ax_u3 (ax_u3 (ax_u3 r 1002 0 0 (some (200, 0))) 1002 0 9 (some (209, 0))) 1002 0 10 (some (210, 0))) 1002 0 14 (some (214, 0))) 1002 0 15 (some (215, 0))) 1002 0 16 (some (216, 0))) 1002 0 0 = some (200, 0) ∧ (ax_u3 (ax_u3 (ax_u3 (ax_u3 (ax_u3 (ax_u3 r 1002 0 0 (some (200, 0))) 1002 0 9 (some (209, 0))) 1002 0 10 (some (210, 0))) 1002 0 14 (some (214, 0))) 1002 0 15 (some (215, 0))) 1002 0 16 (some (216, 0))) 1002 0 9 = some (209, 0) ∧ (ax_u3 (ax_u3 (ax_u3 (ax_u3 (ax_u3 (ax_u3 r 1002 0 0 (some (200, 0))) 1002 0 9 (some (209, 0))) 1002 0 10 (some (210, 0))) 1002 0 14 (some (214, 0))) 1002 0 15 (some (215, 0))) 1002 0 16 (some (216, 0))) 1002 0 10 = some (210, 0) ∧ (ax_u3 (ax_u3 (ax_u3 (ax_u3 (ax_u3 (ax_u3 r 1002 0 0 (some (200, 0))) 1002 0 9 (some (209, 0))) 1002 0 10 (some (210, 0))) 1002 0 14 (some (214, 0))) 1002 0 15 (some (215, 0))) 1002 0 16 (some (216, 0))) 1002 0 14 = some (214, 0) ∧ (ax_u3 (ax_u3 (ax_u3 (ax_u3 (ax_u3 (ax_u3 r 1002 0 0 (some (200, 0))) 1002 0 9 (some (209, 0))) 1002 0 10 (some (210, 0))) 1002 0 14 (some (214, 0))) 1002 0 15 (some (215, 0))) 1002 0 16 (some (216, 0))) 1002 0 15 = some (215, 0) ∧ (ax_u3 (ax_u3 (ax_u3 (ax_u3 (ax_u3 (ax_u3 r 1002 0 0 (some (200, 0))) 1002 0 9 (some (209, 0))) 1002 0 10 (some (210, 0))) 1002 0 14 (some (214, 0))) 1002 0 15 (some (215, 0))) 1002 0 16 (some (216, 0))) 1002 0 16 = some (216, 0) ∧ (ax_u3 (ax_u3 (ax_u3 (ax_u3 (ax_u3 (ax_u3 r 1002 0 0 (some (200, 0))) 1002 0 9 (some (209, 0))) 1002 0 10 (some (210, 0))) 1002 0 14 (some (214, 0))) 1002 0 15 (some (215, 0))) 1002 0 16 (some (216, 0))) 1002 0 16 = some (216, 0) := by
  refine ⟨?_, ?_, ?_, ?_, ?_, ?_, ?_⟩ <;> simp [ax_u3]
theorem pl_m : (mkP (mkP (mkP (mkP (mkP (mkP (mkP P 1002 0) 200 0) 209 0) 210 0) 214 0) 215 0) 216 0) 1002 0 ∧ (mkP (mkP (mkP (mkP (mkP (mkP (mkP P 1002 0) 200 0) 209 0) 210 0) 214 0) 215 0) 216 0) 200 0 ∧ (mkP (mkP (mkP (mkP (mkP (mkP (mkP P 1002 0) 200 0) 209 0) 210 0) 214 0) 215 0) 216 0) 209 0 ∧ (mkP (mkP (mkP (mkP (mkP (mkP (mkP P 1002 0) 200 0) 209 0) 210 0) 214 0) 215 0) 216 0) 210 0 ∧ (mkP (mkP (mkP (mkP (mkP (mkP (mkP P 1002 0) 200 0) 209 0) 210 0) 214 0) 215 0) 216 0) 214 0 ∧ (mkP (mkP (mkP (mkP (mkP (mkP (mkP P 1002 0) 200 0) 209 0) 210 0) 214 0) 215 0) 216 0) 215 0 ∧ (mkP (mkP (mkP (mkP (mkP (mkP (mkP P 1002 0) 200 0) 209 0) 210 0) 214 0) 215 0) 216 0) 216 0 := by
  refine ⟨?_, ?_, ?_, ?_, ?_, ?_, ?_⟩ <;> simp [mkP]
theorem pl_nd (hnd : ax_nd ((mkP P 1002 0), g, r, n)) (hz : ∀ (f : Nat) (j : Int), (200 ≤ f ∧ f ≤ 299) ∨ f = 1002 → r f 0 j = none) : ax_nd (mkP (mkP (mkP (mkP (mkP (mkP (mkP P 1002 0) 200 0) 209 0) 210 0) 214 0) 215 0) 216 0, g', ax_u3 (ax_u3 (ax_u3 (ax_u3 (ax_u3 (ax_u3 r 1002 0 0 (some (200, 0))) 1002 0 9 (some (209, 0))) 1002 0 10 (some (210, 0))) 1002 0 14 (some (214, 0))) 1002 0 15 (some (215, 0))) 1002 0 16 (some (216, 0)), n) :=
  nd_g (g := g) (nd_u (f := 1002) (o := 0) (j := 16) (q := (216, 0)) (nd_u (f := 1002) (o := 0) (j := 15) (q := (215, 0)) (nd_u (f := 1002) (o := 0) (j := 14) (q := (214, 0)) (nd_u (f := 1002) (o := 0) (j := 10) (q := (210, 0)) (nd_u (f := 1002) (o := 0) (j := 9) (q := (209, 0)) (nd_u (f := 1002) (o := 0) (j := 0) (q := (200, 0)) (nd_p (f := 216) (o := 0) (nd_p (f := 215) (o := 0) (nd_p (f := 214) (o := 0) (nd_p (f := 210) (o := 0) (nd_p (f := 209) (o := 0) (nd_p (f := 200) (o := 0) hnd (fun j => hz 200 j (by omega))) (fun j => hz 209 j (by omega))) (fun j => hz 210 j (by omega))) (fun j => hz 214 j (by omega))) (fun j => hz 215 j (by omega))) (fun j => hz 216 j (by omega))) pl_m.2.1) pl_m.2.2.1) pl_m.2.2.2.1) pl_m.2.2.2.2.1) pl_m.2.2.2.2.2.1) pl_m.2.2.2.2.2.2)
theorem pl_nr (hnd : ax_nd (P, g, r, n)) (hfr : ¬ P 1002 0) (hz : ∀ (f : Nat) (j : Int), (200 ≤ f ∧ f ≤ 299) ∨ f = 1002 → r f 0 j = none) : ax_nr (mkP (mkP (mkP (mkP (mkP (mkP (mkP P 1002 0) 200 0) 209 0) 210 0) 214 0) 215 0) 216 0, g', ax_u3 (ax_u3 (ax_u3 (ax_u3 (ax_u3 (ax_u3 r 1002 0 0 (some (200, 0))) 1002 0 9 (some (209, 0))) 1002 0 10 (some (210, 0))) 1002 0 14 (some (214, 0))) 1002 0 15 (some (215, 0))) 1002 0 16 (some (216, 0)), n) 1002 0 :=
  (nr_u (f := 1002) (o' := 0) (j := 16) (q := (216, 0)) (nr_u (f := 1002) (o' := 0) (j := 15) (q := (215, 0)) (nr_u (f := 1002) (o' := 0) (j := 14) (q := (214, 0)) (nr_u (f := 1002) (o' := 0) (j := 10) (q := (210, 0)) (nr_u (f := 1002) (o' := 0) (j := 9) (q := (209, 0)) (nr_u (f := 1002) (o' := 0) (j := 0) (q := (200, 0)) (nr_p (f := 216) (o := 0) (g' := g') (nr_p (f := 215) (o := 0) (g' := g') (nr_p (f := 214) (o := 0) (g' := g') (nr_p (f := 210) (o := 0) (g' := g') (nr_p (f := 209) (o := 0) (g' := g') (nr_p (f := 200) (o := 0) (g' := g') (nr_p (f := 1002) (o := 0) (g' := g') (nr_0 hnd hfr (by decide)) (fun j => hz 1002 j (by omega))) (fun j => hz 200 j (by omega))) (fun j => hz 209 j (by omega))) (fun j => hz 210 j (by omega))) (fun j => hz 214 j (by omega))) (fun j => hz 215 j (by omega))) (fun j => hz 216 j (by omega))) (by simp)) (by simp)) (by simp)) (by simp)) (by simp)) (by simp))
theorem pl_P (hfr : ¬ P 1002 0) : ∀ (f : Nat) (o' : Int), rnP (mkP (mkP (mkP (mkP (mkP (mkP (mkP P 1002 0) 200 0) 209 0) 210 0) 214 0) 215 0) 216 0) 2 0 f o' ↔ (P f o' ∨ ((f = 2 ∨ f = 200 ∨ f = 209 ∨ f = 210 ∨ f = 214 ∨ f = 215 ∨ f = 216) ∧ o' = 0)) := by
  intro f o'
  unfold rnP mkP
  constructor
  · rintro (h | ⟨h | h | h | h | h | h | h | h, z⟩)
    · exact Or.inr (by omega)
    · exact Or.inr (by omega)
    · exact Or.inr (by omega)
    · exact Or.inr (by omega)
    · exact Or.inr (by omega)
    · exact Or.inr (by omega)
    · exact Or.inr (by omega)
    · exact Or.inr (by omega)
    · exact Or.inl h
  · rintro (h | ⟨h, h2⟩)
    · exact Or.inr ⟨Or.inr (Or.inr (Or.inr (Or.inr (Or.inr (Or.inr (Or.inr (h))))))), fun z => hfr (by rw [← z.2, ← show f = 1002 from z.1]; exact h)⟩
    · rcases h with h | h | h | h | h | h | h
      · exact Or.inl ⟨h, h2⟩
      · exact Or.inr ⟨Or.inr (Or.inr (Or.inr (Or.inr (Or.inr (Or.inl ⟨h, h2⟩))))), by omega⟩
      · exact Or.inr ⟨Or.inr (Or.inr (Or.inr (Or.inr (Or.inl ⟨h, h2⟩)))), by omega⟩
      · exact Or.inr ⟨Or.inr (Or.inr (Or.inr (Or.inl ⟨h, h2⟩))), by omega⟩
      · exact Or.inr ⟨Or.inr (Or.inr (Or.inl ⟨h, h2⟩)), by omega⟩
      · exact Or.inr ⟨Or.inr (Or.inl ⟨h, h2⟩), by omega⟩
      · exact Or.inr ⟨Or.inl ⟨h, h2⟩, by omega⟩
theorem of_pl (hnd : ax_nd (P, g, r, n)) (hfr : ¬ P 1002 0) (hz : ∀ (f : Nat) (j : Int), (200 ≤ f ∧ f ≤ 299) ∨ f = 1002 → r f 0 j = none) (hzg : ∀ j, g 1002 0 j = 0) (hn : n 2 0 = n 1002 0) :
    ∃ P' g' r', ax_rn (mkP (mkP (mkP (mkP (mkP (mkP (mkP P 1002 0) 200 0) 209 0) 210 0) 214 0) 215 0) 216 0, (ax_u3 (ax_u3 g 1002 0 2 10) 1002 0 11 1), ax_u3 (ax_u3 (ax_u3 (ax_u3 (ax_u3 (ax_u3 r 1002 0 0 (some (200, 0))) 1002 0 9 (some (209, 0))) 1002 0 10 (some (210, 0))) 1002 0 14 (some (214, 0))) 1002 0 15 (some (215, 0))) 1002 0 16 (some (216, 0)), n) 2 0 = (P', g', r', n) ∧ (∀ (f : Nat) (o' : Int), P' f o' ↔ (P f o' ∨ ((f = 2 ∨ f = 200 ∨ f = 209 ∨ f = 210 ∨ f = 214 ∨ f = 215 ∨ f = 216) ∧ o' = 0))) ∧ (g' 2 0 2 = 10 ∧ g' 2 0 11 = 1 ∧ ∀ j, j ≠ 2 → j ≠ 11 → g' 2 0 j = 0) ∧ (∀ f o' j, ¬ ((f = 2 ∨ f = 1002) ∧ o' = 0) → g' f o' j = g f o' j) ∧ (∀ f o' j, ¬ ((f = 2 ∨ f = 1002) ∧ o' = 0) → r' f o' j = r f o' j) ∧ ax_nd (P', g', r', n) := by
  have h2 := pl_nd (g' := (ax_u3 (ax_u3 g 1002 0 2 10) 1002 0 11 1)) (nd_p hnd (fun j => hz 1002 j (by omega))) hz
  have h3 := pl_nr (g' := (ax_u3 (ax_u3 g 1002 0 2 10) 1002 0 11 1)) hnd hfr hz
  have h4 := ax_nd_rn (f := 2) h2 h3 pl_m.1
  rw [rn_e, rnN_e hn] at h4
  refine ⟨_, _, _, by rw [rn_e, rnN_e hn], pl_P hfr, ?_, fun f o' j z => ?_, fun f o' j z => ?_, h4⟩
  · exact ⟨rfl, rfl, fun j z1 z2 => by rw [rnG_s, ax_u3_n (by omega), ax_u3_n (by omega)]; exact hzg j⟩
  · rw [rnG_n (by omega), ax_u3_n (by omega), ax_u3_n (by omega)]
  · rw [rnR_n (by omega)]
    rw [ax_u3_n (by omega), ax_u3_n (by omega), ax_u3_n (by omega), ax_u3_n (by omega), ax_u3_n (by omega), ax_u3_n (by omega)]
end NM
section NM
variable {P : Nat → Int → Prop} {g g' : Nat → Int → Int → Int} {r : Nat → Int → Int → Option (Nat × Int)} {n : Nat → Int → Int} 
theorem tp_k : (ax_u3 (ax_u3 (ax_u3 (ax_u3 (ax_u3 (ax_u3 (ax_u3 (ax_u3 r 1003 0 2 (some (302, 0))) 1003 0 3 (some (303, 0))) 1003 0 4 (some (304, 0))) 1003 0 5 (some (305, 0))) 1003 0 8 (some (308, 0))) 1003 0 9 (some (309, 0))) 1003 0 10 (some (310, 0))) 1003 0 11 (some (311, 0))) 1003 0 2 = some (302, 0) ∧ (ax_u3 (ax_u3 (ax_u3 (ax_u3 (ax_u3 (ax_u3 (ax_u3 (ax_u3 r 1003 0 2 (some (302, 0))) 1003 0 3 (some (303, 0))) 1003 0 4 (some (304, 0))) 1003 0 5 (some (305, 0))) 1003 0 8 (some (308, 0))) 1003 0 9 (some (309, 0))) 1003 0 10 (some (310, 0))) 1003 0 11 (some (311, 0))) 1003 0 3 = some (303, 0) ∧ (ax_u3 (ax_u3 (ax_u3 (ax_u3 (ax_u3 (ax_u3 (ax_u3 (ax_u3 r 1003 0 2 (some (302, 0))) 1003 0 3 (some (303, 0))) 1003 0 4 (some (304, 0))) 1003 0 5 (some (305, 0))) 1003 0 8 (some (308, 0))) 1003 0 9 (some (309, 0))) 1003 0 10 (some (310, 0))) 1003 0 11 (some (311, 0))) 1003 0 4 = some (304, 0) ∧ (ax_u3 (ax_u3 (ax_u3 (ax_u3 (ax_u3 (ax_u3 (ax_u3 (ax_u3 r 1003 0 2 (some (302, 0))) 1003 0 3 (some (303, 0))) 1003 0 4 (some (304, 0))) 1003 0 5 (some (305, 0))) 1003 0 8 (some (308, 0))) 1003 0 9 (some (309, 0))) 1003 0 10 (some (310, 0))) 1003 0 11 (some (311, 0))) 1003 0 5 = some (305, 0) ∧ (ax_u3 (ax_u3 (ax_u3 (ax_u3 (ax_u3 (ax_u3 (ax_u3 (ax_u3 r 1003 0 2 (some (302, 0))) 1003 0 3 (some (303, 0))) 1003 0 4 (some (304, 0))) 1003 0 5 (some (305, 0))) 1003 0 8 (some (308, 0))) 1003 0 9 (some (309, 0))) 1003 0 10 (some (310, 0))) 1003 0 11 (some (311, 0))) 1003 0 8 = some (308, 0) ∧ (ax_u3 (ax_u3 (ax_u3 (ax_u3 (ax_u3 (ax_u3 (ax_u3 (ax_u3 r 1003 0 2 (some (302, 0))) 1003 0 3 (some (303, 0))) 1003 0 4 (some (304, 0))) 1003 0 5 (some (305, 0))) 1003 0 8 (some (308, 0))) 1003 0 9 (some (309, 0))) 1003 0 10 (some (310, 0))) 1003 0 11 (some (311, 0))) 1003 0 9 = some (309, 0) ∧ (ax_u3 (ax_u3 (ax_u3 (ax_u3 (ax_u3 (ax_u3 (ax_u3 (ax_u3 r 1003 0 2 (some (302, 0))) 1003 0 3 (some (303, 0))) 1003 0 4 (some (304, 0))) 1003 0 5 (some (305, 0))) 1003 0 8 (some (308, 0))) 1003 0 9 (some (309, 0))) 1003 0 10 (some (310, 0))) 1003 0 11 (some (311, 0))) 1003 0 10 = some (310, 0) ∧ (ax_u3 (ax_u3 (ax_u3 (ax_u3 (ax_u3 (ax_u3 (ax_u3 (ax_u3 r 1003 0 2 (some (302, 0))) 1003 0 3 (some (303, 0))) 1003 0 4 (some (304, 0))) 1003 0 5 (some (305, 0))) 1003 0 8 (some (308, 0))) 1003 0 9 (some (309, 0))) 1003 0 10 (some (310, 0))) 1003 0 11 (some (311, 0))) 1003 0 11 = some (311, 0) ∧ (ax_u3 (ax_u3 (ax_u3 (ax_u3 (ax_u3 (ax_u3 (ax_u3 (ax_u3 r 1003 0 2 (some (302, 0))) 1003 0 3 (some (303, 0))) 1003 0 4 (some (304, 0))) 1003 0 5 (some (305, 0))) 1003 0 8 (some (308, 0))) 1003 0 9 (some (309, 0))) 1003 0 10 (some (310, 0))) 1003 0 11 (some (311, 0))) 1003 0 11 = some (311, 0) := by
  refine ⟨?_, ?_, ?_, ?_, ?_, ?_, ?_, ?_, ?_⟩ <;> simp [ax_u3]
theorem tp_m : (mkP (mkP (mkP (mkP (mkP (mkP (mkP (mkP (mkP P 1003 0) 302 0) 303 0) 304 0) 305 0) 308 0) 309 0) 310 0) 311 0) 1003 0 ∧ (mkP (mkP (mkP (mkP (mkP (mkP (mkP (mkP (mkP P 1003 0) 302 0) 303 0) 304 0) 305 0) 308 0) 309 0) 310 0) 311 0) 302 0 ∧ (mkP (mkP (mkP (mkP (mkP (mkP (mkP (mkP (mkP P 1003 0) 302 0) 303 0) 304 0) 305 0) 308 0) 309 0) 310 0) 311 0) 303 0 ∧ (mkP (mkP (mkP (mkP (mkP (mkP (mkP (mkP (mkP P 1003 0) 302 0) 303 0) 304 0) 305 0) 308 0) 309 0) 310 0) 311 0) 304 0 ∧ (mkP (mkP (mkP (mkP (mkP (mkP (mkP (mkP (mkP P 1003 0) 302 0) 303 0) 304 0) 305 0) 308 0) 309 0) 310 0) 311 0) 305 0 ∧ (mkP (mkP (mkP (mkP (mkP (mkP (mkP (mkP (mkP P 1003 0) 302 0) 303 0) 304 0) 305 0) 308 0) 309 0) 310 0) 311 0) 308 0 ∧ (mkP (mkP (mkP (mkP (mkP (mkP (mkP (mkP (mkP P 1003 0) 302 0) 303 0) 304 0) 305 0) 308 0) 309 0) 310 0) 311 0) 309 0 ∧ (mkP (mkP (mkP (mkP (mkP (mkP (mkP (mkP (mkP P 1003 0) 302 0) 303 0) 304 0) 305 0) 308 0) 309 0) 310 0) 311 0) 310 0 ∧ (mkP (mkP (mkP (mkP (mkP (mkP (mkP (mkP (mkP P 1003 0) 302 0) 303 0) 304 0) 305 0) 308 0) 309 0) 310 0) 311 0) 311 0 := by
  refine ⟨?_, ?_, ?_, ?_, ?_, ?_, ?_, ?_, ?_⟩ <;> simp [mkP]
theorem tp_nd (hnd : ax_nd ((mkP P 1003 0), g, r, n)) (hz : ∀ (f : Nat) (j : Int), (300 ≤ f ∧ f ≤ 399) ∨ f = 1003 → r f 0 j = none) : ax_nd (mkP (mkP (mkP (mkP (mkP (mkP (mkP (mkP (mkP P 1003 0) 302 0) 303 0) 304 0) 305 0) 308 0) 309 0) 310 0) 311 0, g', ax_u3 (ax_u3 (ax_u3 (ax_u3 (ax_u3 (ax_u3 (ax_u3 (ax_u3 r 1003 0 2 (some (302, 0))) 1003 0 3 (some (303, 0))) 1003 0 4 (some (304, 0))) 1003 0 5 (some (305, 0))) 1003 0 8 (some (308, 0))) 1003 0 9 (some (309, 0))) 1003 0 10 (some (310, 0))) 1003 0 11 (some (311, 0)), n) :=
  nd_g (g := g) (nd_u (f := 1003) (o := 0) (j := 11) (q := (311, 0)) (nd_u (f := 1003) (o := 0) (j := 10) (q := (310, 0)) (nd_u (f := 1003) (o := 0) (j := 9) (q := (309, 0)) (nd_u (f := 1003) (o := 0) (j := 8) (q := (308, 0)) (nd_u (f := 1003) (o := 0) (j := 5) (q := (305, 0)) (nd_u (f := 1003) (o := 0) (j := 4) (q := (304, 0)) (nd_u (f := 1003) (o := 0) (j := 3) (q := (303, 0)) (nd_u (f := 1003) (o := 0) (j := 2) (q := (302, 0)) (nd_p (f := 311) (o := 0) (nd_p (f := 310) (o := 0) (nd_p (f := 309) (o := 0) (nd_p (f := 308) (o := 0) (nd_p (f := 305) (o := 0) (nd_p (f := 304) (o := 0) (nd_p (f := 303) (o := 0) (nd_p (f := 302) (o := 0) hnd (fun j => hz 302 j (by omega))) (fun j => hz 303 j (by omega))) (fun j => hz 304 j (by omega))) (fun j => hz 305 j (by omega))) (fun j => hz 308 j (by omega))) (fun j => hz 309 j (by omega))) (fun j => hz 310 j (by omega))) (fun j => hz 311 j (by omega))) tp_m.2.1) tp_m.2.2.1) tp_m.2.2.2.1) tp_m.2.2.2.2.1) tp_m.2.2.2.2.2.1) tp_m.2.2.2.2.2.2.1) tp_m.2.2.2.2.2.2.2.1) tp_m.2.2.2.2.2.2.2.2)
theorem tp_nr (hnd : ax_nd (P, g, r, n)) (hfr : ¬ P 1003 0) (hz : ∀ (f : Nat) (j : Int), (300 ≤ f ∧ f ≤ 399) ∨ f = 1003 → r f 0 j = none) : ax_nr (mkP (mkP (mkP (mkP (mkP (mkP (mkP (mkP (mkP P 1003 0) 302 0) 303 0) 304 0) 305 0) 308 0) 309 0) 310 0) 311 0, g', ax_u3 (ax_u3 (ax_u3 (ax_u3 (ax_u3 (ax_u3 (ax_u3 (ax_u3 r 1003 0 2 (some (302, 0))) 1003 0 3 (some (303, 0))) 1003 0 4 (some (304, 0))) 1003 0 5 (some (305, 0))) 1003 0 8 (some (308, 0))) 1003 0 9 (some (309, 0))) 1003 0 10 (some (310, 0))) 1003 0 11 (some (311, 0)), n) 1003 0 :=
  (nr_u (f := 1003) (o' := 0) (j := 11) (q := (311, 0)) (nr_u (f := 1003) (o' := 0) (j := 10) (q := (310, 0)) (nr_u (f := 1003) (o' := 0) (j := 9) (q := (309, 0)) (nr_u (f := 1003) (o' := 0) (j := 8) (q := (308, 0)) (nr_u (f := 1003) (o' := 0) (j := 5) (q := (305, 0)) (nr_u (f := 1003) (o' := 0) (j := 4) (q := (304, 0)) (nr_u (f := 1003) (o' := 0) (j := 3) (q := (303, 0)) (nr_u (f := 1003) (o' := 0) (j := 2) (q := (302, 0)) (nr_p (f := 311) (o := 0) (g' := g') (nr_p (f := 310) (o := 0) (g' := g') (nr_p (f := 309) (o := 0) (g' := g') (nr_p (f := 308) (o := 0) (g' := g') (nr_p (f := 305) (o := 0) (g' := g') (nr_p (f := 304) (o := 0) (g' := g') (nr_p (f := 303) (o := 0) (g' := g') (nr_p (f := 302) (o := 0) (g' := g') (nr_p (f := 1003) (o := 0) (g' := g') (nr_0 hnd hfr (by decide)) (fun j => hz 1003 j (by omega))) (fun j => hz 302 j (by omega))) (fun j => hz 303 j (by omega))) (fun j => hz 304 j (by omega))) (fun j => hz 305 j (by omega))) (fun j => hz 308 j (by omega))) (fun j => hz 309 j (by omega))) (fun j => hz 310 j (by omega))) (fun j => hz 311 j (by omega))) (by simp)) (by simp)) (by simp)) (by simp)) (by simp)) (by simp)) (by simp)) (by simp))
theorem tp_P (hfr : ¬ P 1003 0) : ∀ (f : Nat) (o' : Int), rnP (mkP (mkP (mkP (mkP (mkP (mkP (mkP (mkP (mkP P 1003 0) 302 0) 303 0) 304 0) 305 0) 308 0) 309 0) 310 0) 311 0) 3 0 f o' ↔ (P f o' ∨ ((f = 3 ∨ f = 302 ∨ f = 303 ∨ f = 304 ∨ f = 305 ∨ f = 308 ∨ f = 309 ∨ f = 310 ∨ f = 311) ∧ o' = 0)) := by
  intro f o'
  unfold rnP mkP
  constructor
  · rintro (h | ⟨h | h | h | h | h | h | h | h | h | h, z⟩)
    · exact Or.inr (by omega)
    · exact Or.inr (by omega)
    · exact Or.inr (by omega)
    · exact Or.inr (by omega)
    · exact Or.inr (by omega)
    · exact Or.inr (by omega)
    · exact Or.inr (by omega)
    · exact Or.inr (by omega)
    · exact Or.inr (by omega)
    · exact Or.inr (by omega)
    · exact Or.inl h
  · rintro (h | ⟨h, h2⟩)
    · exact Or.inr ⟨Or.inr (Or.inr (Or.inr (Or.inr (Or.inr (Or.inr (Or.inr (Or.inr (Or.inr (h))))))))), fun z => hfr (by rw [← z.2, ← show f = 1003 from z.1]; exact h)⟩
    · rcases h with h | h | h | h | h | h | h | h | h
      · exact Or.inl ⟨h, h2⟩
      · exact Or.inr ⟨Or.inr (Or.inr (Or.inr (Or.inr (Or.inr (Or.inr (Or.inr (Or.inl ⟨h, h2⟩))))))), by omega⟩
      · exact Or.inr ⟨Or.inr (Or.inr (Or.inr (Or.inr (Or.inr (Or.inr (Or.inl ⟨h, h2⟩)))))), by omega⟩
      · exact Or.inr ⟨Or.inr (Or.inr (Or.inr (Or.inr (Or.inr (Or.inl ⟨h, h2⟩))))), by omega⟩
      · exact Or.inr ⟨Or.inr (Or.inr (Or.inr (Or.inr (Or.inl ⟨h, h2⟩)))), by omega⟩
      · exact Or.inr ⟨Or.inr (Or.inr (Or.inr (Or.inl ⟨h, h2⟩))), by omega⟩
      · exact Or.inr ⟨Or.inr (Or.inr (Or.inl ⟨h, h2⟩)), by omega⟩
      · exact Or.inr ⟨Or.inr (Or.inl ⟨h, h2⟩), by omega⟩
      · exact Or.inr ⟨Or.inl ⟨h, h2⟩, by omega⟩
theorem of_tp (hnd : ax_nd (P, g, r, n)) (hfr : ¬ P 1003 0) (hz : ∀ (f : Nat) (j : Int), (300 ≤ f ∧ f ≤ 399) ∨ f = 1003 → r f 0 j = none) (hzg : ∀ j, g 1003 0 j = 0) (hn : n 3 0 = n 1003 0) :
    ∃ P' g' r', ax_rn (mkP (mkP (mkP (mkP (mkP (mkP (mkP (mkP (mkP P 1003 0) 302 0) 303 0) 304 0) 305 0) 308 0) 309 0) 310 0) 311 0, g, ax_u3 (ax_u3 (ax_u3 (ax_u3 (ax_u3 (ax_u3 (ax_u3 (ax_u3 r 1003 0 2 (some (302, 0))) 1003 0 3 (some (303, 0))) 1003 0 4 (some (304, 0))) 1003 0 5 (some (305, 0))) 1003 0 8 (some (308, 0))) 1003 0 9 (some (309, 0))) 1003 0 10 (some (310, 0))) 1003 0 11 (some (311, 0)), n) 3 0 = (P', g', r', n) ∧ (∀ (f : Nat) (o' : Int), P' f o' ↔ (P f o' ∨ ((f = 3 ∨ f = 302 ∨ f = 303 ∨ f = 304 ∨ f = 305 ∨ f = 308 ∨ f = 309 ∨ f = 310 ∨ f = 311) ∧ o' = 0))) ∧ (∀ j, g' 3 0 j = 0) ∧ (∀ f o' j, ¬ ((f = 3 ∨ f = 1003) ∧ o' = 0) → g' f o' j = g f o' j) ∧ (∀ f o' j, ¬ ((f = 3 ∨ f = 1003) ∧ o' = 0) → r' f o' j = r f o' j) ∧ ax_nd (P', g', r', n) := by
  have h2 := tp_nd (g' := g) (nd_p hnd (fun j => hz 1003 j (by omega))) hz
  have h3 := tp_nr (g' := g) hnd hfr hz
  have h4 := ax_nd_rn (f := 3) h2 h3 tp_m.1
  rw [rn_e, rnN_e hn] at h4
  refine ⟨_, _, _, by rw [rn_e, rnN_e hn], tp_P hfr, ?_, fun f o' j z => ?_, fun f o' j z => ?_, h4⟩
  · exact fun j => by rw [rnG_s]; exact hzg j
  · rw [rnG_n (by omega)]
  · rw [rnR_n (by omega)]
    rw [ax_u3_n (by omega), ax_u3_n (by omega), ax_u3_n (by omega), ax_u3_n (by omega), ax_u3_n (by omega), ax_u3_n (by omega), ax_u3_n (by omega), ax_u3_n (by omega)]
end NM
section NM
variable {P : Nat → Int → Prop} {g g' : Nat → Int → Int → Int} {r : Nat → Int → Int → Option (Nat × Int)} {n : Nat → Int → Int} {o : Int} 
theorem sh_k : (ax_u3 r 1004 o 2 (some (402, o))) 1004 o 2 = some (402, o) ∧ (ax_u3 r 1004 o 2 (some (402, o))) 1004 o 2 = some (402, o) := by
  refine ⟨?_, ?_⟩ <;> simp [ax_u3]
theorem sh_m : (mkP (mkP P 1004 o) 402 o) 1004 o ∧ (mkP (mkP P 1004 o) 402 o) 402 o := by
  refine ⟨?_, ?_⟩ <;> simp [mkP]
theorem sh_nd (hnd : ax_nd ((mkP P 1004 o), g, r, n)) (hz : ∀ (f : Nat) (j : Int), (400 ≤ f ∧ f ≤ 499) ∨ f = 1004 → r f o j = none) : ax_nd (mkP (mkP P 1004 o) 402 o, g', ax_u3 r 1004 o 2 (some (402, o)), n) :=
  nd_g (g := g) (nd_u (f := 1004) (o := o) (j := 2) (q := (402, o)) (nd_p (f := 402) (o := o) hnd (fun j => hz 402 j (by omega))) sh_m.2)
theorem sh_nr (hnd : ax_nd (P, g, r, n)) (hfr : ¬ P 1004 o) (hz : ∀ (f : Nat) (j : Int), (400 ≤ f ∧ f ≤ 499) ∨ f = 1004 → r f o j = none) : ax_nr (mkP (mkP P 1004 o) 402 o, g', ax_u3 r 1004 o 2 (some (402, o)), n) 1004 o :=
  (nr_u (f := 1004) (o' := o) (j := 2) (q := (402, o)) (nr_p (f := 402) (o := o) (g' := g') (nr_p (f := 1004) (o := o) (g' := g') (nr_0 hnd hfr (by decide)) (fun j => hz 1004 j (by omega))) (fun j => hz 402 j (by omega))) (by simp))
theorem sh_P (hfr : ¬ P 1004 o) : ∀ (f : Nat) (o' : Int), rnP (mkP (mkP P 1004 o) 402 o) 4 o f o' ↔ (P f o' ∨ ((f = 4 ∨ f = 402) ∧ o' = o)) := by
  intro f o'
  unfold rnP mkP
  constructor
  · rintro (h | ⟨h | h | h, z⟩)
    · exact Or.inr (by omega)
    · exact Or.inr (by omega)
    · exact Or.inr (by omega)
    · exact Or.inl h
  · rintro (h | ⟨h, h2⟩)
    · exact Or.inr ⟨Or.inr (Or.inr (h)), fun z => hfr (by rw [← z.2, ← show f = 1004 from z.1]; exact h)⟩
    · rcases h with h | h
      · exact Or.inl ⟨h, h2⟩
      · exact Or.inr ⟨Or.inl ⟨h, h2⟩, by omega⟩
theorem of_sh (hnd : ax_nd (P, g, r, n)) (hfr : ¬ P 1004 o) (hz : ∀ (f : Nat) (j : Int), (400 ≤ f ∧ f ≤ 499) ∨ f = 1004 → r f o j = none) (hzg : ∀ j, g 1004 o j = 0) (hn : n 4 o = n 1004 o) :
    ∃ P' g' r', ax_rn (mkP (mkP P 1004 o) 402 o, (ax_u3 g 1004 o 0 (-1)), ax_u3 r 1004 o 2 (some (402, o)), n) 4 o = (P', g', r', n) ∧ (∀ (f : Nat) (o' : Int), P' f o' ↔ (P f o' ∨ ((f = 4 ∨ f = 402) ∧ o' = o))) ∧ (g' 4 o 0 = -1 ∧ g' 4 o 1 = 0) ∧ (∀ f o' j, ¬ ((f = 4 ∨ f = 1004) ∧ o' = o) → g' f o' j = g f o' j) ∧ (∀ f o' j, ¬ ((f = 4 ∨ f = 1004) ∧ o' = o) → r' f o' j = r f o' j) ∧ ax_nd (P', g', r', n) := by
  have h2 := sh_nd (g' := (ax_u3 g 1004 o 0 (-1))) (nd_p hnd (fun j => hz 1004 j (by omega))) hz
  have h3 := sh_nr (g' := (ax_u3 g 1004 o 0 (-1))) hnd hfr hz
  have h4 := ax_nd_rn (f := 4) h2 h3 sh_m.1
  rw [rn_e, rnN_e hn] at h4
  refine ⟨_, _, _, by rw [rn_e, rnN_e hn], sh_P hfr, ?_, fun f o' j z => ?_, fun f o' j z => ?_, h4⟩
  · exact ⟨by rw [rnG_s]; exact ax_u3_s, by rw [rnG_s, ax_u3_n (by omega)]; exact hzg 1⟩
  · rw [rnG_n (by omega), ax_u3_n (by omega)]
  · rw [rnR_n (by omega)]
    rw [ax_u3_n (by omega)]
end NM
