/-- a loop over a, each turn of which sets cells at place a of some families -/
def ptw (C : Nat → Bool) (V : Nat → Int → Int) (g : Nat → Int → Int → Int) (m : Int) : Nat → Int → Int → Int := fun f o j => if C f = true ∧ o = 0 ∧ 0 ≤ j ∧ j < m then V f j else g f o j
theorem ptw_0 {C : Nat → Bool} {V : Nat → Int → Int} {g : Nat → Int → Int → Int} : g = ptw C V g 0 := by
  funext f o j
  unfold ptw
  rw [if_neg (by omega)]
theorem ptw_at {C : Nat → Bool} {V : Nat → Int → Int} {g : Nat → Int → Int → Int} {a o : Int} {f : Nat} : ptw C V g a f o a = g f o a := by
  unfold ptw
  rw [if_neg (by omega)]
theorem ptw_o {C : Nat → Bool} {V : Nat → Int → Int} {g : Nat → Int → Int → Int} {m o j : Int} {f : Nat} (h : C f = false) : ptw C V g m f o j = g f o j := by
  unfold ptw
  rw [if_neg (fun q => by rw [h] at q; cases q.1)]
theorem ptw_r {C : Nat → Bool} {V : Nat → Int → Int} {g : Nat → Int → Int → Int} {m j : Int} {f : Nat} (h : C f = true) (h1 : 0 ≤ j) (h2 : j < m) : ptw C V g m f 0 j = V f j := by
  unfold ptw
  rw [if_pos ⟨h, rfl, h1, h2⟩]
theorem ptw_s {C : Nat → Bool} {V : Nat → Int → Int} {g X : Nat → Int → Int → Int} {a : Int} (i1 : 0 ≤ a) (h1 : ∀ f, C f = true → X f 0 a = V f a) (h2 : ∀ f o j, ¬ (C f = true ∧ o = 0 ∧ j = a) → X f o j = ptw C V g a f o j) : X = ptw C V g (a + 1) := by
  funext f o j
  by_cases q : C f = true ∧ o = 0 ∧ j = a
  · obtain ⟨q1, rfl, rfl⟩ := q
    rw [h1 f q1, ptw_r q1 i1 (by omega)]
  · rw [h2 f o j q]
    unfold ptw
    by_cases q2 : C f = true ∧ o = 0 ∧ 0 ≤ j ∧ j < a
    · rw [if_pos q2, if_pos ⟨q2.1, q2.2.1, q2.2.2.1, by omega⟩]
    · rw [if_neg q2, if_neg (fun z => q2 ⟨z.1, z.2.1, z.2.2.1, by have : ¬ j = a := fun e => q ⟨z.1, z.2.1, e⟩; omega⟩)]
/-- no change of place a -/
theorem ptw_n {C : Nat → Bool} {V : Nat → Int → Int} {g : Nat → Int → Int → Int} {a : Int} (i1 : 0 ≤ a) (h1 : ∀ f, C f = true → g f 0 a = V f a) : ptw C V g a = ptw C V g (a + 1) := ptw_s i1 (fun f h => by rw [ptw_at]; exact h1 f h) (fun _ _ _ _ => rfl)
theorem ax_u3_f {α : Type} {g : Nat → Int → Int → α} {f f' : Nat} {o j o' j' : Int} {x : α} (h : f' ≠ f) : ax_u3 g f o j x f' o' j' = g f' o' j' := ax_u3_n (fun q => h q.1)
def wE2C (f : Nat) : Bool := f == 129 || (f == 130 || (f == 132 || (f == 133 || (f == 135 || f == 136))))
def wE2V (g : Nat → Int → Int → Int) (f : Nat) (j : Int) : Int := if g 137 0 j ≠ 0 then (if g 138 0 j ≠ 0 then (if f = 130 then 1 - g 130 0 j else if f = 132 then Int.bmod (g 132 0 j + 1) 4294967296 else if f = 133 then Int.bmod (g 133 0 j + 1) 4294967296 else g f 0 j) else (if f = 135 then g 50 0 39 else if f = 136 then bI (g 129 0 j ≠ 0) else if f = 129 then -1 else g f 0 j)) else g f 0 j
def wE2 (g : Nat → Int → Int → Int) (m : Int) : Nat → Int → Int → Int := ptw wE2C (wE2V g) g m
theorem wE2C_or {f : Nat} (h : wE2C f = true) : f = 129 ∨ f = 130 ∨ f = 132 ∨ f = 133 ∨ f = 135 ∨ f = 136 := by simpa [wE2C] using h
theorem wE2_at {g : Nat → Int → Int → Int} {a o : Int} {f : Nat} : wE2 g a f o a = g f o a := ptw_at
theorem wE2_f {g : Nat → Int → Int → Int} {m o j : Int} {f : Nat} (h : wE2C f = false) : wE2 g m f o j = g f o j := ptw_o h
theorem wE2_n {g : Nat → Int → Int → Int} {a : Int} (i1 : 0 ≤ a) (hm : g 137 0 a = 0) : wE2 g a = wE2 g (a + 1) := ptw_n i1 (fun f _ => by unfold wE2V; rw [if_neg (by omega)])
theorem wE2_y {g : Nat → Int → Int → Int} {a x y z : Int} (i1 : 0 ≤ a) (hm : g 137 0 a ≠ 0) (hw : g 138 0 a ≠ 0) (hx : x = 1 - g 130 0 a) (hy : y = Int.bmod (g 132 0 a + 1) 4294967296) (hz : z = Int.bmod (g 133 0 a + 1) 4294967296) : ax_u3 (ax_u3 (ax_u3 (wE2 g a) 130 0 a x) 132 0 a y) 133 0 a z = wE2 g (a + 1) := by
  refine ptw_s i1 (fun f h => ?_) (fun f o j h => ?_)
  · unfold wE2V
    rw [if_pos hm, if_pos hw]
    rcases wE2C_or h with rfl | rfl | rfl | rfl | rfl | rfl <;> simp [ax_u3, hx, hy, hz, wE2_at]
  · have e : ∀ F, wE2C F = true → ¬ (f = F ∧ o = 0 ∧ j = a) := fun F hF z => h ⟨by rw [z.1]; exact hF, z.2⟩
    rw [ax_u3_n (e _ rfl), ax_u3_n (e _ rfl), ax_u3_n (e _ rfl)]
    rfl
theorem wE2_z {g : Nat → Int → Int → Int} {a x y z : Int} (i1 : 0 ≤ a) (hm : g 137 0 a ≠ 0) (hw : g 138 0 a = 0) (hx : x = g 50 0 39) (hy : y = bI (g 129 0 a ≠ 0)) (hz : z = -1) : ax_u3 (ax_u3 (ax_u3 (wE2 g a) 135 0 a x) 136 0 a y) 129 0 a z = wE2 g (a + 1) := by
  refine ptw_s i1 (fun f h => ?_) (fun f o j h => ?_)
  · unfold wE2V
    rw [if_pos hm, if_neg (by omega)]
    rcases wE2C_or h with rfl | rfl | rfl | rfl | rfl | rfl <;> simp [ax_u3, hx, hy, hz, wE2_at]
  · have e : ∀ F, wE2C F = true → ¬ (f = F ∧ o = 0 ∧ j = a) := fun F hF z => h ⟨by rw [z.1]; exact hF, z.2⟩
    rw [ax_u3_n (e _ rfl), ax_u3_n (e _ rfl), ax_u3_n (e _ rfl)]
    rfl
theorem wE2_ag {g g' : Nat → Int → Int → Int} {m : Int} (h : wAgr g' g) : wAgr (wE2 g' m) (wE2 g m) := by
  intro f o j h1 h2
  unfold wE2 ptw wE2V
  rw [h 137 0 j (by decide) (by decide), h 138 0 j (by decide) (by decide), h 129 0 j (by decide) (by decide), h 130 0 j (by decide) (by decide), h 132 0 j (by decide) (by decide), h 133 0 j (by decide) (by decide), h 50 0 39 (by decide) (by decide), h f 0 j h1 h2, h f o j h1 h2]
def wEnds (g : Nat → Int → Int → Int) : Nat → Int → Int → Int := wE2 (wE1 g (g 50 0 2)) (g 50 0 2)
set_option maxRecDepth 100000 in
set_option maxHeartbeats 4000000 in
theorem seg_ends2 {g0 : Nat → Int → Int → Int} {R : Room} {p0 : Nat → Int → Prop} {kc ks : Nat} (P : Nat → Int → Prop) (g : Nat → Int → Int → Int) (r0 : Nat → Int → Int → Option (Nat × Int)) (n : Nat → Int → Int) (hn : mLen n) (h2 : 0 ≤ g 50 0 2 ∧ g 50 0 2 ≤ 7) (hf : ∀ a, 0 ≤ a → a < g 50 0 2 → g 130 0 a = 0 ∨ g 130 0 a = 1) : ax_J 11 cX11_ends 2 none (ax_rm 4 0 0) p0 (fun r M' kc ks => (r = none ∧ M' = (P, wE2 g (g 50 0 2), r0, n)) ∧ ax_ro none r ∧ kc ≤ 0 ∧ ks ≤ 0) 0 0 68 [some (.inr (.inr (some (50, 0)))), none] [] (P, g, r0, n) := by
  have n137 : n 137 0 = 7 := hn (137, 7) (by decide)
  have n138 : n 138 0 = 7 := hn (138, 7) (by decide)
  have n130 : n 130 0 = 7 := hn (130, 7) (by decide)
  have n132 : n 132 0 = 7 := hn (132, 7) (by decide)
  have n133 : n 133 0 = 7 := hn (133, 7) (by decide)
  have n135 : n 135 0 = 7 := hn (135, 7) (by decide)
  have n136 : n 136 0 = 7 := hn (136, 7) (by decide)
  have n129 : n 129 0 = 7 := hn (129, 7) (by decide)
  refine aj_run (C := True) (pc' := 70) (la' := [some (.inr (.inr (some (50, 0)))), some (.inl 0)]) (st' := []) (M' := (P, g, r0, n)) ok_X11_ends true 2 rfl trivial ?_
  refine aj_cast rfl rfl (congrArg (fun z9 => ((P, z9, r0, n) : ax_Mm)) (show g = wE2 g 0 from by exact ptw_0)) ?_
  refine aj_loop (σ := (Int)) (fun x => 0 ≤ x ∧ x ≤ g 50 0 2) (fun x => (g 50 0 2 - x).toNat) (fun x => [some (.inr (.inr (some (50, 0)))), some (.inl x)]) (fun x => []) (fun x => (P, wE2 g x, r0, n)) ?_ (0) ?_
  rotate_left
  · omega
  rintro a hI ih70
  try dsimp only at hI ih70
  obtain ⟨i1, i2⟩ := hI
  change ax_J _ _ _ _ _ _ _ _ _ 70 [some (.inr (.inr (some (50, 0)))), some (.inl a)] [] (P, wE2 g a, r0, n)
  have hf1 := hf a
  refine aj_run (C := True) (pc' := 75) (la' := [some (.inr (.inr (some (50, 0)))), some (.inl a)]) (st' := [.inl (g 50 0 2), .inl a]) (M' := (P, wE2 g a, r0, n)) ok_X11_ends true 3 rfl trivial ?_
  refine aj_icmp_ge (tgt := 185) (ax_dec2 (i := .if_icmp .ge 110) (n := 3) ok_X11_ends rfl) (by decide) (fun c1 => ?_) (fun c1 => ?_)
  · refine aj_ret (r := none) (ax_dec2 (i := .return_) (n := 1) ok_X11_ends rfl) ⟨?_, ?_, by decide, by decide⟩ rfl
    · exact ⟨rfl, by rw [show g 50 0 2 = a by omega]⟩
    · exact trivial
  · refine aj_run (C := (0 ≤ a ∧ a < n 137 0) ∧ True) (pc' := 84) (la' := [some (.inr (.inr (some (50, 0)))), some (.inl a)]) (st' := [.inl (g 137 0 a)]) (M' := (P, wE2 g a, r0, n)) ok_X11_ends true 4 rfl (by refine ⟨?_, trivial⟩ <;> (omega)) ?_
    refine aj_if_eq (tgt := 133) (ax_dec2 (i := .ifCond .eq 49) (n := 3) ok_X11_ends rfl) (by decide) (fun c2 => ?_) (fun c2 => ?_)
    · refine aj_run (C := (0 ≤ a ∧ a < n 137 0) ∧ True) (pc' := 139) (la' := [some (.inr (.inr (some (50, 0)))), some (.inl a)]) (st' := [.inl (g 137 0 a)]) (M' := (P, wE2 g a, r0, n)) ok_X11_ends true 4 rfl (by refine ⟨?_, trivial⟩ <;> (omega)) ?_
      refine aj_if_eq (tgt := 179) (ax_dec2 (i := .ifCond .eq 40) (n := 3) ok_X11_ends rfl) (by decide) (fun c3 => ?_) (fun c3 => ?_)
      · refine aj_run (C := (-2147483648 ≤ a + 1 ∧ a + 1 ≤ 2147483647) ∧ True) (pc' := 70) (la' := [some (.inr (.inr (some (50, 0)))), some (.inl (a + 1))]) (st' := []) (M' := (P, wE2 g a, r0, n)) ok_X11_ends true 2 rfl (by refine ⟨?_, trivial⟩ <;> (omega)) ?_
        refine aj_cast rfl rfl (congrArg (fun z9 => ((P, z9, r0, n) : ax_Mm)) (show wE2 g a = wE2 g (a + 1) from by (first | exact wE2_n i1 (by omega) | exact wE2_y i1 (by omega) (by omega) rfl rfl rfl | exact wE2_z i1 (by omega) (by omega) rfl (by first | rw [bI_t (by omega)] | rw [bI_f (by omega)]) rfl))) ?_
        refine ih70 (a + 1) ?_ ?_
        · omega
        · omega
      · exact absurd c3 (by omega)
    · refine aj_run (C := (0 ≤ a ∧ a < n 138 0) ∧ True) (pc' := 93) (la' := [some (.inr (.inr (some (50, 0)))), some (.inl a)]) (st' := [.inl (g 138 0 a)]) (M' := (P, wE2 g a, r0, n)) ok_X11_ends true 4 rfl (by refine ⟨?_, trivial⟩ <;> (omega)) ?_
      refine aj_if_eq (tgt := 133) (ax_dec2 (i := .ifCond .eq 40) (n := 3) ok_X11_ends rfl) (by decide) (fun c4 => ?_) (fun c4 => ?_)
      · refine aj_run (C := (0 ≤ a ∧ a < n 137 0) ∧ True) (pc' := 139) (la' := [some (.inr (.inr (some (50, 0)))), some (.inl a)]) (st' := [.inl (g 137 0 a)]) (M' := (P, wE2 g a, r0, n)) ok_X11_ends true 4 rfl (by refine ⟨?_, trivial⟩ <;> (omega)) ?_
        refine aj_if_eq (tgt := 179) (ax_dec2 (i := .ifCond .eq 40) (n := 3) ok_X11_ends rfl) (by decide) (fun c5 => ?_) (fun c5 => ?_)
        · exact absurd c5 (by omega)
        · refine aj_run (C := (0 ≤ a ∧ a < n 135 0) ∧ (0 ≤ a ∧ a < n 129 0) ∧ True) (pc' := 163) (la' := [some (.inr (.inr (some (50, 0)))), some (.inl a)]) (st' := [.inl ((wE2 g a) 129 0 a), .inl a, .inr (.inr (some (136, 0)))]) (M' := (P, ax_u3 (wE2 g a) 135 0 a (g 50 0 39), r0, n)) ok_X11_ends true 13 rfl (by refine ⟨?_, ?_, trivial⟩ <;> (omega)) ?_
          refine aj_cast rfl (congrArg (fun (z9 : Int) => ([.inl z9, .inl a, .inr (.inr (some (136, 0)))] : List ax_V)) (show (wE2 g a) 129 0 a = g 129 0 a from wE2_at)) rfl ?_
          refine aj_if_ne (tgt := 170) (ax_dec2 (i := .ifCond .ne 7) (n := 3) ok_X11_ends rfl) (by decide) (fun c6 => ?_) (fun c6 => ?_)
          · refine aj_run (C := (0 ≤ a ∧ a < n 136 0) ∧ (0 ≤ a ∧ a < n 129 0) ∧ (-2147483648 ≤ a + 1 ∧ a + 1 ≤ 2147483647) ∧ True) (pc' := 70) (la' := [some (.inr (.inr (some (50, 0)))), some (.inl (a + 1))]) (st' := []) (M' := (P, ax_u3 (ax_u3 (ax_u3 (wE2 g a) 135 0 a (g 50 0 39)) 136 0 a 1) 129 0 a (-1), r0, n)) ok_X11_ends true 9 rfl (by refine ⟨?_, ?_, ?_, trivial⟩ <;> (omega)) ?_
            refine aj_cast rfl rfl (congrArg (fun z9 => ((P, z9, r0, n) : ax_Mm)) (show ax_u3 (ax_u3 (ax_u3 (wE2 g a) 135 0 a (g 50 0 39)) 136 0 a 1) 129 0 a (-1) = wE2 g (a + 1) from by (first | exact wE2_n i1 (by omega) | exact wE2_y i1 (by omega) (by omega) rfl rfl rfl | exact wE2_z i1 (by omega) (by omega) rfl (by first | rw [bI_t (by omega)] | rw [bI_f (by omega)]) rfl))) ?_
            refine ih70 (a + 1) ?_ ?_
            · omega
            · omega
          · refine aj_run (C := (0 ≤ a ∧ a < n 136 0) ∧ (0 ≤ a ∧ a < n 129 0) ∧ (-2147483648 ≤ a + 1 ∧ a + 1 ≤ 2147483647) ∧ True) (pc' := 70) (la' := [some (.inr (.inr (some (50, 0)))), some (.inl (a + 1))]) (st' := []) (M' := (P, ax_u3 (ax_u3 (ax_u3 (wE2 g a) 135 0 a (g 50 0 39)) 136 0 a 0) 129 0 a (-1), r0, n)) ok_X11_ends true 10 rfl (by refine ⟨?_, ?_, ?_, trivial⟩ <;> (omega)) ?_
            refine aj_cast rfl rfl (congrArg (fun z9 => ((P, z9, r0, n) : ax_Mm)) (show ax_u3 (ax_u3 (ax_u3 (wE2 g a) 135 0 a (g 50 0 39)) 136 0 a 0) 129 0 a (-1) = wE2 g (a + 1) from by (first | exact wE2_n i1 (by omega) | exact wE2_y i1 (by omega) (by omega) rfl rfl rfl | exact wE2_z i1 (by omega) (by omega) rfl (by first | rw [bI_t (by omega)] | rw [bI_f (by omega)]) rfl))) ?_
            refine ih70 (a + 1) ?_ ?_
            · omega
            · omega
      · refine aj_run (C := (0 ≤ a ∧ a < n 130 0) ∧ True) (pc' := 108) (la' := [some (.inr (.inr (some (50, 0)))), some (.inl a)]) (st' := [.inl ((wE2 g a) 130 0 a), .inl 1, .inl a, .inr (.inr (some (130, 0)))]) (M' := (P, wE2 g a, r0, n)) ok_X11_ends true 8 rfl (by refine ⟨?_, trivial⟩ <;> (omega)) ?_
        refine aj_cast rfl (congrArg (fun (z9 : Int) => ([.inl z9, .inl 1, .inl a, .inr (.inr (some (130, 0)))] : List ax_V)) (show (wE2 g a) 130 0 a = g 130 0 a from wE2_at)) rfl ?_
        refine aj_run (C := (-2147483648 ≤ 1 - (g 130 0 a) ∧ 1 - (g 130 0 a) ≤ 2147483647) ∧ (0 ≤ a ∧ a < n 130 0) ∧ (0 ≤ a ∧ a < n 132 0) ∧ True) (pc' := 117) (la' := [some (.inr (.inr (some (50, 0)))), some (.inl a)]) (st' := [.inl ((wE2 g a) 132 0 a), .inl a, .inr (.inr (some (132, 0)))]) (M' := (P, ax_u3 (wE2 g a) 130 0 a (1 - (g 130 0 a)), r0, n)) ok_X11_ends true 7 rfl (by refine ⟨?_, ?_, ?_, trivial⟩ <;> (omega)) ?_
        refine aj_cast rfl (congrArg (fun (z9 : Int) => ([.inl z9, .inl a, .inr (.inr (some (132, 0)))] : List ax_V)) (show (wE2 g a) 132 0 a = g 132 0 a from wE2_at)) rfl ?_
        refine aj_run (C := True) (pc' := 118) (la' := [some (.inr (.inr (some (50, 0)))), some (.inl a)]) (st' := [.inl 1, .inl (g 132 0 a), .inl a, .inr (.inr (some (132, 0)))]) (M' := (P, ax_u3 (wE2 g a) 130 0 a (1 - (g 130 0 a)), r0, n)) ok_X11_ends true 1 rfl trivial ?_
        refine aj_run (C := True) (pc' := 119) (la' := [some (.inr (.inr (some (50, 0)))), some (.inl a)]) (st' := [.inl (Int.bmod ((g 132 0 a) + 1) 4294967296), .inl a, .inr (.inr (some (132, 0)))]) (M' := (P, ax_u3 (wE2 g a) 130 0 a (1 - (g 130 0 a)), r0, n)) ok_X11_ends false 1 rfl trivial ?_
        refine aj_run (C := (0 ≤ a ∧ a < n 132 0) ∧ (0 ≤ a ∧ a < n 133 0) ∧ True) (pc' := 127) (la' := [some (.inr (.inr (some (50, 0)))), some (.inl a)]) (st' := [.inl ((wE2 g a) 133 0 a), .inl a, .inr (.inr (some (133, 0)))]) (M' := (P, ax_u3 (ax_u3 (wE2 g a) 130 0 a (1 - (g 130 0 a))) 132 0 a (Int.bmod ((g 132 0 a) + 1) 4294967296), r0, n)) ok_X11_ends true 6 rfl (by refine ⟨?_, ?_, trivial⟩ <;> (omega)) ?_
        refine aj_cast rfl (congrArg (fun (z9 : Int) => ([.inl z9, .inl a, .inr (.inr (some (133, 0)))] : List ax_V)) (show (wE2 g a) 133 0 a = g 133 0 a from wE2_at)) rfl ?_
        refine aj_run (C := True) (pc' := 128) (la' := [some (.inr (.inr (some (50, 0)))), some (.inl a)]) (st' := [.inl 1, .inl (g 133 0 a), .inl a, .inr (.inr (some (133, 0)))]) (M' := (P, ax_u3 (ax_u3 (wE2 g a) 130 0 a (1 - (g 130 0 a))) 132 0 a (Int.bmod ((g 132 0 a) + 1) 4294967296), r0, n)) ok_X11_ends true 1 rfl trivial ?_
        refine aj_run (C := True) (pc' := 129) (la' := [some (.inr (.inr (some (50, 0)))), some (.inl a)]) (st' := [.inl (Int.bmod ((g 133 0 a) + 1) 4294967296), .inl a, .inr (.inr (some (133, 0)))]) (M' := (P, ax_u3 (ax_u3 (wE2 g a) 130 0 a (1 - (g 130 0 a))) 132 0 a (Int.bmod ((g 132 0 a) + 1) 4294967296), r0, n)) ok_X11_ends false 1 rfl trivial ?_
        refine aj_run (C := (0 ≤ a ∧ a < n 133 0) ∧ (-2147483648 ≤ a + 1 ∧ a + 1 ≤ 2147483647) ∧ True) (pc' := 70) (la' := [some (.inr (.inr (some (50, 0)))), some (.inl (a + 1))]) (st' := []) (M' := (P, ax_u3 (ax_u3 (ax_u3 (wE2 g a) 130 0 a (1 - (g 130 0 a))) 132 0 a (Int.bmod ((g 132 0 a) + 1) 4294967296)) 133 0 a (Int.bmod ((g 133 0 a) + 1) 4294967296), r0, n)) ok_X11_ends true 4 rfl (by refine ⟨?_, ?_, trivial⟩ <;> (omega)) ?_
        refine aj_cast rfl rfl (congrArg (fun z9 => ((P, z9, r0, n) : ax_Mm)) (show ax_u3 (ax_u3 (ax_u3 (wE2 g a) 130 0 a (1 - (g 130 0 a))) 132 0 a (Int.bmod ((g 132 0 a) + 1) 4294967296)) 133 0 a (Int.bmod ((g 133 0 a) + 1) 4294967296) = wE2 g (a + 1) from by (first | exact wE2_n i1 (by omega) | exact wE2_y i1 (by omega) (by omega) rfl rfl rfl | exact wE2_z i1 (by omega) (by omega) rfl (by first | rw [bI_t (by omega)] | rw [bI_f (by omega)]) rfl))) ?_
        refine ih70 (a + 1) ?_ ?_
        · omega
        · omega
theorem ax_J_imp {own : Nat} {cc : ByteArray} {nL : Nat} {scr : Option (Nat × (Nat → Int32))} {R : Room} {p0 : Nat → Int → Prop} {Q Q' : ax_Q} {kc ks pc : Nat} {la : List (Option ax_V)} {st : List ax_V} {M : ax_Mm} (h : ax_J own cc nL scr R p0 Q kc ks pc la st M) (hq : ∀ r M' a b, Q r M' a b → Q' r M' a b) : ax_J own cc nL scr R p0 Q' kc ks pc la st M := by
  intro p l e s m args below meth c N0 D QQ ad0 C hret ad ls rs H locs Z L S
  exact h p l e s m args below meth c N0 D QQ ad0 C (fun r M' a b pc' ad ls rs H locs hQ => hret r M' a b pc' ad ls rs H locs (hq _ _ _ _ hQ)) ad ls rs H locs Z L S
set_option maxRecDepth 100000 in
set_option maxHeartbeats 4000000 in
theorem sp_ends (P : Nat → Int → Prop) (g : Nat → Int → Int → Int) (r0 : Nat → Int → Int → Option (Nat × Int)) (n : Nat → Int → Int) (hn : mLen n) (h2 : 0 ≤ g 50 0 2 ∧ g 50 0 2 ≤ 7) (hk : 2 ≤ g 50 0 0 ∧ g 50 0 0 ≤ 40) (hf : ∀ a, 0 ≤ a → a < g 50 0 2 → g 130 0 a = 0 ∨ g 130 0 a = 1) (hru : 0 ≤ g 50 0 11 ∧ g 50 0 11 ≤ 5) (hR : ∀ p, 0 ≤ p → p ≤ 2 → wRow1 g (3 * g 50 0 11 + p)) : ax_S yX11_ends cX11_ends 2 none 4 0 0 [.inr (.inr (some (50, 0)))] (P, g, r0, n) (fun r M' => r = none ∧ ∃ g', M' = (P, g', r0, n) ∧ wAgr g' (wEnds g)) := by
  refine ax_S_of (own := 11) (by decide) rfl (fun h => absurd h (by decide)) rfl (Nat.le_of_ble_eq_true rfl) ?_
  change ax_J _ _ _ _ _ _ _ _ _ _ [some (.inr (.inr (some (50, 0)))), none] _ _
  refine seg_ends1 P g r0 n hn h2 hk hru hR ⟨by decide, by decide, by decide, by decide⟩ (fun g1 hg1 => ?_)
  have f2 : g1 50 0 2 = g 50 0 2 := by rw [hg1 50 0 2 (by decide) (by decide), wE1_o (by decide) (by decide)]
  refine ax_J_imp (seg_ends2 (g0 := g) (R := ax_rm 4 0 0) (kc := 0) (ks := 0) P g1 r0 n hn (by rw [f2]; exact h2) ?_) ?_
  · intro a h1 h3
    rw [f2] at h3
    rw [hg1 130 0 a (by decide) (by decide), wE1_o (by decide) (by decide)]
    exact hf a h1 h3
  · rintro r M' a b ⟨⟨rfl, rfl⟩, h3, h4⟩
    exact ⟨⟨rfl, _, rfl, by rw [f2]; exact wE2_ag hg1⟩, h3, h4⟩
