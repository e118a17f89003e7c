theorem ax_u3_c {α : Type} {g : Nat → Int → Int → α} {f f2 : Nat} {o j o2 j2 : Int} {x y : α} (h : f ≠ f2) : ax_u3 (ax_u3 g f o j x) f2 o2 j2 y = ax_u3 (ax_u3 g f2 o2 j2 y) f o j x := by
  funext f' o' j'
  unfold ax_u3
  by_cases q : f' = f2 ∧ o' = o2 ∧ j' = j2
  · rw [if_pos q, if_neg (fun z => h (z.1.symm.trans q.1)), if_pos q]
  · rw [if_neg q]
    by_cases q2 : f' = f ∧ o' = o ∧ j' = j
    · rw [if_pos q2, if_pos q2]
    · rw [if_neg q2, if_neg q2, if_neg q]
theorem ax_u3_id {α : Type} {g : Nat → Int → Int → α} {f : Nat} {o j : Int} : ax_u3 g f o j (g f o j) = g := by
  funext f' o' j'
  unfold ax_u3
  by_cases q : f' = f ∧ o' = o ∧ j' = j
  · rw [if_pos q, q.1, q.2.1, q.2.2]
  · rw [if_neg q]
/-- a has met somebody of 0 .. k less 1 -/
def wMt (g : Nat → Int → Int → Int) (a k : Int) : Int := wFI (fun b m => if 0 ≤ g 129 0 a ∧ g 129 0 b = g 129 0 a ∧ g 130 0 b ≠ g 130 0 a then 1 else m) 0 k
def wNx (g : Nat → Int → Int → Int) (a k x0 : Int) : Int := wFI (fun b x => if (0 ≤ g 129 0 a ∧ g 129 0 b = g 129 0 a ∧ g 130 0 b ≠ g 130 0 a) ∧ a = g 50 0 41 ∧ wMt g a b = 0 then b else x) x0 k
def wPr (g : Nat → Int → Int → Int) (a k p0 : Int) : Int := wFI (fun b p => if 0 ≤ g 129 0 a ∧ g 129 0 b = g 129 0 a ∧ g 130 0 b ≠ g 130 0 a then Int.bmod (p + bI (a < b)) 4294967296 else p) p0 k
def wNxO (g : Nat → Int → Int → Int) (k : Int) : Int := wFI (fun a x => wNx g a (g 50 0 2) x) (g 50 0 41) k
def wPrO (g : Nat → Int → Int → Int) (k : Int) : Int := wFI (fun a p => wPr g a (g 50 0 2) p) (g 50 0 40) k
def wAny (g : Nat → Int → Int → Int) (k : Int) : Int := wFI (fun a x => if x ≠ 0 ∨ wMt g a (g 50 0 2) ≠ 0 then 1 else 0) 0 k
def wMf (g : Nat → Int → Int → Int) (m : Int) : Nat → Int → Int → Int := fun f o j => if f = 137 ∧ o = 0 ∧ 0 ≤ j ∧ j < m then wMt g j (g 50 0 2) else g f o j
theorem wM1_0 {g : Nat → Int → Int → Int} : g = ax_u3 (wMf g 0) 50 0 40 (wPrO g 0) := by
  have e : wMf g 0 = g := by
    funext f o j
    unfold wMf
    rw [if_neg (by omega)]
  rw [e]
  exact ax_u3_id.symm
theorem wMf_s {g : Nat → Int → Int → Int} {a : Int} (h : 0 ≤ a) : ax_u3 (wMf g a) 137 0 a (wMt g a (g 50 0 2)) = wMf g (a + 1) := by
  funext f o j
  by_cases q : f = 137 ∧ o = 0 ∧ j = a
  · obtain ⟨rfl, rfl, rfl⟩ := q
    rw [ax_u3_s]
    unfold wMf
    rw [if_pos (by omega)]
  · rw [ax_u3_n q]
    unfold wMf
    by_cases q2 : f = 137 ∧ o = 0 ∧ 0 ≤ j ∧ j < a
    · rw [if_pos q2, if_pos (by omega)]
    · rw [if_neg q2, if_neg (by omega)]
theorem wM1_s {g : Nat → Int → Int → Int} {a b : Int} (h : 0 ≤ a) (hb : b = g 50 0 2) : ax_u3 (ax_u3 (wMf g a) 137 0 a (wMt g a b)) 50 0 40 (wPr g a b (wPrO g a)) = ax_u3 (wMf g (a + 1)) 50 0 40 (wPrO g (a + 1)) := by
  subst hb
  rw [wMf_s h]
  unfold wPrO
  rw [wFI_s h]
theorem wM2_0 {g : Nat → Int → Int → Int} {a : Int} : ax_u3 (ax_u3 (wMf g a) 50 0 40 (wPrO g a)) 137 0 a 0 = ax_u3 (ax_u3 (wMf g a) 137 0 a (wMt g a 0)) 50 0 40 (wPr g a 0 (wPrO g a)) := by
  rw [ax_u3_c (by decide)]
  rfl
theorem wM2_n {g W : Nat → Int → Int → Int} {a b p : Int} (h : 0 ≤ b) (hc : ¬ (0 ≤ g 129 0 a ∧ g 129 0 b = g 129 0 a ∧ g 130 0 b ≠ g 130 0 a)) : ax_u3 (ax_u3 W 137 0 a (wMt g a b)) 50 0 40 (wPr g a b p) = ax_u3 (ax_u3 W 137 0 a (wMt g a (b + 1))) 50 0 40 (wPr g a (b + 1) p) := by
  unfold wMt wPr
  rw [wFI_s h, wFI_s h, if_neg hc, if_neg hc]
theorem wM2_y {g W : Nat → Int → Int → Int} {a b p x : Int} (h : 0 ≤ b) (hc : 0 ≤ g 129 0 a ∧ g 129 0 b = g 129 0 a ∧ g 130 0 b ≠ g 130 0 a) (hx : x = Int.bmod (wPr g a b p + bI (a < b)) 4294967296) : ax_u3 (ax_u3 (ax_u3 (ax_u3 W 137 0 a (wMt g a b)) 50 0 40 (wPr g a b p)) 137 0 a 1) 50 0 40 x = ax_u3 (ax_u3 W 137 0 a (wMt g a (b + 1))) 50 0 40 (wPr g a (b + 1) p) := by
  rw [ax_u3_c (f := 50) (f2 := 137) (by decide), ax_u3_u, ax_u3_u, hx]
  have e1 : wMt g a (b + 1) = 1 := by unfold wMt; rw [wFI_s h, if_pos hc]
  have e2 : wPr g a (b + 1) p = Int.bmod (wPr g a b p + bI (a < b)) 4294967296 := by unfold wPr; rw [wFI_s h, if_pos hc]
  rw [e1, e2]
theorem wAny_1 {g : Nat → Int → Int → Int} {a b : Int} (h : 0 ≤ a) (hb : b = g 50 0 2) (hc : wAny g a ≠ 0 ∨ wMt g a b ≠ 0) : 1 = wAny g (a + 1) := by
  subst hb
  unfold wAny at *
  rw [wFI_s h, if_pos hc]
theorem wAny_z {g : Nat → Int → Int → Int} {a b : Int} (h : 0 ≤ a) (hb : b = g 50 0 2) (hc : wAny g a = 0 ∧ wMt g a b = 0) : 0 = wAny g (a + 1) := by
  subst hb
  unfold wAny at *
  rw [wFI_s h, if_neg (by omega)]
theorem wMt_01 {g : Nat → Int → Int → Int} {a k : Int} : wMt g a k = 0 ∨ wMt g a k = 1 := by
  unfold wMt wFI
  generalize k.toNat = q
  induction q with
  | zero => exact Or.inl rfl
  | succ q ih =>
    unfold wF
    split
    · exact Or.inr rfl
    · exact ih
set_option maxRecDepth 100000 in
set_option maxHeartbeats 4000000 in
theorem seg_meet1 {R : Room} {p0 : Nat → Int → Prop} {Q : ax_Q} {kc ks : Nat} (P : Nat → Int → Prop) (g : Nat → Int → Int → Int) (r0 : Nat → Int → Int → Option (Nat × Int)) (n : Nat → Int → Int) (hn : mLen n) (h2 : 0 ≤ g 50 0 2 ∧ g 50 0 2 ≤ 7) (k : ax_J 11 cX11_meet 5 none R p0 Q kc ks 159 [some (.inr (.inr (some (50, 0)))), some (.inl (wAny g (g 50 0 2))), some (.inl (wNxO g (g 50 0 2))), none, none] [] (P, ax_u3 (wMf g (g 50 0 2)) 50 0 40 (wPrO g (g 50 0 2)), r0, n)) : ax_J 11 cX11_meet 5 none R p0 Q kc ks 0 [some (.inr (.inr (some (50, 0)))), none, none, none, none] [] (P, g, r0, n) := by
  have n137 : n 137 0 = 7 := hn (137, 7) (by decide)
  have n129 : n 129 0 = 7 := hn (129, 7) (by decide)
  have n130 : n 130 0 = 7 := hn (130, 7) (by decide)
  have n138 : n 138 0 = 7 := hn (138, 7) (by decide)
  have n134 : n 134 0 = 7 := hn (134, 7) (by decide)
  have n132 : n 132 0 = 7 := hn (132, 7) (by decide)
  have n131 : n 131 0 = 7 := hn (131, 7) (by decide)
  refine aj_run (C := True) (pc' := 9) (la' := [some (.inr (.inr (some (50, 0)))), some (.inl 0), some (.inl (g 50 0 41)), some (.inl 0), none]) (st' := []) (M' := (P, g, r0, n)) ok_X11_meet true 7 rfl trivial ?_
  refine aj_cast rfl rfl (congrArg (fun z9 => ((P, z9, r0, n) : ax_Mm)) (show g = ax_u3 (wMf g 0) 50 0 40 (wPrO g 0) from by exact wM1_0)) ?_
  refine aj_cast (congrArg (fun (z9 : Int) => ([some (.inr (.inr (some (50, 0)))), some (.inl z9), some (.inl (g 50 0 41)), some (.inl 0), none] : List (Option ax_V))) (show 0 = wAny g 0 from by rfl)) rfl rfl ?_
  refine aj_cast (congrArg (fun (z9 : Int) => ([some (.inr (.inr (some (50, 0)))), some (.inl (wAny g 0)), some (.inl z9), some (.inl 0), none] : List (Option ax_V))) (show g 50 0 41 = wNxO g 0 from by rfl)) rfl rfl ?_
  refine aj_forget (la' := [some (.inr (.inr (some (50, 0)))), some (.inl (wAny g 0)), some (.inl (wNxO g 0)), some (.inl 0), none]) (by simp [ax_fg]) ?_
  refine aj_loop (σ := (Int)) (fun x => 0 ≤ x ∧ x ≤ g 50 0 2) (fun x => (g 50 0 2 - x).toNat) (fun x => [some (.inr (.inr (some (50, 0)))), some (.inl (wAny g x)), some (.inl (wNxO g x)), some (.inl x), none]) (fun x => []) (fun x => (P, ax_u3 (wMf g x) 50 0 40 (wPrO g x), r0, n)) ?_ (0) ?_
  rotate_left
  · omega
  rintro a hI ih9
  try dsimp only at hI ih9
  obtain ⟨i1, i2⟩ := hI
  change ax_J _ _ _ _ _ _ _ _ _ 9 [some (.inr (.inr (some (50, 0)))), some (.inl (wAny g a)), some (.inl (wNxO g a)), some (.inl a), none] [] (P, ax_u3 (wMf g a) 50 0 40 (wPrO g a), r0, n)
  refine aj_run (C := True) (pc' := 14) (la' := [some (.inr (.inr (some (50, 0)))), some (.inl (wAny g a)), some (.inl (wNxO g a)), some (.inl a), none]) (st' := [.inl (g 50 0 2), .inl a]) (M' := (P, ax_u3 (wMf g a) 50 0 40 (wPrO g a), r0, n)) ok_X11_meet true 3 rfl trivial ?_
  refine aj_icmp_ge (tgt := 159) (ax_dec2 (i := .if_icmp .ge 145) (n := 3) ok_X11_meet rfl) (by decide) (fun c1 => ?_) (fun c1 => ?_)
  · refine aj_forget (la' := [some (.inr (.inr (some (50, 0)))), some (.inl (wAny g a)), some (.inl (wNxO g a)), none, none]) (by simp [ax_fg]) ?_
    rw [show a = g 50 0 2 by omega]
    exact k
  · refine aj_run (C := ((0 ≤ a ∧ a < n 137 0) ∧ (0 = 0 ∨ 0 = 1)) ∧ True) (pc' := 27) (la' := [some (.inr (.inr (some (50, 0)))), some (.inl (wAny g a)), some (.inl (wNxO g a)), some (.inl a), some (.inl 0)]) (st' := []) (M' := (P, ax_u3 (ax_u3 (wMf g a) 50 0 40 (wPrO g a)) 137 0 a 0, r0, n)) ok_X11_meet true 7 rfl (by refine ⟨?_, trivial⟩ <;> (omega)) ?_
    refine aj_cast rfl rfl (congrArg (fun z9 => ((P, z9, r0, n) : ax_Mm)) (show ax_u3 (ax_u3 (wMf g a) 50 0 40 (wPrO g a)) 137 0 a 0 = ax_u3 (ax_u3 (wMf g a) 137 0 a (wMt g a 0)) 50 0 40 (wPr g a 0 (wPrO g a)) from by exact wM2_0)) ?_
    refine aj_cast (congrArg (fun (z9 : Int) => ([some (.inr (.inr (some (50, 0)))), some (.inl (wAny g a)), some (.inl z9), some (.inl a), some (.inl 0)] : List (Option ax_V))) (show wNxO g a = wNx g a 0 (wNxO g a) from by rfl)) rfl rfl ?_
    refine aj_loop (σ := (Int)) (fun x => 0 ≤ x ∧ x ≤ g 50 0 2) (fun x => (g 50 0 2 - x).toNat) (fun x => [some (.inr (.inr (some (50, 0)))), some (.inl (wAny g a)), some (.inl (wNx g a x (wNxO g a))), some (.inl a), some (.inl x)]) (fun x => []) (fun x => (P, ax_u3 (ax_u3 (wMf g a) 137 0 a (wMt g a x)) 50 0 40 (wPr g a x (wPrO g a)), r0, n)) ?_ (0) ?_
    rotate_left
    · omega
    rintro b hI ih27
    try dsimp only at hI ih27
    obtain ⟨j1, j2⟩ := hI
    change ax_J _ _ _ _ _ _ _ _ _ 27 [some (.inr (.inr (some (50, 0)))), some (.inl (wAny g a)), some (.inl (wNx g a b (wNxO g a))), some (.inl a), some (.inl b)] [] (P, ax_u3 (ax_u3 (wMf g a) 137 0 a (wMt g a b)) 50 0 40 (wPr g a b (wPrO g a)), r0, n)
    have hm := wMt_01 (g := g) (a := a) (k := b)
    refine aj_run (C := True) (pc' := 33) (la' := [some (.inr (.inr (some (50, 0)))), some (.inl (wAny g a)), some (.inl (wNx g a b (wNxO g a))), some (.inl a), some (.inl b)]) (st' := [.inl (g 50 0 2), .inl b]) (M' := (P, ax_u3 (ax_u3 (wMf g a) 137 0 a (wMt g a b)) 50 0 40 (wPr g a b (wPrO g a)), r0, n)) ok_X11_meet true 3 rfl trivial ?_
    refine aj_icmp_ge (tgt := 134) (ax_dec2 (i := .if_icmp .ge 101) (n := 3) ok_X11_meet rfl) (by decide) (fun c2 => ?_) (fun c2 => ?_)
    · refine aj_run (C := True) (pc' := 135) (la' := [some (.inr (.inr (some (50, 0)))), some (.inl (wAny g a)), some (.inl (wNx g a b (wNxO g a))), some (.inl a), some (.inl b)]) (st' := [.inl (wAny g a)]) (M' := (P, ax_u3 (ax_u3 (wMf g a) 137 0 a (wMt g a b)) 50 0 40 (wPr g a b (wPrO g a)), r0, n)) ok_X11_meet true 1 rfl trivial ?_
      refine aj_if_ne (tgt := 147) (ax_dec2 (i := .ifCond .ne 12) (n := 3) ok_X11_meet rfl) (by decide) (fun c3 => ?_) (fun c3 => ?_)
      · refine aj_run (C := (-2147483648 ≤ a + 1 ∧ a + 1 ≤ 2147483647) ∧ True) (pc' := 9) (la' := [some (.inr (.inr (some (50, 0)))), some (.inl 1), some (.inl (wNx g a b (wNxO g a))), some (.inl (a + 1)), some (.inl b)]) (st' := []) (M' := (P, ax_u3 (ax_u3 (wMf g a) 137 0 a (wMt g a b)) 50 0 40 (wPr g a b (wPrO g a)), r0, n)) ok_X11_meet true 5 rfl (by refine ⟨?_, trivial⟩ <;> (omega)) ?_
        refine aj_cast rfl rfl (congrArg (fun z9 => ((P, z9, r0, n) : ax_Mm)) (show ax_u3 (ax_u3 (wMf g a) 137 0 a (wMt g a b)) 50 0 40 (wPr g a b (wPrO g a)) = ax_u3 (wMf g (a + 1)) 50 0 40 (wPrO g (a + 1)) from by exact wM1_s i1 (by omega))) ?_
        refine aj_cast (congrArg (fun (z9 : Int) => ([some (.inr (.inr (some (50, 0)))), some (.inl z9), some (.inl (wNx g a b (wNxO g a))), some (.inl (a + 1)), some (.inl b)] : List (Option ax_V))) (show 1 = wAny g (a + 1) from by (first | exact wAny_1 (g := g) (b := b) i1 (by omega) (by omega) | exact wAny_z (g := g) (b := b) i1 (by omega) ⟨by omega, by omega⟩))) rfl rfl ?_
        refine aj_cast (congrArg (fun (z9 : Int) => ([some (.inr (.inr (some (50, 0)))), some (.inl (wAny g (a + 1))), some (.inl z9), some (.inl (a + 1)), some (.inl b)] : List (Option ax_V))) (show wNx g a b (wNxO g a) = wNxO g (a + 1) from by (unfold wNxO; rw [wFI_s i1, show g 50 0 2 = b by omega]))) rfl rfl ?_
        refine aj_forget (la' := [some (.inr (.inr (some (50, 0)))), some (.inl (wAny g (a + 1))), some (.inl (wNxO g (a + 1))), some (.inl (a + 1)), none]) (by simp [ax_fg]) ?_
        refine ih9 (a + 1) ?_ ?_
        · omega
        · omega
      · refine aj_run (C := (0 ≤ a ∧ a < n 137 0) ∧ True) (pc' := 144) (la' := [some (.inr (.inr (some (50, 0)))), some (.inl (wAny g a)), some (.inl (wNx g a b (wNxO g a))), some (.inl a), some (.inl b)]) (st' := [.inl ((ax_u3 (wMf g a) 137 0 a (wMt g a b)) 137 0 a)]) (M' := (P, ax_u3 (ax_u3 (wMf g a) 137 0 a (wMt g a b)) 50 0 40 (wPr g a b (wPrO g a)), r0, n)) ok_X11_meet true 4 rfl (by refine ⟨?_, trivial⟩ <;> (omega)) ?_
        refine aj_cast rfl (congrArg (fun (z9 : Int) => ([.inl z9] : List ax_V)) (show (ax_u3 (wMf g a) 137 0 a (wMt g a b)) 137 0 a = wMt g a b from ax_u3_s)) rfl ?_
        refine aj_if_eq (tgt := 151) (ax_dec2 (i := .ifCond .eq 7) (n := 3) ok_X11_meet rfl) (by decide) (fun c4 => ?_) (fun c4 => ?_)
        · refine aj_run (C := (-2147483648 ≤ a + 1 ∧ a + 1 ≤ 2147483647) ∧ True) (pc' := 9) (la' := [some (.inr (.inr (some (50, 0)))), some (.inl 0), some (.inl (wNx g a b (wNxO g a))), some (.inl (a + 1)), some (.inl b)]) (st' := []) (M' := (P, ax_u3 (ax_u3 (wMf g a) 137 0 a (wMt g a b)) 50 0 40 (wPr g a b (wPrO g a)), r0, n)) ok_X11_meet true 4 rfl (by refine ⟨?_, trivial⟩ <;> (omega)) ?_
          refine aj_cast rfl rfl (congrArg (fun z9 => ((P, z9, r0, n) : ax_Mm)) (show ax_u3 (ax_u3 (wMf g a) 137 0 a (wMt g a b)) 50 0 40 (wPr g a b (wPrO g a)) = ax_u3 (wMf g (a + 1)) 50 0 40 (wPrO g (a + 1)) from by exact wM1_s i1 (by omega))) ?_
          refine aj_cast (congrArg (fun (z9 : Int) => ([some (.inr (.inr (some (50, 0)))), some (.inl z9), some (.inl (wNx g a b (wNxO g a))), some (.inl (a + 1)), some (.inl b)] : List (Option ax_V))) (show 0 = wAny g (a + 1) from by (first | exact wAny_1 (g := g) (b := b) i1 (by omega) (by omega) | exact wAny_z (g := g) (b := b) i1 (by omega) ⟨by omega, by omega⟩))) rfl rfl ?_
          refine aj_cast (congrArg (fun (z9 : Int) => ([some (.inr (.inr (some (50, 0)))), some (.inl (wAny g (a + 1))), some (.inl z9), some (.inl (a + 1)), some (.inl b)] : List (Option ax_V))) (show wNx g a b (wNxO g a) = wNxO g (a + 1) from by (unfold wNxO; rw [wFI_s i1, show g 50 0 2 = b by omega]))) rfl rfl ?_
          refine aj_forget (la' := [some (.inr (.inr (some (50, 0)))), some (.inl (wAny g (a + 1))), some (.inl (wNxO g (a + 1))), some (.inl (a + 1)), none]) (by simp [ax_fg]) ?_
          refine ih9 (a + 1) ?_ ?_
          · omega
          · omega
        · refine aj_run (C := (-2147483648 ≤ a + 1 ∧ a + 1 ≤ 2147483647) ∧ True) (pc' := 9) (la' := [some (.inr (.inr (some (50, 0)))), some (.inl 1), some (.inl (wNx g a b (wNxO g a))), some (.inl (a + 1)), some (.inl b)]) (st' := []) (M' := (P, ax_u3 (ax_u3 (wMf g a) 137 0 a (wMt g a b)) 50 0 40 (wPr g a b (wPrO g a)), r0, n)) ok_X11_meet true 5 rfl (by refine ⟨?_, trivial⟩ <;> (omega)) ?_
          refine aj_cast rfl rfl (congrArg (fun z9 => ((P, z9, r0, n) : ax_Mm)) (show ax_u3 (ax_u3 (wMf g a) 137 0 a (wMt g a b)) 50 0 40 (wPr g a b (wPrO g a)) = ax_u3 (wMf g (a + 1)) 50 0 40 (wPrO g (a + 1)) from by exact wM1_s i1 (by omega))) ?_
          refine aj_cast (congrArg (fun (z9 : Int) => ([some (.inr (.inr (some (50, 0)))), some (.inl z9), some (.inl (wNx g a b (wNxO g a))), some (.inl (a + 1)), some (.inl b)] : List (Option ax_V))) (show 1 = wAny g (a + 1) from by (first | exact wAny_1 (g := g) (b := b) i1 (by omega) (by omega) | exact wAny_z (g := g) (b := b) i1 (by omega) ⟨by omega, by omega⟩))) rfl rfl ?_
          refine aj_cast (congrArg (fun (z9 : Int) => ([some (.inr (.inr (some (50, 0)))), some (.inl (wAny g (a + 1))), some (.inl z9), some (.inl (a + 1)), some (.inl b)] : List (Option ax_V))) (show wNx g a b (wNxO g a) = wNxO g (a + 1) from by (unfold wNxO; rw [wFI_s i1, show g 50 0 2 = b by omega]))) rfl rfl ?_
          refine aj_forget (la' := [some (.inr (.inr (some (50, 0)))), some (.inl (wAny g (a + 1))), some (.inl (wNxO g (a + 1))), some (.inl (a + 1)), none]) (by simp [ax_fg]) ?_
          refine ih9 (a + 1) ?_ ?_
          · omega
          · omega
    · refine aj_run (C := (0 ≤ a ∧ a < n 129 0) ∧ True) (pc' := 42) (la' := [some (.inr (.inr (some (50, 0)))), some (.inl (wAny g a)), some (.inl (wNx g a b (wNxO g a))), some (.inl a), some (.inl b)]) (st' := [.inl (g 129 0 a)]) (M' := (P, ax_u3 (ax_u3 (wMf g a) 137 0 a (wMt g a b)) 50 0 40 (wPr g a b (wPrO g a)), r0, n)) ok_X11_meet true 4 rfl (by refine ⟨?_, trivial⟩ <;> (omega)) ?_
      refine aj_if_lt (tgt := 128) (ax_dec2 (i := .ifCond .lt 86) (n := 3) ok_X11_meet rfl) (by decide) (fun c5 => ?_) (fun c5 => ?_)
      · refine aj_run (C := (-2147483648 ≤ b + 1 ∧ b + 1 ≤ 2147483647) ∧ True) (pc' := 27) (la' := [some (.inr (.inr (some (50, 0)))), some (.inl (wAny g a)), some (.inl (wNx g a b (wNxO g a))), some (.inl a), some (.inl (b + 1))]) (st' := []) (M' := (P, ax_u3 (ax_u3 (wMf g a) 137 0 a (wMt g a b)) 50 0 40 (wPr g a b (wPrO g a)), r0, n)) ok_X11_meet true 2 rfl (by refine ⟨?_, trivial⟩ <;> (omega)) ?_
        refine aj_cast rfl rfl (congrArg (fun z9 => ((P, z9, r0, n) : ax_Mm)) (show ax_u3 (ax_u3 (wMf g a) 137 0 a (wMt g a b)) 50 0 40 (wPr g a b (wPrO g a)) = ax_u3 (ax_u3 (wMf g a) 137 0 a (wMt g a (b + 1))) 50 0 40 (wPr g a (b + 1) (wPrO g a)) from by (first | exact wM2_n j1 (by omega) | exact wM2_y j1 ⟨by omega, by omega, by omega⟩ (by first | rw [bI_t (by omega)] | rw [bI_f (by omega)])))) ?_
        refine aj_cast (congrArg (fun (z9 : Int) => ([some (.inr (.inr (some (50, 0)))), some (.inl (wAny g a)), some (.inl z9), some (.inl a), some (.inl (b + 1))] : List (Option ax_V))) (show wNx g a b (wNxO g a) = wNx g a (b + 1) (wNxO g a) from by (unfold wNx; rw [wFI_s j1]; first | rw [if_pos ⟨⟨by omega, by omega, by omega⟩, by omega, by omega⟩] | rw [if_neg (by omega)]))) rfl rfl ?_
        refine ih27 (b + 1) ?_ ?_
        · omega
        · omega
      · refine aj_run (C := (0 ≤ b ∧ b < n 129 0) ∧ (0 ≤ a ∧ a < n 129 0) ∧ True) (pc' := 58) (la' := [some (.inr (.inr (some (50, 0)))), some (.inl (wAny g a)), some (.inl (wNx g a b (wNxO g a))), some (.inl a), some (.inl b)]) (st' := [.inl (g 129 0 a), .inl (g 129 0 b)]) (M' := (P, ax_u3 (ax_u3 (wMf g a) 137 0 a (wMt g a b)) 50 0 40 (wPr g a b (wPrO g a)), r0, n)) ok_X11_meet true 8 rfl (by refine ⟨?_, ?_, trivial⟩ <;> (omega)) ?_
        refine aj_icmp_ne (tgt := 128) (ax_dec2 (i := .if_icmp .ne 70) (n := 3) ok_X11_meet rfl) (by decide) (fun c6 => ?_) (fun c6 => ?_)
        · refine aj_run (C := (-2147483648 ≤ b + 1 ∧ b + 1 ≤ 2147483647) ∧ True) (pc' := 27) (la' := [some (.inr (.inr (some (50, 0)))), some (.inl (wAny g a)), some (.inl (wNx g a b (wNxO g a))), some (.inl a), some (.inl (b + 1))]) (st' := []) (M' := (P, ax_u3 (ax_u3 (wMf g a) 137 0 a (wMt g a b)) 50 0 40 (wPr g a b (wPrO g a)), r0, n)) ok_X11_meet true 2 rfl (by refine ⟨?_, trivial⟩ <;> (omega)) ?_
          refine aj_cast rfl rfl (congrArg (fun z9 => ((P, z9, r0, n) : ax_Mm)) (show ax_u3 (ax_u3 (wMf g a) 137 0 a (wMt g a b)) 50 0 40 (wPr g a b (wPrO g a)) = ax_u3 (ax_u3 (wMf g a) 137 0 a (wMt g a (b + 1))) 50 0 40 (wPr g a (b + 1) (wPrO g a)) from by (first | exact wM2_n j1 (by omega) | exact wM2_y j1 ⟨by omega, by omega, by omega⟩ (by first | rw [bI_t (by omega)] | rw [bI_f (by omega)])))) ?_
          refine aj_cast (congrArg (fun (z9 : Int) => ([some (.inr (.inr (some (50, 0)))), some (.inl (wAny g a)), some (.inl z9), some (.inl a), some (.inl (b + 1))] : List (Option ax_V))) (show wNx g a b (wNxO g a) = wNx g a (b + 1) (wNxO g a) from by (unfold wNx; rw [wFI_s j1]; first | rw [if_pos ⟨⟨by omega, by omega, by omega⟩, by omega, by omega⟩] | rw [if_neg (by omega)]))) rfl rfl ?_
          refine ih27 (b + 1) ?_ ?_
          · omega
          · omega
        · refine aj_run (C := (0 ≤ b ∧ b < n 130 0) ∧ (0 ≤ a ∧ a < n 130 0) ∧ True) (pc' := 74) (la' := [some (.inr (.inr (some (50, 0)))), some (.inl (wAny g a)), some (.inl (wNx g a b (wNxO g a))), some (.inl a), some (.inl b)]) (st' := [.inl (g 130 0 a), .inl (g 130 0 b)]) (M' := (P, ax_u3 (ax_u3 (wMf g a) 137 0 a (wMt g a b)) 50 0 40 (wPr g a b (wPrO g a)), r0, n)) ok_X11_meet true 8 rfl (by refine ⟨?_, ?_, trivial⟩ <;> (omega)) ?_
          refine aj_icmp_eq (tgt := 128) (ax_dec2 (i := .if_icmp .eq 54) (n := 3) ok_X11_meet rfl) (by decide) (fun c7 => ?_) (fun c7 => ?_)
          · refine aj_run (C := (-2147483648 ≤ b + 1 ∧ b + 1 ≤ 2147483647) ∧ True) (pc' := 27) (la' := [some (.inr (.inr (some (50, 0)))), some (.inl (wAny g a)), some (.inl (wNx g a b (wNxO g a))), some (.inl a), some (.inl (b + 1))]) (st' := []) (M' := (P, ax_u3 (ax_u3 (wMf g a) 137 0 a (wMt g a b)) 50 0 40 (wPr g a b (wPrO g a)), r0, n)) ok_X11_meet true 2 rfl (by refine ⟨?_, trivial⟩ <;> (omega)) ?_
            refine aj_cast rfl rfl (congrArg (fun z9 => ((P, z9, r0, n) : ax_Mm)) (show ax_u3 (ax_u3 (wMf g a) 137 0 a (wMt g a b)) 50 0 40 (wPr g a b (wPrO g a)) = ax_u3 (ax_u3 (wMf g a) 137 0 a (wMt g a (b + 1))) 50 0 40 (wPr g a (b + 1) (wPrO g a)) from by (first | exact wM2_n j1 (by omega) | exact wM2_y j1 ⟨by omega, by omega, by omega⟩ (by first | rw [bI_t (by omega)] | rw [bI_f (by omega)])))) ?_
            refine aj_cast (congrArg (fun (z9 : Int) => ([some (.inr (.inr (some (50, 0)))), some (.inl (wAny g a)), some (.inl z9), some (.inl a), some (.inl (b + 1))] : List (Option ax_V))) (show wNx g a b (wNxO g a) = wNx g a (b + 1) (wNxO g a) from by (unfold wNx; rw [wFI_s j1]; first | rw [if_pos ⟨⟨by omega, by omega, by omega⟩, by omega, by omega⟩] | rw [if_neg (by omega)]))) rfl rfl ?_
            refine ih27 (b + 1) ?_ ?_
            · omega
            · omega
          · refine aj_run (C := True) (pc' := 82) (la' := [some (.inr (.inr (some (50, 0)))), some (.inl (wAny g a)), some (.inl (wNx g a b (wNxO g a))), some (.inl a), some (.inl b)]) (st' := [.inl (g 50 0 41), .inl a]) (M' := (P, ax_u3 (ax_u3 (wMf g a) 137 0 a (wMt g a b)) 50 0 40 (wPr g a b (wPrO g a)), r0, n)) ok_X11_meet true 3 rfl trivial ?_
            refine aj_icmp_ne (tgt := 99) (ax_dec2 (i := .if_icmp .ne 17) (n := 3) ok_X11_meet rfl) (by decide) (fun c8 => ?_) (fun c8 => ?_)
            · refine aj_run (C := ((0 ≤ a ∧ a < n 137 0) ∧ (1 = 0 ∨ 1 = 1)) ∧ True) (pc' := 116) (la' := [some (.inr (.inr (some (50, 0)))), some (.inl (wAny g a)), some (.inl (wNx g a b (wNxO g a))), some (.inl a), some (.inl b)]) (st' := [.inl b, .inl a, .inl (wPr g a b (wPrO g a)), .inr (.inr (some (50, 0)))]) (M' := (P, ax_u3 (ax_u3 (ax_u3 (wMf g a) 137 0 a (wMt g a b)) 50 0 40 (wPr g a b (wPrO g a))) 137 0 a 1, r0, n)) ok_X11_meet true 12 rfl (by refine ⟨?_, trivial⟩ <;> (omega)) ?_
              refine aj_icmp_ge (tgt := 123) (ax_dec2 (i := .if_icmp .ge 7) (n := 3) ok_X11_meet rfl) (by decide) (fun c9 => ?_) (fun c9 => ?_)
              · refine aj_run (C := True) (pc' := 124) (la' := [some (.inr (.inr (some (50, 0)))), some (.inl (wAny g a)), some (.inl (wNx g a b (wNxO g a))), some (.inl a), some (.inl b)]) (st' := [.inl 0, .inl (wPr g a b (wPrO g a)), .inr (.inr (some (50, 0)))]) (M' := (P, ax_u3 (ax_u3 (ax_u3 (wMf g a) 137 0 a (wMt g a b)) 50 0 40 (wPr g a b (wPrO g a))) 137 0 a 1, r0, n)) ok_X11_meet true 1 rfl trivial ?_
                refine aj_run (C := True) (pc' := 125) (la' := [some (.inr (.inr (some (50, 0)))), some (.inl (wAny g a)), some (.inl (wNx g a b (wNxO g a))), some (.inl a), some (.inl b)]) (st' := [.inl (Int.bmod ((wPr g a b (wPrO g a)) + 0) 4294967296), .inr (.inr (some (50, 0)))]) (M' := (P, ax_u3 (ax_u3 (ax_u3 (wMf g a) 137 0 a (wMt g a b)) 50 0 40 (wPr g a b (wPrO g a))) 137 0 a 1, r0, n)) ok_X11_meet false 1 rfl trivial ?_
                refine aj_run (C := (-2147483648 ≤ b + 1 ∧ b + 1 ≤ 2147483647) ∧ True) (pc' := 27) (la' := [some (.inr (.inr (some (50, 0)))), some (.inl (wAny g a)), some (.inl (wNx g a b (wNxO g a))), some (.inl a), some (.inl (b + 1))]) (st' := []) (M' := (P, ax_u3 (ax_u3 (ax_u3 (ax_u3 (wMf g a) 137 0 a (wMt g a b)) 50 0 40 (wPr g a b (wPrO g a))) 137 0 a 1) 50 0 40 (Int.bmod ((wPr g a b (wPrO g a)) + 0) 4294967296), r0, n)) ok_X11_meet true 3 rfl (by refine ⟨?_, trivial⟩ <;> (omega)) ?_
                refine aj_cast rfl rfl (congrArg (fun z9 => ((P, z9, r0, n) : ax_Mm)) (show ax_u3 (ax_u3 (ax_u3 (ax_u3 (wMf g a) 137 0 a (wMt g a b)) 50 0 40 (wPr g a b (wPrO g a))) 137 0 a 1) 50 0 40 (Int.bmod ((wPr g a b (wPrO g a)) + 0) 4294967296) = ax_u3 (ax_u3 (wMf g a) 137 0 a (wMt g a (b + 1))) 50 0 40 (wPr g a (b + 1) (wPrO g a)) from by (first | exact wM2_n j1 (by omega) | exact wM2_y j1 ⟨by omega, by omega, by omega⟩ (by first | rw [bI_t (by omega)] | rw [bI_f (by omega)])))) ?_
                refine aj_cast (congrArg (fun (z9 : Int) => ([some (.inr (.inr (some (50, 0)))), some (.inl (wAny g a)), some (.inl z9), some (.inl a), some (.inl (b + 1))] : List (Option ax_V))) (show wNx g a b (wNxO g a) = wNx g a (b + 1) (wNxO g a) from by (unfold wNx; rw [wFI_s j1]; first | rw [if_pos ⟨⟨by omega, by omega, by omega⟩, by omega, by omega⟩] | rw [if_neg (by omega)]))) rfl rfl ?_
                refine ih27 (b + 1) ?_ ?_
                · omega
                · omega
              · refine aj_run (C := True) (pc' := 124) (la' := [some (.inr (.inr (some (50, 0)))), some (.inl (wAny g a)), some (.inl (wNx g a b (wNxO g a))), some (.inl a), some (.inl b)]) (st' := [.inl 1, .inl (wPr g a b (wPrO g a)), .inr (.inr (some (50, 0)))]) (M' := (P, ax_u3 (ax_u3 (ax_u3 (wMf g a) 137 0 a (wMt g a b)) 50 0 40 (wPr g a b (wPrO g a))) 137 0 a 1, r0, n)) ok_X11_meet true 2 rfl trivial ?_
                refine aj_run (C := True) (pc' := 125) (la' := [some (.inr (.inr (some (50, 0)))), some (.inl (wAny g a)), some (.inl (wNx g a b (wNxO g a))), some (.inl a), some (.inl b)]) (st' := [.inl (Int.bmod ((wPr g a b (wPrO g a)) + 1) 4294967296), .inr (.inr (some (50, 0)))]) (M' := (P, ax_u3 (ax_u3 (ax_u3 (wMf g a) 137 0 a (wMt g a b)) 50 0 40 (wPr g a b (wPrO g a))) 137 0 a 1, r0, n)) ok_X11_meet false 1 rfl trivial ?_
                refine aj_run (C := (-2147483648 ≤ b + 1 ∧ b + 1 ≤ 2147483647) ∧ True) (pc' := 27) (la' := [some (.inr (.inr (some (50, 0)))), some (.inl (wAny g a)), some (.inl (wNx g a b (wNxO g a))), some (.inl a), some (.inl (b + 1))]) (st' := []) (M' := (P, ax_u3 (ax_u3 (ax_u3 (ax_u3 (wMf g a) 137 0 a (wMt g a b)) 50 0 40 (wPr g a b (wPrO g a))) 137 0 a 1) 50 0 40 (Int.bmod ((wPr g a b (wPrO g a)) + 1) 4294967296), r0, n)) ok_X11_meet true 3 rfl (by refine ⟨?_, trivial⟩ <;> (omega)) ?_
                refine aj_cast rfl rfl (congrArg (fun z9 => ((P, z9, r0, n) : ax_Mm)) (show ax_u3 (ax_u3 (ax_u3 (ax_u3 (wMf g a) 137 0 a (wMt g a b)) 50 0 40 (wPr g a b (wPrO g a))) 137 0 a 1) 50 0 40 (Int.bmod ((wPr g a b (wPrO g a)) + 1) 4294967296) = ax_u3 (ax_u3 (wMf g a) 137 0 a (wMt g a (b + 1))) 50 0 40 (wPr g a (b + 1) (wPrO g a)) from by (first | exact wM2_n j1 (by omega) | exact wM2_y j1 ⟨by omega, by omega, by omega⟩ (by first | rw [bI_t (by omega)] | rw [bI_f (by omega)])))) ?_
                refine aj_cast (congrArg (fun (z9 : Int) => ([some (.inr (.inr (some (50, 0)))), some (.inl (wAny g a)), some (.inl z9), some (.inl a), some (.inl (b + 1))] : List (Option ax_V))) (show wNx g a b (wNxO g a) = wNx g a (b + 1) (wNxO g a) from by (unfold wNx; rw [wFI_s j1]; first | rw [if_pos ⟨⟨by omega, by omega, by omega⟩, by omega, by omega⟩] | rw [if_neg (by omega)]))) rfl rfl ?_
                refine ih27 (b + 1) ?_ ?_
                · omega
                · omega
            · refine aj_run (C := (0 ≤ a ∧ a < n 137 0) ∧ True) (pc' := 91) (la' := [some (.inr (.inr (some (50, 0)))), some (.inl (wAny g a)), some (.inl (wNx g a b (wNxO g a))), some (.inl a), some (.inl b)]) (st' := [.inl ((ax_u3 (wMf g a) 137 0 a (wMt g a b)) 137 0 a)]) (M' := (P, ax_u3 (ax_u3 (wMf g a) 137 0 a (wMt g a b)) 50 0 40 (wPr g a b (wPrO g a)), r0, n)) ok_X11_meet true 4 rfl (by refine ⟨?_, trivial⟩ <;> (omega)) ?_
              refine aj_cast rfl (congrArg (fun (z9 : Int) => ([.inl z9] : List ax_V)) (show (ax_u3 (wMf g a) 137 0 a (wMt g a b)) 137 0 a = wMt g a b from ax_u3_s)) rfl ?_
              refine aj_if_ne (tgt := 99) (ax_dec2 (i := .ifCond .ne 8) (n := 3) ok_X11_meet rfl) (by decide) (fun c10 => ?_) (fun c10 => ?_)
              · refine aj_run (C := ((0 ≤ a ∧ a < n 137 0) ∧ (1 = 0 ∨ 1 = 1)) ∧ True) (pc' := 116) (la' := [some (.inr (.inr (some (50, 0)))), some (.inl (wAny g a)), some (.inl (wNx g a b (wNxO g a))), some (.inl a), some (.inl b)]) (st' := [.inl b, .inl a, .inl (wPr g a b (wPrO g a)), .inr (.inr (some (50, 0)))]) (M' := (P, ax_u3 (ax_u3 (ax_u3 (wMf g a) 137 0 a (wMt g a b)) 50 0 40 (wPr g a b (wPrO g a))) 137 0 a 1, r0, n)) ok_X11_meet true 12 rfl (by refine ⟨?_, trivial⟩ <;> (omega)) ?_
                refine aj_icmp_ge (tgt := 123) (ax_dec2 (i := .if_icmp .ge 7) (n := 3) ok_X11_meet rfl) (by decide) (fun c11 => ?_) (fun c11 => ?_)
                · refine aj_run (C := True) (pc' := 124) (la' := [some (.inr (.inr (some (50, 0)))), some (.inl (wAny g a)), some (.inl (wNx g a b (wNxO g a))), some (.inl a), some (.inl b)]) (st' := [.inl 0, .inl (wPr g a b (wPrO g a)), .inr (.inr (some (50, 0)))]) (M' := (P, ax_u3 (ax_u3 (ax_u3 (wMf g a) 137 0 a (wMt g a b)) 50 0 40 (wPr g a b (wPrO g a))) 137 0 a 1, r0, n)) ok_X11_meet true 1 rfl trivial ?_
                  refine aj_run (C := True) (pc' := 125) (la' := [some (.inr (.inr (some (50, 0)))), some (.inl (wAny g a)), some (.inl (wNx g a b (wNxO g a))), some (.inl a), some (.inl b)]) (st' := [.inl (Int.bmod ((wPr g a b (wPrO g a)) + 0) 4294967296), .inr (.inr (some (50, 0)))]) (M' := (P, ax_u3 (ax_u3 (ax_u3 (wMf g a) 137 0 a (wMt g a b)) 50 0 40 (wPr g a b (wPrO g a))) 137 0 a 1, r0, n)) ok_X11_meet false 1 rfl trivial ?_
                  refine aj_run (C := (-2147483648 ≤ b + 1 ∧ b + 1 ≤ 2147483647) ∧ True) (pc' := 27) (la' := [some (.inr (.inr (some (50, 0)))), some (.inl (wAny g a)), some (.inl (wNx g a b (wNxO g a))), some (.inl a), some (.inl (b + 1))]) (st' := []) (M' := (P, ax_u3 (ax_u3 (ax_u3 (ax_u3 (wMf g a) 137 0 a (wMt g a b)) 50 0 40 (wPr g a b (wPrO g a))) 137 0 a 1) 50 0 40 (Int.bmod ((wPr g a b (wPrO g a)) + 0) 4294967296), r0, n)) ok_X11_meet true 3 rfl (by refine ⟨?_, trivial⟩ <;> (omega)) ?_
                  refine aj_cast rfl rfl (congrArg (fun z9 => ((P, z9, r0, n) : ax_Mm)) (show ax_u3 (ax_u3 (ax_u3 (ax_u3 (wMf g a) 137 0 a (wMt g a b)) 50 0 40 (wPr g a b (wPrO g a))) 137 0 a 1) 50 0 40 (Int.bmod ((wPr g a b (wPrO g a)) + 0) 4294967296) = ax_u3 (ax_u3 (wMf g a) 137 0 a (wMt g a (b + 1))) 50 0 40 (wPr g a (b + 1) (wPrO g a)) from by (first | exact wM2_n j1 (by omega) | exact wM2_y j1 ⟨by omega, by omega, by omega⟩ (by first | rw [bI_t (by omega)] | rw [bI_f (by omega)])))) ?_
                  refine aj_cast (congrArg (fun (z9 : Int) => ([some (.inr (.inr (some (50, 0)))), some (.inl (wAny g a)), some (.inl z9), some (.inl a), some (.inl (b + 1))] : List (Option ax_V))) (show wNx g a b (wNxO g a) = wNx g a (b + 1) (wNxO g a) from by (unfold wNx; rw [wFI_s j1]; first | rw [if_pos ⟨⟨by omega, by omega, by omega⟩, by omega, by omega⟩] | rw [if_neg (by omega)]))) rfl rfl ?_
                  refine ih27 (b + 1) ?_ ?_
                  · omega
                  · omega
                · refine aj_run (C := True) (pc' := 124) (la' := [some (.inr (.inr (some (50, 0)))), some (.inl (wAny g a)), some (.inl (wNx g a b (wNxO g a))), some (.inl a), some (.inl b)]) (st' := [.inl 1, .inl (wPr g a b (wPrO g a)), .inr (.inr (some (50, 0)))]) (M' := (P, ax_u3 (ax_u3 (ax_u3 (wMf g a) 137 0 a (wMt g a b)) 50 0 40 (wPr g a b (wPrO g a))) 137 0 a 1, r0, n)) ok_X11_meet true 2 rfl trivial ?_
                  refine aj_run (C := True) (pc' := 125) (la' := [some (.inr (.inr (some (50, 0)))), some (.inl (wAny g a)), some (.inl (wNx g a b (wNxO g a))), some (.inl a), some (.inl b)]) (st' := [.inl (Int.bmod ((wPr g a b (wPrO g a)) + 1) 4294967296), .inr (.inr (some (50, 0)))]) (M' := (P, ax_u3 (ax_u3 (ax_u3 (wMf g a) 137 0 a (wMt g a b)) 50 0 40 (wPr g a b (wPrO g a))) 137 0 a 1, r0, n)) ok_X11_meet false 1 rfl trivial ?_
                  refine aj_run (C := (-2147483648 ≤ b + 1 ∧ b + 1 ≤ 2147483647) ∧ True) (pc' := 27) (la' := [some (.inr (.inr (some (50, 0)))), some (.inl (wAny g a)), some (.inl (wNx g a b (wNxO g a))), some (.inl a), some (.inl (b + 1))]) (st' := []) (M' := (P, ax_u3 (ax_u3 (ax_u3 (ax_u3 (wMf g a) 137 0 a (wMt g a b)) 50 0 40 (wPr g a b (wPrO g a))) 137 0 a 1) 50 0 40 (Int.bmod ((wPr g a b (wPrO g a)) + 1) 4294967296), r0, n)) ok_X11_meet true 3 rfl (by refine ⟨?_, trivial⟩ <;> (omega)) ?_
                  refine aj_cast rfl rfl (congrArg (fun z9 => ((P, z9, r0, n) : ax_Mm)) (show ax_u3 (ax_u3 (ax_u3 (ax_u3 (wMf g a) 137 0 a (wMt g a b)) 50 0 40 (wPr g a b (wPrO g a))) 137 0 a 1) 50 0 40 (Int.bmod ((wPr g a b (wPrO g a)) + 1) 4294967296) = ax_u3 (ax_u3 (wMf g a) 137 0 a (wMt g a (b + 1))) 50 0 40 (wPr g a (b + 1) (wPrO g a)) from by (first | exact wM2_n j1 (by omega) | exact wM2_y j1 ⟨by omega, by omega, by omega⟩ (by first | rw [bI_t (by omega)] | rw [bI_f (by omega)])))) ?_
                  refine aj_cast (congrArg (fun (z9 : Int) => ([some (.inr (.inr (some (50, 0)))), some (.inl (wAny g a)), some (.inl z9), some (.inl a), some (.inl (b + 1))] : List (Option ax_V))) (show wNx g a b (wNxO g a) = wNx g a (b + 1) (wNxO g a) from by (unfold wNx; rw [wFI_s j1]; first | rw [if_pos ⟨⟨by omega, by omega, by omega⟩, by omega, by omega⟩] | rw [if_neg (by omega)]))) rfl rfl ?_
                  refine ih27 (b + 1) ?_ ?_
                  · omega
                  · omega
              · refine aj_run (C := ((0 ≤ a ∧ a < n 137 0) ∧ (1 = 0 ∨ 1 = 1)) ∧ True) (pc' := 116) (la' := [some (.inr (.inr (some (50, 0)))), some (.inl (wAny g a)), some (.inl b), some (.inl a), some (.inl b)]) (st' := [.inl b, .inl a, .inl (wPr g a b (wPrO g a)), .inr (.inr (some (50, 0)))]) (M' := (P, ax_u3 (ax_u3 (ax_u3 (wMf g a) 137 0 a (wMt g a b)) 50 0 40 (wPr g a b (wPrO g a))) 137 0 a 1, r0, n)) ok_X11_meet true 13 rfl (by refine ⟨?_, trivial⟩ <;> (omega)) ?_
                refine aj_icmp_ge (tgt := 123) (ax_dec2 (i := .if_icmp .ge 7) (n := 3) ok_X11_meet rfl) (by decide) (fun c12 => ?_) (fun c12 => ?_)
                · refine aj_run (C := True) (pc' := 124) (la' := [some (.inr (.inr (some (50, 0)))), some (.inl (wAny g a)), some (.inl b), some (.inl a), some (.inl b)]) (st' := [.inl 0, .inl (wPr g a b (wPrO g a)), .inr (.inr (some (50, 0)))]) (M' := (P, ax_u3 (ax_u3 (ax_u3 (wMf g a) 137 0 a (wMt g a b)) 50 0 40 (wPr g a b (wPrO g a))) 137 0 a 1, r0, n)) ok_X11_meet true 1 rfl trivial ?_
                  refine aj_run (C := True) (pc' := 125) (la' := [some (.inr (.inr (some (50, 0)))), some (.inl (wAny g a)), some (.inl b), some (.inl a), some (.inl b)]) (st' := [.inl (Int.bmod ((wPr g a b (wPrO g a)) + 0) 4294967296), .inr (.inr (some (50, 0)))]) (M' := (P, ax_u3 (ax_u3 (ax_u3 (wMf g a) 137 0 a (wMt g a b)) 50 0 40 (wPr g a b (wPrO g a))) 137 0 a 1, r0, n)) ok_X11_meet false 1 rfl trivial ?_
                  refine aj_run (C := (-2147483648 ≤ b + 1 ∧ b + 1 ≤ 2147483647) ∧ True) (pc' := 27) (la' := [some (.inr (.inr (some (50, 0)))), some (.inl (wAny g a)), some (.inl b), some (.inl a), some (.inl (b + 1))]) (st' := []) (M' := (P, ax_u3 (ax_u3 (ax_u3 (ax_u3 (wMf g a) 137 0 a (wMt g a b)) 50 0 40 (wPr g a b (wPrO g a))) 137 0 a 1) 50 0 40 (Int.bmod ((wPr g a b (wPrO g a)) + 0) 4294967296), r0, n)) ok_X11_meet true 3 rfl (by refine ⟨?_, trivial⟩ <;> (omega)) ?_
                  refine aj_cast rfl rfl (congrArg (fun z9 => ((P, z9, r0, n) : ax_Mm)) (show ax_u3 (ax_u3 (ax_u3 (ax_u3 (wMf g a) 137 0 a (wMt g a b)) 50 0 40 (wPr g a b (wPrO g a))) 137 0 a 1) 50 0 40 (Int.bmod ((wPr g a b (wPrO g a)) + 0) 4294967296) = ax_u3 (ax_u3 (wMf g a) 137 0 a (wMt g a (b + 1))) 50 0 40 (wPr g a (b + 1) (wPrO g a)) from by (first | exact wM2_n j1 (by omega) | exact wM2_y j1 ⟨by omega, by omega, by omega⟩ (by first | rw [bI_t (by omega)] | rw [bI_f (by omega)])))) ?_
                  refine aj_cast (congrArg (fun (z9 : Int) => ([some (.inr (.inr (some (50, 0)))), some (.inl (wAny g a)), some (.inl z9), some (.inl a), some (.inl (b + 1))] : List (Option ax_V))) (show b = wNx g a (b + 1) (wNxO g a) from by (unfold wNx; rw [wFI_s j1]; first | rw [if_pos ⟨⟨by omega, by omega, by omega⟩, by omega, by omega⟩] | rw [if_neg (by omega)]))) rfl rfl ?_
                  refine ih27 (b + 1) ?_ ?_
                  · omega
                  · omega
                · refine aj_run (C := True) (pc' := 124) (la' := [some (.inr (.inr (some (50, 0)))), some (.inl (wAny g a)), some (.inl b), some (.inl a), some (.inl b)]) (st' := [.inl 1, .inl (wPr g a b (wPrO g a)), .inr (.inr (some (50, 0)))]) (M' := (P, ax_u3 (ax_u3 (ax_u3 (wMf g a) 137 0 a (wMt g a b)) 50 0 40 (wPr g a b (wPrO g a))) 137 0 a 1, r0, n)) ok_X11_meet true 2 rfl trivial ?_
                  refine aj_run (C := True) (pc' := 125) (la' := [some (.inr (.inr (some (50, 0)))), some (.inl (wAny g a)), some (.inl b), some (.inl a), some (.inl b)]) (st' := [.inl (Int.bmod ((wPr g a b (wPrO g a)) + 1) 4294967296), .inr (.inr (some (50, 0)))]) (M' := (P, ax_u3 (ax_u3 (ax_u3 (wMf g a) 137 0 a (wMt g a b)) 50 0 40 (wPr g a b (wPrO g a))) 137 0 a 1, r0, n)) ok_X11_meet false 1 rfl trivial ?_
                  refine aj_run (C := (-2147483648 ≤ b + 1 ∧ b + 1 ≤ 2147483647) ∧ True) (pc' := 27) (la' := [some (.inr (.inr (some (50, 0)))), some (.inl (wAny g a)), some (.inl b), some (.inl a), some (.inl (b + 1))]) (st' := []) (M' := (P, ax_u3 (ax_u3 (ax_u3 (ax_u3 (wMf g a) 137 0 a (wMt g a b)) 50 0 40 (wPr g a b (wPrO g a))) 137 0 a 1) 50 0 40 (Int.bmod ((wPr g a b (wPrO g a)) + 1) 4294967296), r0, n)) ok_X11_meet true 3 rfl (by refine ⟨?_, trivial⟩ <;> (omega)) ?_
                  refine aj_cast rfl rfl (congrArg (fun z9 => ((P, z9, r0, n) : ax_Mm)) (show ax_u3 (ax_u3 (ax_u3 (ax_u3 (wMf g a) 137 0 a (wMt g a b)) 50 0 40 (wPr g a b (wPrO g a))) 137 0 a 1) 50 0 40 (Int.bmod ((wPr g a b (wPrO g a)) + 1) 4294967296) = ax_u3 (ax_u3 (wMf g a) 137 0 a (wMt g a (b + 1))) 50 0 40 (wPr g a (b + 1) (wPrO g a)) from by (first | exact wM2_n j1 (by omega) | exact wM2_y j1 ⟨by omega, by omega, by omega⟩ (by first | rw [bI_t (by omega)] | rw [bI_f (by omega)])))) ?_
                  refine aj_cast (congrArg (fun (z9 : Int) => ([some (.inr (.inr (some (50, 0)))), some (.inl (wAny g a)), some (.inl z9), some (.inl a), some (.inl (b + 1))] : List (Option ax_V))) (show b = wNx g a (b + 1) (wNxO g a) from by (unfold wNx; rw [wFI_s j1]; first | rw [if_pos ⟨⟨by omega, by omega, by omega⟩, by omega, by omega⟩] | rw [if_neg (by omega)]))) rfl rfl ?_
                  refine ih27 (b + 1) ?_ ?_
                  · omega
                  · omega

