def wName (g : Nat → Int → Int → Int) (a : Int) : Nat → Int → Int → Int := ax_u3 (ax_u3 (ax_u3 (ax_u3 (ax_u3 (ax_u3 g 128 0 0 (g 131 0 a)) 128 0 1 (g 129 0 a)) 128 0 2 (g 130 0 a)) 128 0 3 (g 50 0 39)) 128 0 4 (wOth (g 129 0) (g 50 0 2) a)) 128 0 5 a
def wBegA (ways : Int) (f : Nat) (j : Int) : Int := if f = 129 ∨ f = 135 ∨ f = 136 then -1 else if f = 130 then ax_and (ax_shr ways j) 1 else 0
def wBeg (g : Nat → Int → Int → Int) (ways m : Int) : Nat → Int → Int → Int := fun f o j => if (129 ≤ f ∧ f ≤ 136) ∧ o = 0 ∧ 0 ≤ j ∧ j < m then wBegA ways f j else g f o j
theorem wBeg_0 {g : Nat → Int → Int → Int} {ways : Int} : g = wBeg g ways 0 := by
  funext f o j
  unfold wBeg
  rw [if_neg (by omega)]
theorem wBeg_s {g : Nat → Int → Int → Int} {ways a : Int} (h : 0 ≤ a) : ax_u3 (ax_u3 (ax_u3 (ax_u3 (ax_u3 (ax_u3 (ax_u3 (ax_u3 (wBeg g ways a) 129 0 a (-1)) 130 0 a (ax_and (ax_shr ways a) 1)) 131 0 a 0) 132 0 a 0) 133 0 a 0) 134 0 a 0) 135 0 a (-1)) 136 0 a (-1) = wBeg g ways (a + 1) := by
  funext f o j
  by_cases q : (129 ≤ f ∧ f ≤ 136) ∧ o = 0 ∧ j = a
  · obtain ⟨⟨q1, q2⟩, rfl, rfl⟩ := q
    have e : f = 129 ∨ f = 130 ∨ f = 131 ∨ f = 132 ∨ f = 133 ∨ f = 134 ∨ f = 135 ∨ f = 136 := by omega
    have hw : wBeg g ways (j + 1) f 0 j = wBegA ways f j := by unfold wBeg; rw [if_pos (by omega)]
    rw [hw]
    rcases e with rfl | rfl | rfl | rfl | rfl | rfl | rfl | rfl <;> simp [ax_u3, wBegA]
  · rw [ax_u3_n (by omega), ax_u3_n (by omega), ax_u3_n (by omega), ax_u3_n (by omega), ax_u3_n (by omega), ax_u3_n (by omega), ax_u3_n (by omega), ax_u3_n (by omega)]
    unfold wBeg
    by_cases q2 : (129 ≤ f ∧ f ≤ 136) ∧ o = 0 ∧ 0 ≤ j ∧ j < a
    · rw [if_pos q2, if_pos (by omega)]
    · rw [if_neg q2, if_neg (by omega)]
def wBegin (g : Nat → Int → Int → Int) (ways : Int) : Nat → Int → Int → Int := ax_u3 (ax_u3 (ax_u3 (ax_u3 (wBeg g ways (g 50 0 2)) 50 0 39 (-1)) 50 0 40 0) 50 0 41 (-1)) 50 0 42 0
def wStp (x fa ring kn : Int) : Int := if ring = 1 then Int.tmod (x + (if fa = 1 then -1 else 1) + 2 * kn) (2 * kn) else x + (if fa = 1 then -1 else 1)
def wGoA (g : Nat → Int → Int → Int) (a : Int) : Int := if g 50 0 39 = 2 * g 106 0 a then 2 * g 104 0 a else if g 129 0 a < 0 then g 129 0 a else wStp (g 129 0 a) (g 130 0 a) (g 50 0 1) (g 50 0 0)
def wGo (g : Nat → Int → Int → Int) (m : Int) : Nat → Int → Int → Int := fun f o j => if f = 129 ∧ o = 0 ∧ 0 ≤ j ∧ j < m then wGoA g j else g f o j
theorem wGo_0 {g : Nat → Int → Int → Int} : g = wGo g 0 := by
  funext f o j
  unfold wGo
  rw [if_neg (by omega)]
theorem wGo_at {g : Nat → Int → Int → Int} {a : Int} : wGo g a 129 0 a = g 129 0 a := by
  unfold wGo
  rw [if_neg (by omega)]
theorem wGo_s1 {g : Nat → Int → Int → Int} {a v : Int} (h : 0 ≤ a) (hv : v = wGoA g a) : ax_u3 (wGo g a) 129 0 a v = wGo g (a + 1) := by
  funext f o j
  by_cases q : f = 129 ∧ o = 0 ∧ j = a
  · obtain ⟨rfl, rfl, rfl⟩ := q
    rw [ax_u3_s, hv]
    unfold wGo
    rw [if_pos (by omega)]
  · rw [ax_u3_n q]
    unfold wGo
    by_cases q2 : f = 129 ∧ o = 0 ∧ 0 ≤ j ∧ j < a
    · rw [if_pos q2, if_pos (by omega)]
    · rw [if_neg q2, if_neg (by omega)]
theorem ax_u3_u {α : Type} {g : Nat → Int → Int → α} {f : Nat} {o j : Int} {x y : α} : ax_u3 (ax_u3 g f o j x) f o j y = ax_u3 g f o j y := by
  funext f' o' j'
  unfold ax_u3
  split <;> rfl
set_option maxRecDepth 100000 in
set_option maxHeartbeats 4000000 in
theorem sp_name (a : Int) (P : Nat → Int → Prop) (g : Nat → Int → Int → Int) (r0 : Nat → Int → Int → Option (Nat × Int)) (n : Nat → Int → Int) (hn : mLen n) (h2 : 0 ≤ g 50 0 2 ∧ g 50 0 2 ≤ 7) (ha : 0 ≤ a ∧ a < 7) : ax_S yX11_name cX11_name 4 none 0 0 0 [.inr (.inr (some (50, 0))), .inl a] (P, g, r0, n) (fun r M' => r = none ∧ M' = (P, wName g a, r0, n)) := by
  have n129 : n 129 0 = 7 := hn (129, 7) (by decide)
  have n128 : n 128 0 = 6 := hn (128, 6) (by decide)
  have n131 : n 131 0 = 7 := hn (131, 7) (by decide)
  have n130 : n 130 0 = 7 := hn (130, 7) (by decide)
  refine ax_S_of (own := 11) (by decide) rfl (fun h => absurd h (by decide)) rfl (Nat.le_of_ble_eq_true rfl) ?_
  change ax_J _ _ _ _ _ _ _ _ _ _ [some (.inr (.inr (some (50, 0)))), some (.inl a), none, none] _ _
  refine aj_run (C := True) (pc' := 4) (la' := [some (.inr (.inr (some (50, 0)))), some (.inl a), some (.inl 0), some (.inl 0)]) (st' := []) (M' := (P, g, r0, n)) ok_X11_name true 4 rfl trivial ?_
  refine aj_cast (congrArg (fun (z9 : Int) => ([some (.inr (.inr (some (50, 0)))), some (.inl a), some (.inl z9), some (.inl 0)] : List (Option ax_V))) (show 0 = wOth (g 129 0) 0 a from by rfl)) rfl rfl ?_
  refine aj_loop (σ := (Int)) (fun x => 0 ≤ x ∧ x ≤ g 50 0 2) (fun x => (g 50 0 2 - x).toNat) (fun x => [some (.inr (.inr (some (50, 0)))), some (.inl a), some (.inl (wOth (g 129 0) x a)), some (.inl x)]) (fun x => []) (fun x => (P, g, r0, n)) ?_ (0) ?_
  rotate_left
  · omega
  rintro b hI ih4
  dsimp only at hI ih4
  obtain ⟨i1, i2⟩ := hI
  change ax_J _ _ _ _ _ _ _ _ _ 4 [some (.inr (.inr (some (50, 0)))), some (.inl a), some (.inl (wOth (g 129 0) b a)), some (.inl b)] [] (P, g, r0, n)
  have ho := wOth_in (wh := g 129 0) (a := a) i1
  refine aj_run (C := True) (pc' := 9) (la' := [some (.inr (.inr (some (50, 0)))), some (.inl a), some (.inl (wOth (g 129 0) b a)), some (.inl b)]) (st' := [.inl (g 50 0 2), .inl b]) (M' := (P, g, r0, n)) ok_X11_name true 3 rfl trivial ?_
  refine aj_icmp_ge (tgt := 46) (ax_dec2 (i := .if_icmp .ge 37) (n := 3) ok_X11_name rfl) (by decide) (fun c1 => ?_) (fun c1 => ?_)
  · refine aj_run (C := (0 ≤ a ∧ a < n 131 0) ∧ (0 ≤ 0 ∧ 0 < n 128 0) ∧ (0 ≤ a ∧ a < n 129 0) ∧ (0 ≤ 1 ∧ 1 < n 128 0) ∧ (0 ≤ a ∧ a < n 130 0) ∧ (0 ≤ 2 ∧ 2 < n 128 0) ∧ (0 ≤ 3 ∧ 3 < n 128 0) ∧ (0 ≤ 4 ∧ 4 < n 128 0) ∧ (0 ≤ 5 ∧ 5 < n 128 0) ∧ True) (pc' := 106) (la' := [some (.inr (.inr (some (50, 0)))), some (.inl a), some (.inl (wOth (g 129 0) b a)), some (.inl b)]) (st' := []) (M' := (P, ax_u3 (ax_u3 (ax_u3 (ax_u3 (ax_u3 (ax_u3 g 128 0 0 (g 131 0 a)) 128 0 1 (g 129 0 a)) 128 0 2 (g 130 0 a)) 128 0 3 (g 50 0 39)) 128 0 4 (wOth (g 129 0) b a)) 128 0 5 a, r0, n)) ok_X11_name true 40 rfl (by refine ⟨?_, ?_, ?_, ?_, ?_, ?_, ?_, ?_, ?_, trivial⟩ <;> (omega)) ?_
    refine aj_ret (r := none) (ax_dec2 (i := .return_) (n := 1) ok_X11_name rfl) ⟨?_, ?_, by decide, by decide⟩ rfl
    · exact ⟨rfl, by rw [show b = g 50 0 2 by omega]; rfl⟩
    · exact trivial
  · refine aj_run (C := True) (pc' := 15) (la' := [some (.inr (.inr (some (50, 0)))), some (.inl a), some (.inl (wOth (g 129 0) b a)), some (.inl b)]) (st' := [.inl a, .inl b, .inl (wOth (g 129 0) b a)]) (M' := (P, g, r0, n)) ok_X11_name true 3 rfl trivial ?_
    refine aj_icmp_eq (tgt := 37) (ax_dec2 (i := .if_icmp .eq 22) (n := 3) ok_X11_name rfl) (by decide) (fun c2 => ?_) (fun c2 => ?_)
    · refine aj_run (C := (-2147483648 ≤ (wOth (g 129 0) b a) + 0 ∧ (wOth (g 129 0) b a) + 0 ≤ 2147483647) ∧ (-2147483648 ≤ b + 1 ∧ b + 1 ≤ 2147483647) ∧ True) (pc' := 4) (la' := [some (.inr (.inr (some (50, 0)))), some (.inl a), some (.inl ((wOth (g 129 0) b a) + 0)), some (.inl (b + 1))]) (st' := []) (M' := (P, g, r0, n)) ok_X11_name true 5 rfl (by refine ⟨?_, ?_, trivial⟩ <;> (omega)) ?_
      refine aj_cast (congrArg (fun (z9 : Int) => ([some (.inr (.inr (some (50, 0)))), some (.inl a), some (.inl z9), some (.inl (b + 1))] : List (Option ax_V))) (show (wOth (g 129 0) b a) + 0 = wOth (g 129 0) (b + 1) a from by (unfold wOth; rw [wFI_s i1]; first | rw [bI_t (by omega)] | rw [bI_f (by omega)]))) rfl rfl ?_
      refine ih4 (b + 1) ?_ ?_
      · omega
      · omega
    · refine aj_run (C := (0 ≤ b ∧ b < n 129 0) ∧ (0 ≤ a ∧ a < n 129 0) ∧ True) (pc' := 30) (la' := [some (.inr (.inr (some (50, 0)))), some (.inl a), some (.inl (wOth (g 129 0) b a)), some (.inl b)]) (st' := [.inl (g 129 0 a), .inl (g 129 0 b), .inl (wOth (g 129 0) b a)]) (M' := (P, g, r0, n)) ok_X11_name true 8 rfl (by refine ⟨?_, ?_, trivial⟩ <;> (omega)) ?_
      refine aj_icmp_ne (tgt := 37) (ax_dec2 (i := .if_icmp .ne 7) (n := 3) ok_X11_name rfl) (by decide) (fun c3 => ?_) (fun c3 => ?_)
      · refine aj_run (C := (-2147483648 ≤ (wOth (g 129 0) b a) + 0 ∧ (wOth (g 129 0) b a) + 0 ≤ 2147483647) ∧ (-2147483648 ≤ b + 1 ∧ b + 1 ≤ 2147483647) ∧ True) (pc' := 4) (la' := [some (.inr (.inr (some (50, 0)))), some (.inl a), some (.inl ((wOth (g 129 0) b a) + 0)), some (.inl (b + 1))]) (st' := []) (M' := (P, g, r0, n)) ok_X11_name true 5 rfl (by refine ⟨?_, ?_, trivial⟩ <;> (omega)) ?_
        refine aj_cast (congrArg (fun (z9 : Int) => ([some (.inr (.inr (some (50, 0)))), some (.inl a), some (.inl z9), some (.inl (b + 1))] : List (Option ax_V))) (show (wOth (g 129 0) b a) + 0 = wOth (g 129 0) (b + 1) a from by (unfold wOth; rw [wFI_s i1]; first | rw [bI_t (by omega)] | rw [bI_f (by omega)]))) rfl rfl ?_
        refine ih4 (b + 1) ?_ ?_
        · omega
        · omega
      · refine aj_run (C := (-2147483648 ≤ (wOth (g 129 0) b a) + 1 ∧ (wOth (g 129 0) b a) + 1 ≤ 2147483647) ∧ (-2147483648 ≤ b + 1 ∧ b + 1 ≤ 2147483647) ∧ True) (pc' := 4) (la' := [some (.inr (.inr (some (50, 0)))), some (.inl a), some (.inl ((wOth (g 129 0) b a) + 1)), some (.inl (b + 1))]) (st' := []) (M' := (P, g, r0, n)) ok_X11_name true 6 rfl (by refine ⟨?_, ?_, trivial⟩ <;> (omega)) ?_
        refine aj_cast (congrArg (fun (z9 : Int) => ([some (.inr (.inr (some (50, 0)))), some (.inl a), some (.inl z9), some (.inl (b + 1))] : List (Option ax_V))) (show (wOth (g 129 0) b a) + 1 = wOth (g 129 0) (b + 1) a from by (unfold wOth; rw [wFI_s i1]; first | rw [bI_t (by omega)] | rw [bI_f (by omega)]))) rfl rfl ?_
        refine ih4 (b + 1) ?_ ?_
        · omega
        · omega

set_option maxRecDepth 100000 in
set_option maxHeartbeats 4000000 in
theorem sp_begin (ways : Int) (P : Nat → Int → Prop) (g : Nat → Int → Int → Int) (r0 : Nat → Int → Int → Option (Nat × Int)) (n : Nat → Int → Int) (hn : mLen n) (h2 : 0 ≤ g 50 0 2 ∧ g 50 0 2 ≤ 7) : ax_S yX11_begin cX11_begin 3 none 0 0 0 [.inr (.inr (some (50, 0))), .inl ways] (P, g, r0, n) (fun r M' => r = none ∧ M' = (P, wBegin g ways, r0, n)) := by
  have n129 : n 129 0 = 7 := hn (129, 7) (by decide)
  have n130 : n 130 0 = 7 := hn (130, 7) (by decide)
  have n131 : n 131 0 = 7 := hn (131, 7) (by decide)
  have n132 : n 132 0 = 7 := hn (132, 7) (by decide)
  have n133 : n 133 0 = 7 := hn (133, 7) (by decide)
  have n134 : n 134 0 = 7 := hn (134, 7) (by decide)
  have n135 : n 135 0 = 7 := hn (135, 7) (by decide)
  have n136 : n 136 0 = 7 := hn (136, 7) (by decide)
  refine ax_S_of (own := 11) (by decide) rfl (fun h => absurd h (by decide)) rfl (Nat.le_of_ble_eq_true rfl) ?_
  change ax_J _ _ _ _ _ _ _ _ _ _ [some (.inr (.inr (some (50, 0)))), some (.inl ways), none] _ _
  refine aj_run (C := True) (pc' := 2) (la' := [some (.inr (.inr (some (50, 0)))), some (.inl ways), some (.inl 0)]) (st' := []) (M' := (P, g, r0, n)) ok_X11_begin true 2 rfl trivial ?_
  refine aj_cast rfl rfl (congrArg (fun z9 => ((P, z9, r0, n) : ax_Mm)) (show g = wBeg g ways 0 from by exact wBeg_0)) ?_
  refine aj_loop (σ := (Int)) (fun x => 0 ≤ x ∧ x ≤ g 50 0 2) (fun x => (g 50 0 2 - x).toNat) (fun x => [some (.inr (.inr (some (50, 0)))), some (.inl ways), some (.inl x)]) (fun x => []) (fun x => (P, wBeg g ways x, r0, n)) ?_ (0) ?_
  rotate_left
  · omega
  rintro a hI ih2
  dsimp only at hI ih2
  obtain ⟨i1, i2⟩ := hI
  change ax_J _ _ _ _ _ _ _ _ _ 2 [some (.inr (.inr (some (50, 0)))), some (.inl ways), some (.inl a)] [] (P, wBeg g ways a, r0, n)
  refine aj_run (C := True) (pc' := 7) (la' := [some (.inr (.inr (some (50, 0)))), some (.inl ways), some (.inl a)]) (st' := [.inl (g 50 0 2), .inl a]) (M' := (P, wBeg g ways a, r0, n)) ok_X11_begin true 3 rfl trivial ?_
  refine aj_icmp_ge (tgt := 76) (ax_dec2 (i := .if_icmp .ge 69) (n := 3) ok_X11_begin rfl) (by decide) (fun c1 => ?_) (fun c1 => ?_)
  · refine aj_run (C := (0 = 0 ∨ 0 = 1) ∧ True) (pc' := 96) (la' := [some (.inr (.inr (some (50, 0)))), some (.inl ways), some (.inl a)]) (st' := []) (M' := (P, ax_u3 (ax_u3 (ax_u3 (ax_u3 (wBeg g ways a) 50 0 39 (-1)) 50 0 40 0) 50 0 41 (-1)) 50 0 42 0, r0, n)) ok_X11_begin true 12 rfl (by refine ⟨?_, trivial⟩ <;> (omega)) ?_
    refine aj_ret (r := none) (ax_dec2 (i := .return_) (n := 1) ok_X11_begin rfl) ⟨?_, ?_, by decide, by decide⟩ rfl
    · exact ⟨rfl, by rw [show a = g 50 0 2 by omega]; rfl⟩
    · exact trivial
  · refine aj_run (C := (0 ≤ a ∧ a < n 129 0) ∧ (0 ≤ a ∧ a < n 130 0) ∧ (0 ≤ a ∧ a < n 131 0) ∧ (0 ≤ a ∧ a < n 132 0) ∧ (0 ≤ a ∧ a < n 133 0) ∧ (0 ≤ a ∧ a < n 134 0) ∧ (0 ≤ a ∧ a < n 135 0) ∧ (0 ≤ a ∧ a < n 136 0) ∧ (-2147483648 ≤ a + 1 ∧ a + 1 ≤ 2147483647) ∧ True) (pc' := 2) (la' := [some (.inr (.inr (some (50, 0)))), some (.inl ways), some (.inl (a + 1))]) (st' := []) (M' := (P, ax_u3 (ax_u3 (ax_u3 (ax_u3 (ax_u3 (ax_u3 (ax_u3 (ax_u3 (wBeg g ways a) 129 0 a (-1)) 130 0 a (ax_and (ax_shr ways a) 1)) 131 0 a 0) 132 0 a 0) 133 0 a 0) 134 0 a 0) 135 0 a (-1)) 136 0 a (-1), r0, n)) ok_X11_begin true 46 rfl (by refine ⟨?_, ?_, ?_, ?_, ?_, ?_, ?_, ?_, ?_, trivial⟩ <;> (omega)) ?_
    refine aj_cast rfl rfl (congrArg (fun z9 => ((P, z9, r0, n) : ax_Mm)) (show ax_u3 (ax_u3 (ax_u3 (ax_u3 (ax_u3 (ax_u3 (ax_u3 (ax_u3 (wBeg g ways a) 129 0 a (-1)) 130 0 a (ax_and (ax_shr ways a) 1)) 131 0 a 0) 132 0 a 0) 133 0 a 0) 134 0 a 0) 135 0 a (-1)) 136 0 a (-1) = wBeg g ways (a + 1) from by exact wBeg_s i1)) ?_
    refine ih2 (a + 1) ?_ ?_
    · omega
    · omega

set_option maxRecDepth 100000 in
set_option maxHeartbeats 4000000 in
theorem sp_go (P : Nat → Int → Prop) (g : Nat → Int → Int → Int) (r0 : Nat → Int → Int → Option (Nat × Int)) (n : Nat → Int → Int) (hn : mLen n) (h2 : 0 ≤ g 50 0 2 ∧ g 50 0 2 ≤ 7) (hk : 2 ≤ g 50 0 0 ∧ g 50 0 0 ≤ 40) (hw : ∀ a, 0 ≤ a → a < g 50 0 2 → -1 ≤ g 129 0 a ∧ g 129 0 a ≤ 80) (hs : ∀ a, 0 ≤ a → a < g 50 0 2 → (0 ≤ g 106 0 a ∧ g 106 0 a ≤ 20) ∧ (1 ≤ g 104 0 a ∧ g 104 0 a ≤ 40)) : ax_S yX11_go cX11_go 3 none 0 0 0 [.inr (.inr (some (50, 0)))] (P, g, r0, n) (fun r M' => r = none ∧ M' = (P, wGo g (g 50 0 2), r0, n)) := by
  have n129 : n 129 0 = 7 := hn (129, 7) (by decide)
  have n130 : n 130 0 = 7 := hn (130, 7) (by decide)
  have n106 : n 106 0 = 7 := hn (106, 7) (by decide)
  have n104 : n 104 0 = 7 := hn (104, 7) (by decide)
  refine ax_S_of (own := 11) (by decide) rfl (fun h => absurd h (by decide)) rfl (Nat.le_of_ble_eq_true rfl) ?_
  change ax_J _ _ _ _ _ _ _ _ _ _ [some (.inr (.inr (some (50, 0)))), none, none] _ _
  refine aj_run (C := (-2147483648 ≤ 2 * (g 50 0 0) ∧ 2 * (g 50 0 0) ≤ 2147483647) ∧ True) (pc' := 9) (la' := [some (.inr (.inr (some (50, 0)))), some (.inl (2 * (g 50 0 0))), some (.inl 0)]) (st' := []) (M' := (P, g, r0, n)) ok_X11_go true 7 rfl (by refine ⟨?_, trivial⟩ <;> (omega)) ?_
  refine aj_cast rfl rfl (congrArg (fun z9 => ((P, z9, r0, n) : ax_Mm)) (show g = wGo g 0 from by exact wGo_0)) ?_
  refine aj_loop (σ := (Int)) (fun x => 0 ≤ x ∧ x ≤ g 50 0 2) (fun x => (g 50 0 2 - x).toNat) (fun x => [some (.inr (.inr (some (50, 0)))), some (.inl (2 * (g 50 0 0))), some (.inl x)]) (fun x => []) (fun x => (P, wGo g x, r0, n)) ?_ (0) ?_
  rotate_left
  · omega
  rintro a hI ih9
  dsimp only at hI ih9
  obtain ⟨i1, i2⟩ := hI
  change ax_J _ _ _ _ _ _ _ _ _ 9 [some (.inr (.inr (some (50, 0)))), some (.inl (2 * (g 50 0 0))), some (.inl a)] [] (P, wGo g a, r0, n)
  have hw1 := hw a; have hs1 := hs a
  refine aj_run (C := True) (pc' := 14) (la' := [some (.inr (.inr (some (50, 0)))), some (.inl (2 * (g 50 0 0))), some (.inl a)]) (st' := [.inl (g 50 0 2), .inl a]) (M' := (P, wGo g a, r0, n)) ok_X11_go true 3 rfl trivial ?_
  refine aj_icmp_ge (tgt := 127) (ax_dec2 (i := .if_icmp .ge 113) (n := 3) ok_X11_go rfl) (by decide) (fun c1 => ?_) (fun c1 => ?_)
  · refine aj_ret (r := none) (ax_dec2 (i := .return_) (n := 1) ok_X11_go rfl) ⟨?_, ?_, by decide, by decide⟩ rfl
    · exact ⟨rfl, by rw [show a = g 50 0 2 by omega]⟩
    · exact trivial
  · refine aj_run (C := (0 ≤ a ∧ a < n 129 0) ∧ True) (pc' := 23) (la' := [some (.inr (.inr (some (50, 0)))), some (.inl (2 * (g 50 0 0))), some (.inl a)]) (st' := [.inl ((wGo g a) 129 0 a)]) (M' := (P, wGo g a, r0, n)) ok_X11_go true 4 rfl (by refine ⟨?_, trivial⟩ <;> (omega)) ?_
    refine aj_cast rfl (congrArg (fun (z9 : Int) => ([.inl z9] : List ax_V)) (show (wGo g a) 129 0 a = g 129 0 a from wGo_at)) rfl ?_
    refine aj_if_lt (tgt := 83) (ax_dec2 (i := .ifCond .lt 60) (n := 3) ok_X11_go rfl) (by decide) (fun c2 => ?_) (fun c2 => ?_)
    · refine aj_run (C := (0 ≤ a ∧ a < n 106 0) ∧ (-2147483648 ≤ 2 * (g 106 0 a) ∧ 2 * (g 106 0 a) ≤ 2147483647) ∧ True) (pc' := 100) (la' := [some (.inr (.inr (some (50, 0)))), some (.inl (2 * (g 50 0 0))), some (.inl a)]) (st' := [.inl (2 * (g 106 0 a)), .inl (g 50 0 39), .inl a, .inr (.inr (some (129, 0)))]) (M' := (P, wGo g a, r0, n)) ok_X11_go true 11 rfl (by refine ⟨?_, ?_, trivial⟩ <;> (omega)) ?_
      refine aj_icmp_ne (tgt := 114) (ax_dec2 (i := .if_icmp .ne 14) (n := 3) ok_X11_go rfl) (by decide) (fun c3 => ?_) (fun c3 => ?_)
      · refine aj_run (C := (0 ≤ a ∧ a < n 129 0) ∧ True) (pc' := 120) (la' := [some (.inr (.inr (some (50, 0)))), some (.inl (2 * (g 50 0 0))), some (.inl a)]) (st' := [.inl ((wGo g a) 129 0 a), .inl a, .inr (.inr (some (129, 0)))]) (M' := (P, wGo g a, r0, n)) ok_X11_go true 4 rfl (by refine ⟨?_, trivial⟩ <;> (omega)) ?_
        refine aj_cast rfl (congrArg (fun (z9 : Int) => ([.inl z9, .inl a, .inr (.inr (some (129, 0)))] : List ax_V)) (show (wGo g a) 129 0 a = g 129 0 a from wGo_at)) rfl ?_
        refine aj_run (C := (0 ≤ a ∧ a < n 129 0) ∧ (-2147483648 ≤ a + 1 ∧ a + 1 ≤ 2147483647) ∧ True) (pc' := 9) (la' := [some (.inr (.inr (some (50, 0)))), some (.inl (2 * (g 50 0 0))), some (.inl (a + 1))]) (st' := []) (M' := (P, ax_u3 (wGo g a) 129 0 a (g 129 0 a), r0, n)) ok_X11_go true 3 rfl (by refine ⟨?_, ?_, trivial⟩ <;> (omega)) ?_
        refine aj_cast rfl rfl (congrArg (fun z9 => ((P, z9, r0, n) : ax_Mm)) (show ax_u3 (wGo g a) 129 0 a (g 129 0 a) = wGo g (a + 1) from by ((try rw [ax_u3_u]); (try rw [ax_u3_u]); refine wGo_s1 i1 ?_; unfold wGoA; (try unfold wStp); (repeat first | rw [if_pos (by omega)] | rw [if_neg (by omega)] | rw [bI_t (by omega)] | rw [bI_f (by omega)]); try first | rfl | omega))) ?_
        refine ih9 (a + 1) ?_ ?_
        · omega
        · omega
      · refine aj_run (C := (0 ≤ a ∧ a < n 104 0) ∧ (-2147483648 ≤ 2 * (g 104 0 a) ∧ 2 * (g 104 0 a) ≤ 2147483647) ∧ (0 ≤ a ∧ a < n 129 0) ∧ (-2147483648 ≤ a + 1 ∧ a + 1 ≤ 2147483647) ∧ True) (pc' := 9) (la' := [some (.inr (.inr (some (50, 0)))), some (.inl (2 * (g 50 0 0))), some (.inl (a + 1))]) (st' := []) (M' := (P, ax_u3 (wGo g a) 129 0 a (2 * (g 104 0 a)), r0, n)) ok_X11_go true 10 rfl (by refine ⟨?_, ?_, ?_, ?_, trivial⟩ <;> (omega)) ?_
        refine aj_cast rfl rfl (congrArg (fun z9 => ((P, z9, r0, n) : ax_Mm)) (show ax_u3 (wGo g a) 129 0 a (2 * (g 104 0 a)) = wGo g (a + 1) from by ((try rw [ax_u3_u]); (try rw [ax_u3_u]); refine wGo_s1 i1 ?_; unfold wGoA; (try unfold wStp); (repeat first | rw [if_pos (by omega)] | rw [if_neg (by omega)] | rw [bI_t (by omega)] | rw [bI_f (by omega)]); try first | rfl | omega))) ?_
        refine ih9 (a + 1) ?_ ?_
        · omega
        · omega
    · refine aj_run (C := (0 ≤ a ∧ a < n 129 0) ∧ True) (pc' := 33) (la' := [some (.inr (.inr (some (50, 0)))), some (.inl (2 * (g 50 0 0))), some (.inl a)]) (st' := [.inl ((wGo g a) 129 0 a), .inl a, .inr (.inr (some (129, 0)))]) (M' := (P, wGo g a, r0, n)) ok_X11_go true 5 rfl (by refine ⟨?_, trivial⟩ <;> (omega)) ?_
      refine aj_cast rfl (congrArg (fun (z9 : Int) => ([.inl z9, .inl a, .inr (.inr (some (129, 0)))] : List ax_V)) (show (wGo g a) 129 0 a = g 129 0 a from wGo_at)) rfl ?_
      refine aj_run (C := (0 ≤ a ∧ a < n 130 0) ∧ True) (pc' := 40) (la' := [some (.inr (.inr (some (50, 0)))), some (.inl (2 * (g 50 0 0))), some (.inl a)]) (st' := [.inl 1, .inl (g 130 0 a), .inl (g 129 0 a), .inl a, .inr (.inr (some (129, 0)))]) (M' := (P, wGo g a, r0, n)) ok_X11_go true 5 rfl (by refine ⟨?_, trivial⟩ <;> (omega)) ?_
      refine aj_icmp_ne (tgt := 47) (ax_dec2 (i := .if_icmp .ne 7) (n := 3) ok_X11_go rfl) (by decide) (fun c4 => ?_) (fun c4 => ?_)
      · refine aj_run (C := (-2147483648 ≤ (g 129 0 a) + 1 ∧ (g 129 0 a) + 1 ≤ 2147483647) ∧ (0 ≤ a ∧ a < n 129 0) ∧ True) (pc' := 60) (la' := [some (.inr (.inr (some (50, 0)))), some (.inl (2 * (g 50 0 0))), some (.inl a)]) (st' := [.inl 1, .inl (g 50 0 1), .inl a, .inr (.inr (some (129, 0)))]) (M' := (P, ax_u3 (wGo g a) 129 0 a ((g 129 0 a) + 1), r0, n)) ok_X11_go true 9 rfl (by refine ⟨?_, ?_, trivial⟩ <;> (omega)) ?_
        refine aj_icmp_ne (tgt := 76) (ax_dec2 (i := .if_icmp .ne 16) (n := 3) ok_X11_go rfl) (by decide) (fun c5 => ?_) (fun c5 => ?_)
        · refine aj_run (C := (0 ≤ a ∧ a < n 129 0) ∧ True) (pc' := 82) (la' := [some (.inr (.inr (some (50, 0)))), some (.inl (2 * (g 50 0 0))), some (.inl a)]) (st' := [.inl ((ax_u3 (wGo g a) 129 0 a ((g 129 0 a) + 1)) 129 0 a), .inl a, .inr (.inr (some (129, 0)))]) (M' := (P, ax_u3 (wGo g a) 129 0 a ((g 129 0 a) + 1), r0, n)) ok_X11_go true 4 rfl (by refine ⟨?_, trivial⟩ <;> (omega)) ?_
          refine aj_cast rfl (congrArg (fun (z9 : Int) => ([.inl z9, .inl a, .inr (.inr (some (129, 0)))] : List ax_V)) (show (ax_u3 (wGo g a) 129 0 a ((g 129 0 a) + 1)) 129 0 a = (g 129 0 a) + 1 from ax_u3_s)) rfl ?_
          refine aj_run (C := (0 ≤ a ∧ a < n 129 0) ∧ (0 ≤ a ∧ a < n 106 0) ∧ (-2147483648 ≤ 2 * (g 106 0 a) ∧ 2 * (g 106 0 a) ≤ 2147483647) ∧ True) (pc' := 100) (la' := [some (.inr (.inr (some (50, 0)))), some (.inl (2 * (g 50 0 0))), some (.inl a)]) (st' := [.inl (2 * (g 106 0 a)), .inl (g 50 0 39), .inl a, .inr (.inr (some (129, 0)))]) (M' := (P, ax_u3 (ax_u3 (wGo g a) 129 0 a ((g 129 0 a) + 1)) 129 0 a ((g 129 0 a) + 1), r0, n)) ok_X11_go true 12 rfl (by refine ⟨?_, ?_, ?_, trivial⟩ <;> (omega)) ?_
          refine aj_icmp_ne (tgt := 114) (ax_dec2 (i := .if_icmp .ne 14) (n := 3) ok_X11_go rfl) (by decide) (fun c6 => ?_) (fun c6 => ?_)
          · refine aj_run (C := (0 ≤ a ∧ a < n 129 0) ∧ True) (pc' := 120) (la' := [some (.inr (.inr (some (50, 0)))), some (.inl (2 * (g 50 0 0))), some (.inl a)]) (st' := [.inl ((ax_u3 (ax_u3 (wGo g a) 129 0 a ((g 129 0 a) + 1)) 129 0 a ((g 129 0 a) + 1)) 129 0 a), .inl a, .inr (.inr (some (129, 0)))]) (M' := (P, ax_u3 (ax_u3 (wGo g a) 129 0 a ((g 129 0 a) + 1)) 129 0 a ((g 129 0 a) + 1), r0, n)) ok_X11_go true 4 rfl (by refine ⟨?_, trivial⟩ <;> (omega)) ?_
            refine aj_cast rfl (congrArg (fun (z9 : Int) => ([.inl z9, .inl a, .inr (.inr (some (129, 0)))] : List ax_V)) (show (ax_u3 (ax_u3 (wGo g a) 129 0 a ((g 129 0 a) + 1)) 129 0 a ((g 129 0 a) + 1)) 129 0 a = (g 129 0 a) + 1 from ax_u3_s)) rfl ?_
            refine aj_run (C := (0 ≤ a ∧ a < n 129 0) ∧ (-2147483648 ≤ a + 1 ∧ a + 1 ≤ 2147483647) ∧ True) (pc' := 9) (la' := [some (.inr (.inr (some (50, 0)))), some (.inl (2 * (g 50 0 0))), some (.inl (a + 1))]) (st' := []) (M' := (P, ax_u3 (ax_u3 (ax_u3 (wGo g a) 129 0 a ((g 129 0 a) + 1)) 129 0 a ((g 129 0 a) + 1)) 129 0 a ((g 129 0 a) + 1), r0, n)) ok_X11_go true 3 rfl (by refine ⟨?_, ?_, trivial⟩ <;> (omega)) ?_
            refine aj_cast rfl rfl (congrArg (fun z9 => ((P, z9, r0, n) : ax_Mm)) (show ax_u3 (ax_u3 (ax_u3 (wGo g a) 129 0 a ((g 129 0 a) + 1)) 129 0 a ((g 129 0 a) + 1)) 129 0 a ((g 129 0 a) + 1) = wGo g (a + 1) from by ((try rw [ax_u3_u]); (try rw [ax_u3_u]); refine wGo_s1 i1 ?_; unfold wGoA; (try unfold wStp); (repeat first | rw [if_pos (by omega)] | rw [if_neg (by omega)] | rw [bI_t (by omega)] | rw [bI_f (by omega)]); try first | rfl | omega))) ?_
            refine ih9 (a + 1) ?_ ?_
            · omega
            · omega
          · refine aj_run (C := (0 ≤ a ∧ a < n 104 0) ∧ (-2147483648 ≤ 2 * (g 104 0 a) ∧ 2 * (g 104 0 a) ≤ 2147483647) ∧ (0 ≤ a ∧ a < n 129 0) ∧ (-2147483648 ≤ a + 1 ∧ a + 1 ≤ 2147483647) ∧ True) (pc' := 9) (la' := [some (.inr (.inr (some (50, 0)))), some (.inl (2 * (g 50 0 0))), some (.inl (a + 1))]) (st' := []) (M' := (P, ax_u3 (ax_u3 (ax_u3 (wGo g a) 129 0 a ((g 129 0 a) + 1)) 129 0 a ((g 129 0 a) + 1)) 129 0 a (2 * (g 104 0 a)), r0, n)) ok_X11_go true 10 rfl (by refine ⟨?_, ?_, ?_, ?_, trivial⟩ <;> (omega)) ?_
            refine aj_cast rfl rfl (congrArg (fun z9 => ((P, z9, r0, n) : ax_Mm)) (show ax_u3 (ax_u3 (ax_u3 (wGo g a) 129 0 a ((g 129 0 a) + 1)) 129 0 a ((g 129 0 a) + 1)) 129 0 a (2 * (g 104 0 a)) = wGo g (a + 1) from by ((try rw [ax_u3_u]); (try rw [ax_u3_u]); refine wGo_s1 i1 ?_; unfold wGoA; (try unfold wStp); (repeat first | rw [if_pos (by omega)] | rw [if_neg (by omega)] | rw [bI_t (by omega)] | rw [bI_f (by omega)]); try first | rfl | omega))) ?_
            refine ih9 (a + 1) ?_ ?_
            · omega
            · omega
        · refine aj_run (C := (0 ≤ a ∧ a < n 129 0) ∧ True) (pc' := 69) (la' := [some (.inr (.inr (some (50, 0)))), some (.inl (2 * (g 50 0 0))), some (.inl a)]) (st' := [.inl ((ax_u3 (wGo g a) 129 0 a ((g 129 0 a) + 1)) 129 0 a), .inl a, .inr (.inr (some (129, 0)))]) (M' := (P, ax_u3 (wGo g a) 129 0 a ((g 129 0 a) + 1), r0, n)) ok_X11_go true 4 rfl (by refine ⟨?_, trivial⟩ <;> (omega)) ?_
          refine aj_cast rfl (congrArg (fun (z9 : Int) => ([.inl z9, .inl a, .inr (.inr (some (129, 0)))] : List ax_V)) (show (ax_u3 (wGo g a) 129 0 a ((g 129 0 a) + 1)) 129 0 a = (g 129 0 a) + 1 from ax_u3_s)) rfl ?_
          refine aj_run (C := (-2147483648 ≤ ((g 129 0 a) + 1) + (2 * (g 50 0 0)) ∧ ((g 129 0 a) + 1) + (2 * (g 50 0 0)) ≤ 2147483647) ∧ (0 < 2 * (g 50 0 0)) ∧ (0 ≤ a ∧ a < n 129 0) ∧ (0 ≤ a ∧ a < n 106 0) ∧ (-2147483648 ≤ 2 * (g 106 0 a) ∧ 2 * (g 106 0 a) ≤ 2147483647) ∧ True) (pc' := 100) (la' := [some (.inr (.inr (some (50, 0)))), some (.inl (2 * (g 50 0 0))), some (.inl a)]) (st' := [.inl (2 * (g 106 0 a)), .inl (g 50 0 39), .inl a, .inr (.inr (some (129, 0)))]) (M' := (P, ax_u3 (ax_u3 (wGo g a) 129 0 a ((g 129 0 a) + 1)) 129 0 a (Int.tmod (((g 129 0 a) + 1) + (2 * (g 50 0 0))) (2 * (g 50 0 0))), r0, n)) ok_X11_go true 17 rfl (by refine ⟨?_, ?_, ?_, ?_, ?_, trivial⟩ <;> (omega)) ?_
          refine aj_icmp_ne (tgt := 114) (ax_dec2 (i := .if_icmp .ne 14) (n := 3) ok_X11_go rfl) (by decide) (fun c7 => ?_) (fun c7 => ?_)
          · refine aj_run (C := (0 ≤ a ∧ a < n 129 0) ∧ True) (pc' := 120) (la' := [some (.inr (.inr (some (50, 0)))), some (.inl (2 * (g 50 0 0))), some (.inl a)]) (st' := [.inl ((ax_u3 (ax_u3 (wGo g a) 129 0 a ((g 129 0 a) + 1)) 129 0 a (Int.tmod (((g 129 0 a) + 1) + (2 * (g 50 0 0))) (2 * (g 50 0 0)))) 129 0 a), .inl a, .inr (.inr (some (129, 0)))]) (M' := (P, ax_u3 (ax_u3 (wGo g a) 129 0 a ((g 129 0 a) + 1)) 129 0 a (Int.tmod (((g 129 0 a) + 1) + (2 * (g 50 0 0))) (2 * (g 50 0 0))), r0, n)) ok_X11_go true 4 rfl (by refine ⟨?_, trivial⟩ <;> (omega)) ?_
            refine aj_cast rfl (congrArg (fun (z9 : Int) => ([.inl z9, .inl a, .inr (.inr (some (129, 0)))] : List ax_V)) (show (ax_u3 (ax_u3 (wGo g a) 129 0 a ((g 129 0 a) + 1)) 129 0 a (Int.tmod (((g 129 0 a) + 1) + (2 * (g 50 0 0))) (2 * (g 50 0 0)))) 129 0 a = Int.tmod (((g 129 0 a) + 1) + (2 * (g 50 0 0))) (2 * (g 50 0 0)) from ax_u3_s)) rfl ?_
            refine aj_run (C := (0 ≤ a ∧ a < n 129 0) ∧ (-2147483648 ≤ a + 1 ∧ a + 1 ≤ 2147483647) ∧ True) (pc' := 9) (la' := [some (.inr (.inr (some (50, 0)))), some (.inl (2 * (g 50 0 0))), some (.inl (a + 1))]) (st' := []) (M' := (P, ax_u3 (ax_u3 (ax_u3 (wGo g a) 129 0 a ((g 129 0 a) + 1)) 129 0 a (Int.tmod (((g 129 0 a) + 1) + (2 * (g 50 0 0))) (2 * (g 50 0 0)))) 129 0 a (Int.tmod (((g 129 0 a) + 1) + (2 * (g 50 0 0))) (2 * (g 50 0 0))), r0, n)) ok_X11_go true 3 rfl (by refine ⟨?_, ?_, trivial⟩ <;> (omega)) ?_
            refine aj_cast rfl rfl (congrArg (fun z9 => ((P, z9, r0, n) : ax_Mm)) (show ax_u3 (ax_u3 (ax_u3 (wGo g a) 129 0 a ((g 129 0 a) + 1)) 129 0 a (Int.tmod (((g 129 0 a) + 1) + (2 * (g 50 0 0))) (2 * (g 50 0 0)))) 129 0 a (Int.tmod (((g 129 0 a) + 1) + (2 * (g 50 0 0))) (2 * (g 50 0 0))) = wGo g (a + 1) from by ((try rw [ax_u3_u]); (try rw [ax_u3_u]); refine wGo_s1 i1 ?_; unfold wGoA; (try unfold wStp); (repeat first | rw [if_pos (by omega)] | rw [if_neg (by omega)] | rw [bI_t (by omega)] | rw [bI_f (by omega)]); try first | rfl | omega))) ?_
            refine ih9 (a + 1) ?_ ?_
            · omega
            · omega
          · refine aj_run (C := (0 ≤ a ∧ a < n 104 0) ∧ (-2147483648 ≤ 2 * (g 104 0 a) ∧ 2 * (g 104 0 a) ≤ 2147483647) ∧ (0 ≤ a ∧ a < n 129 0) ∧ (-2147483648 ≤ a + 1 ∧ a + 1 ≤ 2147483647) ∧ True) (pc' := 9) (la' := [some (.inr (.inr (some (50, 0)))), some (.inl (2 * (g 50 0 0))), some (.inl (a + 1))]) (st' := []) (M' := (P, ax_u3 (ax_u3 (ax_u3 (wGo g a) 129 0 a ((g 129 0 a) + 1)) 129 0 a (Int.tmod (((g 129 0 a) + 1) + (2 * (g 50 0 0))) (2 * (g 50 0 0)))) 129 0 a (2 * (g 104 0 a)), r0, n)) ok_X11_go true 10 rfl (by refine ⟨?_, ?_, ?_, ?_, trivial⟩ <;> (omega)) ?_
            refine aj_cast rfl rfl (congrArg (fun z9 => ((P, z9, r0, n) : ax_Mm)) (show ax_u3 (ax_u3 (ax_u3 (wGo g a) 129 0 a ((g 129 0 a) + 1)) 129 0 a (Int.tmod (((g 129 0 a) + 1) + (2 * (g 50 0 0))) (2 * (g 50 0 0)))) 129 0 a (2 * (g 104 0 a)) = wGo g (a + 1) from by ((try rw [ax_u3_u]); (try rw [ax_u3_u]); refine wGo_s1 i1 ?_; unfold wGoA; (try unfold wStp); (repeat first | rw [if_pos (by omega)] | rw [if_neg (by omega)] | rw [bI_t (by omega)] | rw [bI_f (by omega)]); try first | rfl | omega))) ?_
            refine ih9 (a + 1) ?_ ?_
            · omega
            · omega
      · refine aj_run (C := (-2147483648 ≤ (g 129 0 a) + (-1) ∧ (g 129 0 a) + (-1) ≤ 2147483647) ∧ (0 ≤ a ∧ a < n 129 0) ∧ True) (pc' := 60) (la' := [some (.inr (.inr (some (50, 0)))), some (.inl (2 * (g 50 0 0))), some (.inl a)]) (st' := [.inl 1, .inl (g 50 0 1), .inl a, .inr (.inr (some (129, 0)))]) (M' := (P, ax_u3 (wGo g a) 129 0 a ((g 129 0 a) + (-1)), r0, n)) ok_X11_go true 10 rfl (by refine ⟨?_, ?_, trivial⟩ <;> (omega)) ?_
        refine aj_icmp_ne (tgt := 76) (ax_dec2 (i := .if_icmp .ne 16) (n := 3) ok_X11_go rfl) (by decide) (fun c8 => ?_) (fun c8 => ?_)
        · refine aj_run (C := (0 ≤ a ∧ a < n 129 0) ∧ True) (pc' := 82) (la' := [some (.inr (.inr (some (50, 0)))), some (.inl (2 * (g 50 0 0))), some (.inl a)]) (st' := [.inl ((ax_u3 (wGo g a) 129 0 a ((g 129 0 a) + (-1))) 129 0 a), .inl a, .inr (.inr (some (129, 0)))]) (M' := (P, ax_u3 (wGo g a) 129 0 a ((g 129 0 a) + (-1)), r0, n)) ok_X11_go true 4 rfl (by refine ⟨?_, trivial⟩ <;> (omega)) ?_
          refine aj_cast rfl (congrArg (fun (z9 : Int) => ([.inl z9, .inl a, .inr (.inr (some (129, 0)))] : List ax_V)) (show (ax_u3 (wGo g a) 129 0 a ((g 129 0 a) + (-1))) 129 0 a = (g 129 0 a) + (-1) from ax_u3_s)) rfl ?_
          refine aj_run (C := (0 ≤ a ∧ a < n 129 0) ∧ (0 ≤ a ∧ a < n 106 0) ∧ (-2147483648 ≤ 2 * (g 106 0 a) ∧ 2 * (g 106 0 a) ≤ 2147483647) ∧ True) (pc' := 100) (la' := [some (.inr (.inr (some (50, 0)))), some (.inl (2 * (g 50 0 0))), some (.inl a)]) (st' := [.inl (2 * (g 106 0 a)), .inl (g 50 0 39), .inl a, .inr (.inr (some (129, 0)))]) (M' := (P, ax_u3 (ax_u3 (wGo g a) 129 0 a ((g 129 0 a) + (-1))) 129 0 a ((g 129 0 a) + (-1)), r0, n)) ok_X11_go true 12 rfl (by refine ⟨?_, ?_, ?_, trivial⟩ <;> (omega)) ?_
          refine aj_icmp_ne (tgt := 114) (ax_dec2 (i := .if_icmp .ne 14) (n := 3) ok_X11_go rfl) (by decide) (fun c9 => ?_) (fun c9 => ?_)
          · refine aj_run (C := (0 ≤ a ∧ a < n 129 0) ∧ True) (pc' := 120) (la' := [some (.inr (.inr (some (50, 0)))), some (.inl (2 * (g 50 0 0))), some (.inl a)]) (st' := [.inl ((ax_u3 (ax_u3 (wGo g a) 129 0 a ((g 129 0 a) + (-1))) 129 0 a ((g 129 0 a) + (-1))) 129 0 a), .inl a, .inr (.inr (some (129, 0)))]) (M' := (P, ax_u3 (ax_u3 (wGo g a) 129 0 a ((g 129 0 a) + (-1))) 129 0 a ((g 129 0 a) + (-1)), r0, n)) ok_X11_go true 4 rfl (by refine ⟨?_, trivial⟩ <;> (omega)) ?_
            refine aj_cast rfl (congrArg (fun (z9 : Int) => ([.inl z9, .inl a, .inr (.inr (some (129, 0)))] : List ax_V)) (show (ax_u3 (ax_u3 (wGo g a) 129 0 a ((g 129 0 a) + (-1))) 129 0 a ((g 129 0 a) + (-1))) 129 0 a = (g 129 0 a) + (-1) from ax_u3_s)) rfl ?_
            refine aj_run (C := (0 ≤ a ∧ a < n 129 0) ∧ (-2147483648 ≤ a + 1 ∧ a + 1 ≤ 2147483647) ∧ True) (pc' := 9) (la' := [some (.inr (.inr (some (50, 0)))), some (.inl (2 * (g 50 0 0))), some (.inl (a + 1))]) (st' := []) (M' := (P, ax_u3 (ax_u3 (ax_u3 (wGo g a) 129 0 a ((g 129 0 a) + (-1))) 129 0 a ((g 129 0 a) + (-1))) 129 0 a ((g 129 0 a) + (-1)), r0, n)) ok_X11_go true 3 rfl (by refine ⟨?_, ?_, trivial⟩ <;> (omega)) ?_
            refine aj_cast rfl rfl (congrArg (fun z9 => ((P, z9, r0, n) : ax_Mm)) (show ax_u3 (ax_u3 (ax_u3 (wGo g a) 129 0 a ((g 129 0 a) + (-1))) 129 0 a ((g 129 0 a) + (-1))) 129 0 a ((g 129 0 a) + (-1)) = wGo g (a + 1) from by ((try rw [ax_u3_u]); (try rw [ax_u3_u]); refine wGo_s1 i1 ?_; unfold wGoA; (try unfold wStp); (repeat first | rw [if_pos (by omega)] | rw [if_neg (by omega)] | rw [bI_t (by omega)] | rw [bI_f (by omega)]); try first | rfl | omega))) ?_
            refine ih9 (a + 1) ?_ ?_
            · omega
            · omega
          · refine aj_run (C := (0 ≤ a ∧ a < n 104 0) ∧ (-2147483648 ≤ 2 * (g 104 0 a) ∧ 2 * (g 104 0 a) ≤ 2147483647) ∧ (0 ≤ a ∧ a < n 129 0) ∧ (-2147483648 ≤ a + 1 ∧ a + 1 ≤ 2147483647) ∧ True) (pc' := 9) (la' := [some (.inr (.inr (some (50, 0)))), some (.inl (2 * (g 50 0 0))), some (.inl (a + 1))]) (st' := []) (M' := (P, ax_u3 (ax_u3 (ax_u3 (wGo g a) 129 0 a ((g 129 0 a) + (-1))) 129 0 a ((g 129 0 a) + (-1))) 129 0 a (2 * (g 104 0 a)), r0, n)) ok_X11_go true 10 rfl (by refine ⟨?_, ?_, ?_, ?_, trivial⟩ <;> (omega)) ?_
            refine aj_cast rfl rfl (congrArg (fun z9 => ((P, z9, r0, n) : ax_Mm)) (show ax_u3 (ax_u3 (ax_u3 (wGo g a) 129 0 a ((g 129 0 a) + (-1))) 129 0 a ((g 129 0 a) + (-1))) 129 0 a (2 * (g 104 0 a)) = wGo g (a + 1) from by ((try rw [ax_u3_u]); (try rw [ax_u3_u]); refine wGo_s1 i1 ?_; unfold wGoA; (try unfold wStp); (repeat first | rw [if_pos (by omega)] | rw [if_neg (by omega)] | rw [bI_t (by omega)] | rw [bI_f (by omega)]); try first | rfl | omega))) ?_
            refine ih9 (a + 1) ?_ ?_
            · omega
            · omega
        · refine aj_run (C := (0 ≤ a ∧ a < n 129 0) ∧ True) (pc' := 69) (la' := [some (.inr (.inr (some (50, 0)))), some (.inl (2 * (g 50 0 0))), some (.inl a)]) (st' := [.inl ((ax_u3 (wGo g a) 129 0 a ((g 129 0 a) + (-1))) 129 0 a), .inl a, .inr (.inr (some (129, 0)))]) (M' := (P, ax_u3 (wGo g a) 129 0 a ((g 129 0 a) + (-1)), r0, n)) ok_X11_go true 4 rfl (by refine ⟨?_, trivial⟩ <;> (omega)) ?_
          refine aj_cast rfl (congrArg (fun (z9 : Int) => ([.inl z9, .inl a, .inr (.inr (some (129, 0)))] : List ax_V)) (show (ax_u3 (wGo g a) 129 0 a ((g 129 0 a) + (-1))) 129 0 a = (g 129 0 a) + (-1) from ax_u3_s)) rfl ?_
          refine aj_run (C := (-2147483648 ≤ ((g 129 0 a) + (-1)) + (2 * (g 50 0 0)) ∧ ((g 129 0 a) + (-1)) + (2 * (g 50 0 0)) ≤ 2147483647) ∧ (0 < 2 * (g 50 0 0)) ∧ (0 ≤ a ∧ a < n 129 0) ∧ (0 ≤ a ∧ a < n 106 0) ∧ (-2147483648 ≤ 2 * (g 106 0 a) ∧ 2 * (g 106 0 a) ≤ 2147483647) ∧ True) (pc' := 100) (la' := [some (.inr (.inr (some (50, 0)))), some (.inl (2 * (g 50 0 0))), some (.inl a)]) (st' := [.inl (2 * (g 106 0 a)), .inl (g 50 0 39), .inl a, .inr (.inr (some (129, 0)))]) (M' := (P, ax_u3 (ax_u3 (wGo g a) 129 0 a ((g 129 0 a) + (-1))) 129 0 a (Int.tmod (((g 129 0 a) + (-1)) + (2 * (g 50 0 0))) (2 * (g 50 0 0))), r0, n)) ok_X11_go true 17 rfl (by refine ⟨?_, ?_, ?_, ?_, ?_, trivial⟩ <;> (omega)) ?_
          refine aj_icmp_ne (tgt := 114) (ax_dec2 (i := .if_icmp .ne 14) (n := 3) ok_X11_go rfl) (by decide) (fun c10 => ?_) (fun c10 => ?_)
          · refine aj_run (C := (0 ≤ a ∧ a < n 129 0) ∧ True) (pc' := 120) (la' := [some (.inr (.inr (some (50, 0)))), some (.inl (2 * (g 50 0 0))), some (.inl a)]) (st' := [.inl ((ax_u3 (ax_u3 (wGo g a) 129 0 a ((g 129 0 a) + (-1))) 129 0 a (Int.tmod (((g 129 0 a) + (-1)) + (2 * (g 50 0 0))) (2 * (g 50 0 0)))) 129 0 a), .inl a, .inr (.inr (some (129, 0)))]) (M' := (P, ax_u3 (ax_u3 (wGo g a) 129 0 a ((g 129 0 a) + (-1))) 129 0 a (Int.tmod (((g 129 0 a) + (-1)) + (2 * (g 50 0 0))) (2 * (g 50 0 0))), r0, n)) ok_X11_go true 4 rfl (by refine ⟨?_, trivial⟩ <;> (omega)) ?_
            refine aj_cast rfl (congrArg (fun (z9 : Int) => ([.inl z9, .inl a, .inr (.inr (some (129, 0)))] : List ax_V)) (show (ax_u3 (ax_u3 (wGo g a) 129 0 a ((g 129 0 a) + (-1))) 129 0 a (Int.tmod (((g 129 0 a) + (-1)) + (2 * (g 50 0 0))) (2 * (g 50 0 0)))) 129 0 a = Int.tmod (((g 129 0 a) + (-1)) + (2 * (g 50 0 0))) (2 * (g 50 0 0)) from ax_u3_s)) rfl ?_
            refine aj_run (C := (0 ≤ a ∧ a < n 129 0) ∧ (-2147483648 ≤ a + 1 ∧ a + 1 ≤ 2147483647) ∧ True) (pc' := 9) (la' := [some (.inr (.inr (some (50, 0)))), some (.inl (2 * (g 50 0 0))), some (.inl (a + 1))]) (st' := []) (M' := (P, ax_u3 (ax_u3 (ax_u3 (wGo g a) 129 0 a ((g 129 0 a) + (-1))) 129 0 a (Int.tmod (((g 129 0 a) + (-1)) + (2 * (g 50 0 0))) (2 * (g 50 0 0)))) 129 0 a (Int.tmod (((g 129 0 a) + (-1)) + (2 * (g 50 0 0))) (2 * (g 50 0 0))), r0, n)) ok_X11_go true 3 rfl (by refine ⟨?_, ?_, trivial⟩ <;> (omega)) ?_
            refine aj_cast rfl rfl (congrArg (fun z9 => ((P, z9, r0, n) : ax_Mm)) (show ax_u3 (ax_u3 (ax_u3 (wGo g a) 129 0 a ((g 129 0 a) + (-1))) 129 0 a (Int.tmod (((g 129 0 a) + (-1)) + (2 * (g 50 0 0))) (2 * (g 50 0 0)))) 129 0 a (Int.tmod (((g 129 0 a) + (-1)) + (2 * (g 50 0 0))) (2 * (g 50 0 0))) = wGo g (a + 1) from by ((try rw [ax_u3_u]); (try rw [ax_u3_u]); refine wGo_s1 i1 ?_; unfold wGoA; (try unfold wStp); (repeat first | rw [if_pos (by omega)] | rw [if_neg (by omega)] | rw [bI_t (by omega)] | rw [bI_f (by omega)]); try first | rfl | omega))) ?_
            refine ih9 (a + 1) ?_ ?_
            · omega
            · omega
          · refine aj_run (C := (0 ≤ a ∧ a < n 104 0) ∧ (-2147483648 ≤ 2 * (g 104 0 a) ∧ 2 * (g 104 0 a) ≤ 2147483647) ∧ (0 ≤ a ∧ a < n 129 0) ∧ (-2147483648 ≤ a + 1 ∧ a + 1 ≤ 2147483647) ∧ True) (pc' := 9) (la' := [some (.inr (.inr (some (50, 0)))), some (.inl (2 * (g 50 0 0))), some (.inl (a + 1))]) (st' := []) (M' := (P, ax_u3 (ax_u3 (ax_u3 (wGo g a) 129 0 a ((g 129 0 a) + (-1))) 129 0 a (Int.tmod (((g 129 0 a) + (-1)) + (2 * (g 50 0 0))) (2 * (g 50 0 0)))) 129 0 a (2 * (g 104 0 a)), r0, n)) ok_X11_go true 10 rfl (by refine ⟨?_, ?_, ?_, ?_, trivial⟩ <;> (omega)) ?_
            refine aj_cast rfl rfl (congrArg (fun z9 => ((P, z9, r0, n) : ax_Mm)) (show ax_u3 (ax_u3 (ax_u3 (wGo g a) 129 0 a ((g 129 0 a) + (-1))) 129 0 a (Int.tmod (((g 129 0 a) + (-1)) + (2 * (g 50 0 0))) (2 * (g 50 0 0)))) 129 0 a (2 * (g 104 0 a)) = wGo g (a + 1) from by ((try rw [ax_u3_u]); (try rw [ax_u3_u]); refine wGo_s1 i1 ?_; unfold wGoA; (try unfold wStp); (repeat first | rw [if_pos (by omega)] | rw [if_neg (by omega)] | rw [bI_t (by omega)] | rw [bI_f (by omega)]); try first | rfl | omega))) ?_
            refine ih9 (a + 1) ?_ ?_
            · omega
            · omega

