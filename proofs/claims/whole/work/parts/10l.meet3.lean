/-- those that meet turn (if they will), and have met once more: of the first m -/
def wM4 (g : Nat → Int → Int → Int) (m : Int) : Nat → Int → Int → Int := fun f o j => if f = 130 ∧ o = 0 ∧ (0 ≤ j ∧ j < m) ∧ g 137 0 j ≠ 0 then (if g 138 0 j ≠ 0 then 1 - g 130 0 j else g 130 0 j) else if f = 132 ∧ o = 0 ∧ (0 ≤ j ∧ j < m) ∧ g 137 0 j ≠ 0 then Int.bmod (g 132 0 j + bI (g 138 0 j ≠ 0)) 4294967296 else if f = 131 ∧ o = 0 ∧ (0 ≤ j ∧ j < m) ∧ g 137 0 j ≠ 0 then Int.bmod (g 131 0 j + 1) 4294967296 else g f o j
theorem wM4_0 {g : Nat → Int → Int → Int} : g = wM4 g 0 := by
  funext f o j
  unfold wM4
  rw [if_neg (by omega), if_neg (by omega), if_neg (by omega)]
theorem wM4_at {g : Nat → Int → Int → Int} {a : Int} {f : Nat} : wM4 g a f 0 a = g f 0 a := by
  unfold wM4
  rw [if_neg (by omega), if_neg (by omega), if_neg (by omega)]
theorem wM4_f {g : Nat → Int → Int → Int} {m o j : Int} {f : Nat} (h1 : f ≠ 130) (h2 : f ≠ 131) (h3 : f ≠ 132) : wM4 g m f o j = g f o j := by
  unfold wM4
  rw [if_neg (fun q => h1 q.1), if_neg (fun q => h3 q.1), if_neg (fun q => h2 q.1)]
theorem wM4_x {g : Nat → Int → Int → Int} {a o j : Int} {f : Nat} (q : ¬ (o = 0 ∧ j = a)) : wM4 g a f o j = wM4 g (a + 1) f o j := by
  unfold wM4
  have e : ∀ F : Nat, (f = F ∧ o = 0 ∧ (0 ≤ j ∧ j < a) ∧ g 137 0 j ≠ 0) ↔ (f = F ∧ o = 0 ∧ (0 ≤ j ∧ j < a + 1) ∧ g 137 0 j ≠ 0) := fun F => ⟨fun z => ⟨z.1, z.2.1, by omega, z.2.2.2⟩, fun z => ⟨z.1, z.2.1, by omega, z.2.2.2⟩⟩
  simp only [e]
theorem wM4_n {g : Nat → Int → Int → Int} {a : Int} (hm : g 137 0 a = 0) : wM4 g a = wM4 g (a + 1) := by
  funext f o j
  by_cases q : o = 0 ∧ j = a
  · obtain ⟨rfl, rfl⟩ := q
    rw [wM4_at]
    unfold wM4
    rw [if_neg (fun z => z.2.2.2 hm), if_neg (fun z => z.2.2.2 hm), if_neg (fun z => z.2.2.2 hm)]
  · exact wM4_x q
theorem wM4_y {g : Nat → Int → Int → Int} {a x y z : Int} (i1 : 0 ≤ a) (hm : g 137 0 a ≠ 0) (hx : x = if g 138 0 a ≠ 0 then 1 - g 130 0 a else g 130 0 a) (hy : y = Int.bmod (g 132 0 a + bI (g 138 0 a ≠ 0)) 4294967296) (hz : z = Int.bmod (g 131 0 a + 1) 4294967296) : ax_u3 (ax_u3 (ax_u3 (wM4 g a) 130 0 a x) 132 0 a y) 131 0 a z = wM4 g (a + 1) := by
  funext f o j
  by_cases q : o = 0 ∧ j = a
  · obtain ⟨rfl, rfl⟩ := q
    have hj : 0 ≤ j ∧ j < j + 1 := ⟨i1, by omega⟩
    by_cases f1 : f = 131
    · subst f1
      rw [ax_u3_s, hz]
      unfold wM4
      rw [if_neg (by omega), if_neg (by omega), if_pos ⟨rfl, rfl, hj, hm⟩]
    · rw [ax_u3_n (fun w => f1 w.1)]
      by_cases f2 : f = 132
      · subst f2
        rw [ax_u3_s, hy]
        unfold wM4
        rw [if_neg (by omega), if_pos ⟨rfl, rfl, hj, hm⟩]
      · rw [ax_u3_n (fun w => f2 w.1)]
        by_cases f3 : f = 130
        · subst f3
          rw [ax_u3_s, hx]
          unfold wM4
          rw [if_pos (c := _ ∧ _ ∧ _ ∧ _) ⟨rfl, rfl, hj, hm⟩]
        · rw [ax_u3_n (fun w => f3 w.1), wM4_at, wM4_f f3 f1 f2]
  · rw [ax_u3_n (fun w => q ⟨w.2.1, w.2.2⟩), ax_u3_n (fun w => q ⟨w.2.1, w.2.2⟩), ax_u3_n (fun w => q ⟨w.2.1, w.2.2⟩)]
    exact wM4_x q
theorem wM4_ag {g g' : Nat → Int → Int → Int} {m : Int} (h : wAgr g' g) : wAgr (wM4 g' m) (wM4 g m) := by
  intro f o j h1 h2
  unfold wM4
  rw [h 137 0 j (by decide) (by decide), h 138 0 j (by decide) (by decide), h 130 0 j (by decide) (by decide), h 131 0 j (by decide) (by decide), h 132 0 j (by decide) (by decide), h f o j h1 h2]
def wMeetG (g : Nat → Int → Int → Int) : Nat → Int → Int → Int := ax_u3 (ax_u3 (wMf g (g 50 0 2)) 50 0 40 (wPrO g (g 50 0 2))) 50 0 41 (wNxO g (g 50 0 2))
def wMeet (g : Nat → Int → Int → Int) : Nat → Int → Int → Int := wM4 (wM3 (wMeetG g) (g 50 0 2)) (g 50 0 2)
theorem wAny_01 {g : Nat → Int → Int → Int} {k : Int} : wAny g k = 0 ∨ wAny g k = 1 := by
  unfold wAny wFI
  generalize k.toNat = q
  cases q with
  | zero => exact Or.inl rfl
  | succ q =>
    unfold wF
    split
    · exact Or.inr rfl
    · exact Or.inl rfl
theorem wMeetG_o {g : Nat → Int → Int → Int} {f : Nat} {o j : Int} (h1 : f ≠ 137) (h2 : f = 50 → j ≠ 40 ∧ j ≠ 41) : wMeetG g f o j = g f o j := by
  unfold wMeetG
  rw [ax_u3_n (fun q => (h2 q.1).2 q.2.2), ax_u3_n (fun q => (h2 q.1).1 q.2.2)]
  unfold wMf
  rw [if_neg (fun q => h1 q.1)]
set_option maxRecDepth 100000 in
set_option maxHeartbeats 4000000 in
theorem seg_meet3 {R : Room} {p0 : Nat → Int → Prop} {Q : ax_Q} {kc ks : Nat} (any : Int) (P : Nat → Int → Prop) (g : Nat → Int → Int → Int) (r0 : Nat → Int → Int → Option (Nat × Int)) (n : Nat → Int → Int) (hn : mLen n) (h2 : 0 ≤ g 50 0 2 ∧ g 50 0 2 ≤ 7) (hf : ∀ a, 0 ≤ a → a < g 50 0 2 → g 130 0 a = 0 ∨ g 130 0 a = 1) (k : ax_J 11 cX11_meet 5 none R p0 Q kc ks 357 [some (.inr (.inr (some (50, 0)))), some (.inl any), none, none, none] [] (P, wM4 g (g 50 0 2), r0, n)) : ax_J 11 cX11_meet 5 none R p0 Q kc ks 267 [some (.inr (.inr (some (50, 0)))), some (.inl any), none, none, none] [] (P, g, r0, n) := by
  have n137 : n 137 0 = 7 := hn (137, 7) (by decide)
  have n129 : n 129 0 = 7 := hn (129, 7) (by decide)
  have n130 : n 130 0 = 7 := hn (130, 7) (by decide)
  have n138 : n 138 0 = 7 := hn (138, 7) (by decide)
  have n134 : n 134 0 = 7 := hn (134, 7) (by decide)
  have n132 : n 132 0 = 7 := hn (132, 7) (by decide)
  have n131 : n 131 0 = 7 := hn (131, 7) (by decide)
  refine aj_run (C := True) (pc' := 269) (la' := [some (.inr (.inr (some (50, 0)))), some (.inl any), none, some (.inl 0), none]) (st' := []) (M' := (P, g, r0, n)) ok_X11_meet true 2 rfl trivial ?_
  refine aj_cast rfl rfl (congrArg (fun z9 => ((P, z9, r0, n) : ax_Mm)) (show g = wM4 g 0 from by exact wM4_0)) ?_
  refine aj_loop (σ := (Int)) (fun x => 0 ≤ x ∧ x ≤ g 50 0 2) (fun x => (g 50 0 2 - x).toNat) (fun x => [some (.inr (.inr (some (50, 0)))), some (.inl any), none, some (.inl x), none]) (fun x => []) (fun x => (P, wM4 g x, r0, n)) ?_ (0) ?_
  rotate_left
  · omega
  rintro a hI ih269
  try dsimp only at hI ih269
  obtain ⟨i1, i2⟩ := hI
  change ax_J _ _ _ _ _ _ _ _ _ 269 [some (.inr (.inr (some (50, 0)))), some (.inl any), none, some (.inl a), none] [] (P, wM4 g a, r0, n)
  have hf1 := hf a
  refine aj_run (C := True) (pc' := 274) (la' := [some (.inr (.inr (some (50, 0)))), some (.inl any), none, some (.inl a), none]) (st' := [.inl (g 50 0 2), .inl a]) (M' := (P, wM4 g a, r0, n)) ok_X11_meet true 3 rfl trivial ?_
  refine aj_icmp_ge (tgt := 357) (ax_dec2 (i := .if_icmp .ge 83) (n := 3) ok_X11_meet rfl) (by decide) (fun c1 => ?_) (fun c1 => ?_)
  · refine aj_forget (la' := [some (.inr (.inr (some (50, 0)))), some (.inl any), none, none, none]) (by simp [ax_fg]) ?_
    rw [show a = g 50 0 2 by omega]
    exact k
  · refine aj_run (C := (0 ≤ a ∧ a < n 137 0) ∧ True) (pc' := 283) (la' := [some (.inr (.inr (some (50, 0)))), some (.inl any), none, some (.inl a), none]) (st' := [.inl (g 137 0 a)]) (M' := (P, wM4 g a, r0, n)) ok_X11_meet true 4 rfl (by refine ⟨?_, trivial⟩ <;> (omega)) ?_
    refine aj_if_eq (tgt := 351) (ax_dec2 (i := .ifCond .eq 68) (n := 3) ok_X11_meet rfl) (by decide) (fun c2 => ?_) (fun c2 => ?_)
    · refine aj_run (C := (-2147483648 ≤ a + 1 ∧ a + 1 ≤ 2147483647) ∧ True) (pc' := 269) (la' := [some (.inr (.inr (some (50, 0)))), some (.inl any), none, some (.inl (a + 1)), none]) (st' := []) (M' := (P, wM4 g a, r0, n)) ok_X11_meet true 2 rfl (by refine ⟨?_, trivial⟩ <;> (omega)) ?_
      refine aj_cast rfl rfl (congrArg (fun z9 => ((P, z9, r0, n) : ax_Mm)) (show wM4 g a = wM4 g (a + 1) from by (first | exact wM4_n (by omega) | exact wM4_y i1 (by omega) (by first | rw [if_pos (by omega)] | rw [if_neg (by omega)]) (by first | rw [bI_t (by omega)] | rw [bI_f (by omega)]) rfl))) ?_
      refine ih269 (a + 1) ?_ ?_
      · omega
      · omega
    · refine aj_run (C := (0 ≤ a ∧ a < n 138 0) ∧ True) (pc' := 297) (la' := [some (.inr (.inr (some (50, 0)))), some (.inl any), none, some (.inl a), none]) (st' := [.inl (g 138 0 a), .inl a, .inr (.inr (some (130, 0)))]) (M' := (P, wM4 g a, r0, n)) ok_X11_meet true 7 rfl (by refine ⟨?_, trivial⟩ <;> (omega)) ?_
      refine aj_if_eq (tgt := 311) (ax_dec2 (i := .ifCond .eq 14) (n := 3) ok_X11_meet rfl) (by decide) (fun c3 => ?_) (fun c3 => ?_)
      · refine aj_run (C := (0 ≤ a ∧ a < n 130 0) ∧ True) (pc' := 317) (la' := [some (.inr (.inr (some (50, 0)))), some (.inl any), none, some (.inl a), none]) (st' := [.inl ((wM4 g a) 130 0 a), .inl a, .inr (.inr (some (130, 0)))]) (M' := (P, wM4 g a, r0, n)) ok_X11_meet true 4 rfl (by refine ⟨?_, trivial⟩ <;> (omega)) ?_
        refine aj_cast rfl (congrArg (fun (z9 : Int) => ([.inl z9, .inl a, .inr (.inr (some (130, 0)))] : List ax_V)) (show (wM4 g a) 130 0 a = g 130 0 a from wM4_at)) rfl ?_
        refine aj_run (C := (0 ≤ a ∧ a < n 130 0) ∧ (0 ≤ a ∧ a < n 132 0) ∧ True) (pc' := 325) (la' := [some (.inr (.inr (some (50, 0)))), some (.inl any), none, some (.inl a), none]) (st' := [.inl ((wM4 g a) 132 0 a), .inl a, .inr (.inr (some (132, 0)))]) (M' := (P, ax_u3 (wM4 g a) 130 0 a (g 130 0 a), r0, n)) ok_X11_meet true 6 rfl (by refine ⟨?_, ?_, trivial⟩ <;> (omega)) ?_
        refine aj_cast rfl (congrArg (fun (z9 : Int) => ([.inl z9, .inl a, .inr (.inr (some (132, 0)))] : List ax_V)) (show (wM4 g a) 132 0 a = g 132 0 a from wM4_at)) rfl ?_
        refine aj_run (C := (0 ≤ a ∧ a < n 138 0) ∧ True) (pc' := 331) (la' := [some (.inr (.inr (some (50, 0)))), some (.inl any), none, some (.inl a), none]) (st' := [.inl (g 138 0 a), .inl (g 132 0 a), .inl a, .inr (.inr (some (132, 0)))]) (M' := (P, ax_u3 (wM4 g a) 130 0 a (g 130 0 a), r0, n)) ok_X11_meet true 4 rfl (by refine ⟨?_, trivial⟩ <;> (omega)) ?_
        refine aj_if_eq (tgt := 338) (ax_dec2 (i := .ifCond .eq 7) (n := 3) ok_X11_meet rfl) (by decide) (fun c4 => ?_) (fun c4 => ?_)
        · refine aj_run (C := True) (pc' := 339) (la' := [some (.inr (.inr (some (50, 0)))), some (.inl any), none, some (.inl a), none]) (st' := [.inl 0, .inl (g 132 0 a), .inl a, .inr (.inr (some (132, 0)))]) (M' := (P, ax_u3 (wM4 g a) 130 0 a (g 130 0 a), r0, n)) ok_X11_meet true 1 rfl trivial ?_
          refine aj_run (C := True) (pc' := 340) (la' := [some (.inr (.inr (some (50, 0)))), some (.inl any), none, some (.inl a), none]) (st' := [.inl (Int.bmod ((g 132 0 a) + 0) 4294967296), .inl a, .inr (.inr (some (132, 0)))]) (M' := (P, ax_u3 (wM4 g a) 130 0 a (g 130 0 a), r0, n)) ok_X11_meet false 1 rfl trivial ?_
          refine aj_run (C := (0 ≤ a ∧ a < n 132 0) ∧ (0 ≤ a ∧ a < n 131 0) ∧ True) (pc' := 348) (la' := [some (.inr (.inr (some (50, 0)))), some (.inl any), none, some (.inl a), none]) (st' := [.inl ((wM4 g a) 131 0 a), .inl a, .inr (.inr (some (131, 0)))]) (M' := (P, ax_u3 (ax_u3 (wM4 g a) 130 0 a (g 130 0 a)) 132 0 a (Int.bmod ((g 132 0 a) + 0) 4294967296), r0, n)) ok_X11_meet true 6 rfl (by refine ⟨?_, ?_, trivial⟩ <;> (omega)) ?_
          refine aj_cast rfl (congrArg (fun (z9 : Int) => ([.inl z9, .inl a, .inr (.inr (some (131, 0)))] : List ax_V)) (show (wM4 g a) 131 0 a = g 131 0 a from wM4_at)) rfl ?_
          refine aj_run (C := True) (pc' := 349) (la' := [some (.inr (.inr (some (50, 0)))), some (.inl any), none, some (.inl a), none]) (st' := [.inl 1, .inl (g 131 0 a), .inl a, .inr (.inr (some (131, 0)))]) (M' := (P, ax_u3 (ax_u3 (wM4 g a) 130 0 a (g 130 0 a)) 132 0 a (Int.bmod ((g 132 0 a) + 0) 4294967296), r0, n)) ok_X11_meet true 1 rfl trivial ?_
          refine aj_run (C := True) (pc' := 350) (la' := [some (.inr (.inr (some (50, 0)))), some (.inl any), none, some (.inl a), none]) (st' := [.inl (Int.bmod ((g 131 0 a) + 1) 4294967296), .inl a, .inr (.inr (some (131, 0)))]) (M' := (P, ax_u3 (ax_u3 (wM4 g a) 130 0 a (g 130 0 a)) 132 0 a (Int.bmod ((g 132 0 a) + 0) 4294967296), r0, n)) ok_X11_meet false 1 rfl trivial ?_
          refine aj_run (C := (0 ≤ a ∧ a < n 131 0) ∧ (-2147483648 ≤ a + 1 ∧ a + 1 ≤ 2147483647) ∧ True) (pc' := 269) (la' := [some (.inr (.inr (some (50, 0)))), some (.inl any), none, some (.inl (a + 1)), none]) (st' := []) (M' := (P, ax_u3 (ax_u3 (ax_u3 (wM4 g a) 130 0 a (g 130 0 a)) 132 0 a (Int.bmod ((g 132 0 a) + 0) 4294967296)) 131 0 a (Int.bmod ((g 131 0 a) + 1) 4294967296), r0, n)) ok_X11_meet true 3 rfl (by refine ⟨?_, ?_, trivial⟩ <;> (omega)) ?_
          refine aj_cast rfl rfl (congrArg (fun z9 => ((P, z9, r0, n) : ax_Mm)) (show ax_u3 (ax_u3 (ax_u3 (wM4 g a) 130 0 a (g 130 0 a)) 132 0 a (Int.bmod ((g 132 0 a) + 0) 4294967296)) 131 0 a (Int.bmod ((g 131 0 a) + 1) 4294967296) = wM4 g (a + 1) from by (first | exact wM4_n (by omega) | exact wM4_y i1 (by omega) (by first | rw [if_pos (by omega)] | rw [if_neg (by omega)]) (by first | rw [bI_t (by omega)] | rw [bI_f (by omega)]) rfl))) ?_
          refine ih269 (a + 1) ?_ ?_
          · omega
          · omega
        · exact absurd c4 (by omega)
      · refine aj_run (C := (0 ≤ a ∧ a < n 130 0) ∧ True) (pc' := 307) (la' := [some (.inr (.inr (some (50, 0)))), some (.inl any), none, some (.inl a), none]) (st' := [.inl ((wM4 g a) 130 0 a), .inl 1, .inl a, .inr (.inr (some (130, 0)))]) (M' := (P, wM4 g a, r0, n)) ok_X11_meet true 5 rfl (by refine ⟨?_, trivial⟩ <;> (omega)) ?_
        refine aj_cast rfl (congrArg (fun (z9 : Int) => ([.inl z9, .inl 1, .inl a, .inr (.inr (some (130, 0)))] : List ax_V)) (show (wM4 g a) 130 0 a = g 130 0 a from wM4_at)) rfl ?_
        refine aj_run (C := (-2147483648 ≤ 1 - (g 130 0 a) ∧ 1 - (g 130 0 a) ≤ 2147483647) ∧ (0 ≤ a ∧ a < n 130 0) ∧ (0 ≤ a ∧ a < n 132 0) ∧ True) (pc' := 325) (la' := [some (.inr (.inr (some (50, 0)))), some (.inl any), none, some (.inl a), none]) (st' := [.inl ((wM4 g a) 132 0 a), .inl a, .inr (.inr (some (132, 0)))]) (M' := (P, ax_u3 (wM4 g a) 130 0 a (1 - (g 130 0 a)), r0, n)) ok_X11_meet true 8 rfl (by refine ⟨?_, ?_, ?_, trivial⟩ <;> (omega)) ?_
        refine aj_cast rfl (congrArg (fun (z9 : Int) => ([.inl z9, .inl a, .inr (.inr (some (132, 0)))] : List ax_V)) (show (wM4 g a) 132 0 a = g 132 0 a from wM4_at)) rfl ?_
        refine aj_run (C := (0 ≤ a ∧ a < n 138 0) ∧ True) (pc' := 331) (la' := [some (.inr (.inr (some (50, 0)))), some (.inl any), none, some (.inl a), none]) (st' := [.inl (g 138 0 a), .inl (g 132 0 a), .inl a, .inr (.inr (some (132, 0)))]) (M' := (P, ax_u3 (wM4 g a) 130 0 a (1 - (g 130 0 a)), r0, n)) ok_X11_meet true 4 rfl (by refine ⟨?_, trivial⟩ <;> (omega)) ?_
        refine aj_if_eq (tgt := 338) (ax_dec2 (i := .ifCond .eq 7) (n := 3) ok_X11_meet rfl) (by decide) (fun c5 => ?_) (fun c5 => ?_)
        · exact absurd c5 (by omega)
        · refine aj_run (C := True) (pc' := 339) (la' := [some (.inr (.inr (some (50, 0)))), some (.inl any), none, some (.inl a), none]) (st' := [.inl 1, .inl (g 132 0 a), .inl a, .inr (.inr (some (132, 0)))]) (M' := (P, ax_u3 (wM4 g a) 130 0 a (1 - (g 130 0 a)), r0, n)) ok_X11_meet true 2 rfl trivial ?_
          refine aj_run (C := True) (pc' := 340) (la' := [some (.inr (.inr (some (50, 0)))), some (.inl any), none, some (.inl a), none]) (st' := [.inl (Int.bmod ((g 132 0 a) + 1) 4294967296), .inl a, .inr (.inr (some (132, 0)))]) (M' := (P, ax_u3 (wM4 g a) 130 0 a (1 - (g 130 0 a)), r0, n)) ok_X11_meet false 1 rfl trivial ?_
          refine aj_run (C := (0 ≤ a ∧ a < n 132 0) ∧ (0 ≤ a ∧ a < n 131 0) ∧ True) (pc' := 348) (la' := [some (.inr (.inr (some (50, 0)))), some (.inl any), none, some (.inl a), none]) (st' := [.inl ((wM4 g a) 131 0 a), .inl a, .inr (.inr (some (131, 0)))]) (M' := (P, ax_u3 (ax_u3 (wM4 g a) 130 0 a (1 - (g 130 0 a))) 132 0 a (Int.bmod ((g 132 0 a) + 1) 4294967296), r0, n)) ok_X11_meet true 6 rfl (by refine ⟨?_, ?_, trivial⟩ <;> (omega)) ?_
          refine aj_cast rfl (congrArg (fun (z9 : Int) => ([.inl z9, .inl a, .inr (.inr (some (131, 0)))] : List ax_V)) (show (wM4 g a) 131 0 a = g 131 0 a from wM4_at)) rfl ?_
          refine aj_run (C := True) (pc' := 349) (la' := [some (.inr (.inr (some (50, 0)))), some (.inl any), none, some (.inl a), none]) (st' := [.inl 1, .inl (g 131 0 a), .inl a, .inr (.inr (some (131, 0)))]) (M' := (P, ax_u3 (ax_u3 (wM4 g a) 130 0 a (1 - (g 130 0 a))) 132 0 a (Int.bmod ((g 132 0 a) + 1) 4294967296), r0, n)) ok_X11_meet true 1 rfl trivial ?_
          refine aj_run (C := True) (pc' := 350) (la' := [some (.inr (.inr (some (50, 0)))), some (.inl any), none, some (.inl a), none]) (st' := [.inl (Int.bmod ((g 131 0 a) + 1) 4294967296), .inl a, .inr (.inr (some (131, 0)))]) (M' := (P, ax_u3 (ax_u3 (wM4 g a) 130 0 a (1 - (g 130 0 a))) 132 0 a (Int.bmod ((g 132 0 a) + 1) 4294967296), r0, n)) ok_X11_meet false 1 rfl trivial ?_
          refine aj_run (C := (0 ≤ a ∧ a < n 131 0) ∧ (-2147483648 ≤ a + 1 ∧ a + 1 ≤ 2147483647) ∧ True) (pc' := 269) (la' := [some (.inr (.inr (some (50, 0)))), some (.inl any), none, some (.inl (a + 1)), none]) (st' := []) (M' := (P, ax_u3 (ax_u3 (ax_u3 (wM4 g a) 130 0 a (1 - (g 130 0 a))) 132 0 a (Int.bmod ((g 132 0 a) + 1) 4294967296)) 131 0 a (Int.bmod ((g 131 0 a) + 1) 4294967296), r0, n)) ok_X11_meet true 3 rfl (by refine ⟨?_, ?_, trivial⟩ <;> (omega)) ?_
          refine aj_cast rfl rfl (congrArg (fun z9 => ((P, z9, r0, n) : ax_Mm)) (show ax_u3 (ax_u3 (ax_u3 (wM4 g a) 130 0 a (1 - (g 130 0 a))) 132 0 a (Int.bmod ((g 132 0 a) + 1) 4294967296)) 131 0 a (Int.bmod ((g 131 0 a) + 1) 4294967296) = wM4 g (a + 1) from by (first | exact wM4_n (by omega) | exact wM4_y i1 (by omega) (by first | rw [if_pos (by omega)] | rw [if_neg (by omega)]) (by first | rw [bI_t (by omega)] | rw [bI_f (by omega)]) rfl))) ?_
          refine ih269 (a + 1) ?_ ?_
          · omega
          · omega

set_option maxRecDepth 100000 in
set_option maxHeartbeats 4000000 in
theorem sp_meet (P : Nat → Int → Prop) (g : Nat → Int → Int → Int) (r0 : Nat → Int → Int → Option (Nat × Int)) (n : Nat → Int → Int) (hn : mLen n) (h2 : 0 ≤ g 50 0 2 ∧ g 50 0 2 ≤ 7) (hf : ∀ a, 0 ≤ a → a < g 50 0 2 → g 130 0 a = 0 ∨ g 130 0 a = 1) (hru : 0 ≤ g 50 0 11 ∧ g 50 0 11 ≤ 5) (hR : ∀ p, 0 ≤ p → p ≤ 2 → wRow1 g (3 * g 50 0 11 + p)) : ax_S yX11_meet cX11_meet 5 (some .boolean) 4 0 0 [.inr (.inr (some (50, 0)))] (P, g, r0, n) (fun r M' => r = some (.inl (wAny g (g 50 0 2))) ∧ ∃ g', M' = (P, g', r0, n) ∧ wAgr g' (wMeet g)) := by
  refine ax_S_of (own := 11) (by decide) rfl (fun h => absurd h (by decide)) rfl (Nat.le_of_ble_eq_true rfl) ?_
  change ax_J _ _ _ _ _ _ _ _ _ _ [some (.inr (.inr (some (50, 0)))), none, none, none, none] _ _
  refine seg_meet1 P g r0 n hn h2 ?_
  refine aj_run (C := True) (pc' := 164) (la' := [some (.inr (.inr (some (50, 0)))), some (.inl (wAny g (g 50 0 2))), some (.inl (wNxO g (g 50 0 2))), none, none]) (st' := []) (M' := (P, wMeetG g, r0, n)) ok_X11_meet true 3 rfl trivial ?_
  have e2 : wMeetG g 50 0 2 = g 50 0 2 := wMeetG_o (by decide) (fun _ => by decide)
  have e11 : wMeetG g 50 0 11 = g 50 0 11 := wMeetG_o (by decide) (fun _ => by decide)
  have hco : wCo g (wMeetG g) := ⟨fun o j => wMeetG_o (by decide) (fun h => absurd h (by decide)), fun o j => wMeetG_o (by decide) (fun h => absurd h (by decide))⟩
  refine seg_meet2 (wAny g (g 50 0 2)) (wNxO g (g 50 0 2)) P (wMeetG g) r0 n hn (by rw [e2]; exact h2) (by rw [e11]; exact hru) (fun p h1 h3 => by rw [e11]; exact wRow1_co hco (hR p h1 h3)) (by decide) ?_
  intro g1 hg1
  rw [e2] at hg1
  have f2 : g1 50 0 2 = g 50 0 2 := by rw [hg1 50 0 2 (by decide) (by decide), wM3_o (by decide) (by decide), e2]
  refine seg_meet3 (wAny g (g 50 0 2)) P g1 r0 n hn (by rw [f2]; exact h2) ?_ ?_
  · intro a h1 h3
    rw [f2] at h3
    have := hf a h1 h3
    rw [hg1 130 0 a (by decide) (by decide), wM3_o (by decide) (by decide), wMeetG_o (by decide) (fun h => absurd h (by decide))]
    exact this
  · refine aj_run (C := True) (pc' := 358) (la' := [some (.inr (.inr (some (50, 0)))), some (.inl (wAny g (g 50 0 2))), none, none, none]) (st' := [.inl (wAny g (g 50 0 2))]) (M' := (P, wM4 g1 (g1 50 0 2), r0, n)) ok_X11_meet true 1 rfl trivial ?_
    refine aj_ret (r := some (.inl (wAny g (g 50 0 2)))) (ax_dec2 (i := .ireturn) (n := 1) ok_X11_meet rfl) ⟨?_, ?_, by decide, by decide⟩ rfl
    · exact ⟨rfl, _, rfl, by rw [f2]; exact wM4_ag hg1⟩
    · exact ax_ro_b wAny_01
