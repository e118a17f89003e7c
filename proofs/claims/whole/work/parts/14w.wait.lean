/-! ===== what waits, in the reference's memory ===== -/
def yM (h : Nat → Int → Int → Int) (row : Int) (w em : List Int) (o nst : Int) (c : Int → Int) : Prop := (h 50 0 21 = (w.length : Int) ∧ ∀ (i : Nat) x, w[i]? = some x → h 120 0 ((w.length : Int) - 1 - i) = x) ∧ (h 50 0 25 = 160 * row ∧ h 50 0 26 = (em.length : Int) ∧ ∀ (k : Nat) x, em[k]? = some x → h 112 0 (160 * row + k) = x) ∧ h 50 0 22 = o ∧ h 50 0 23 = nst ∧ ∀ j, 0 ≤ j → j < 8 → h 124 0 j = c j
def TY (row : Int) : Nat → Int → Int → Prop := fun f o j => (f = 50 ∧ o = 0 ∧ 20 < j ∧ j < 27) ∨ (f = 120 ∧ o = 0) ∨ (f = 124 ∧ o = 0) ∨ (f = 112 ∧ o = 0 ∧ 160 * row ≤ j ∧ j < 160 * row + 160)
section YM
variable {g : Nat → Int → Int → Int} {row o nst x t : Int} {w em : List Int} {c : Int → Int}
theorem yM_em (h : yM g row w em o nst c) (hl : em.length < 160) : yM (ax_u3 (ax_u3 g 112 0 (g 50 0 25 + g 50 0 26) x) 50 0 26 (g 50 0 26 + 1)) row w (em ++ [x]) o nst c ∧ cFr (TY row) (ax_u3 (ax_u3 g 112 0 (g 50 0 25 + g 50 0 26) x) 50 0 26 (g 50 0 26 + 1)) g := by
  obtain ⟨⟨a1, a2⟩, ⟨b1, b2, b3⟩, d1, d2, d3⟩ := h
  have e : ∀ f p j, f ≠ 112 → ¬ (f = 50 ∧ j = 26) → ax_u3 (ax_u3 g 112 0 (g 50 0 25 + g 50 0 26) x) 50 0 26 (g 50 0 26 + 1) f p j = g f p j := fun f p j z1 z2 => by rw [ax_u3_n (by omega), ax_u3_n (by omega)]
  refine ⟨⟨⟨by rw [e 50 0 21 (by decide) (by omega)]; exact a1, fun i y hy => by rw [e 120 0 _ (by decide) (by omega)]; exact a2 i y hy⟩, ⟨by rw [e 50 0 25 (by decide) (by omega)]; exact b1, ?_, fun k y hy => ?_⟩, by rw [e 50 0 22 (by decide) (by omega)]; exact d1, by rw [e 50 0 23 (by decide) (by omega)]; exact d2, fun j z1 z2 => by rw [e 124 0 j (by decide) (by omega)]; exact d3 j z1 z2⟩, fun f p j z => ?_⟩
  · rw [ax_u3_s, b2, List.length_append]
    rfl
  · rw [ax_u3_n (by omega), b1, b2]
    by_cases ck : k < em.length
    · rw [List.getElem?_append_left ck] at hy
      rw [ax_u3_n (by omega)]
      exact b3 k y hy
    · rw [List.getElem?_append_right (by omega)] at hy
      by_cases ck2 : k = em.length
      · rw [ck2, Nat.sub_self] at hy
        have hy2 : x = y := Option.some.inj hy
        rw [ck2, ax_u3_s, hy2]
      · rw [List.getElem?_eq_none (by show 1 ≤ _; omega)] at hy
        cases hy
  · unfold TY at z
    rw [ax_u3_n (by omega), ax_u3_n (by omega)]
theorem yM_aw (h : yM g row w em o nst c) : yM (ax_u3 (ax_u3 g 120 0 (g 50 0 21) x) 50 0 21 (g 50 0 21 + 1)) row (x :: w) em o nst c ∧ cFr (TY row) (ax_u3 (ax_u3 g 120 0 (g 50 0 21) x) 50 0 21 (g 50 0 21 + 1)) g := by
  obtain ⟨⟨a1, a2⟩, ⟨b1, b2, b3⟩, d1, d2, d3⟩ := h
  have e : ∀ f p j, f ≠ 120 → ¬ (f = 50 ∧ j = 21) → ax_u3 (ax_u3 g 120 0 (g 50 0 21) x) 50 0 21 (g 50 0 21 + 1) f p j = g f p j := fun f p j z1 z2 => by rw [ax_u3_n (by omega), ax_u3_n (by omega)]
  refine ⟨⟨⟨by rw [ax_u3_s, a1, List.length_cons]; omega, fun i y hy => ?_⟩, ⟨by rw [e 50 0 25 (by decide) (by omega)]; exact b1, by rw [e 50 0 26 (by decide) (by omega)]; exact b2, fun k y hy => by rw [e 112 0 _ (by decide) (by omega)]; exact b3 k y hy⟩, by rw [e 50 0 22 (by decide) (by omega)]; exact d1, by rw [e 50 0 23 (by decide) (by omega)]; exact d2, fun j z1 z2 => by rw [e 124 0 j (by decide) (by omega)]; exact d3 j z1 z2⟩, fun f p j z => by unfold TY at z; rw [ax_u3_n (by omega), ax_u3_n (by omega)]⟩
  rw [ax_u3_n (by omega), a1, List.length_cons]
  cases i with
  | zero =>
    have hy2 : x = y := Option.some.inj hy
    rw [show ((w.length + 1 : Nat) : Int) - 1 - ((0 : Nat) : Int) = w.length by omega, ax_u3_s, hy2]
  | succ i =>
    have hy : w[i]? = some y := hy
    have hi : i < w.length := (List.getElem?_eq_some_iff.mp hy).1
    rw [ax_u3_n (by omega), show ((w.length + 1 : Nat) : Int) - 1 - ((i + 1 : Nat) : Int) = (w.length : Int) - 1 - i by omega]
    exact a2 i y hy
theorem yM_po (h : yM g row (t :: w) em o nst c) : yM (ax_u3 g 50 0 21 (g 50 0 21 - 1)) row w em o nst c ∧ g 120 0 (g 50 0 21 - 1) = t := by
  obtain ⟨⟨a1, a2⟩, ⟨b1, b2, b3⟩, d1, d2, d3⟩ := h
  rw [List.length_cons] at a1 a2
  refine ⟨⟨⟨by rw [ax_u3_s, a1]; omega, fun i y hy => ?_⟩, ⟨by rw [ax_u3_n (by omega)]; exact b1, by rw [ax_u3_n (by omega)]; exact b2, fun k y hy => by rw [ax_u3_n (by omega)]; exact b3 k y hy⟩, by rw [ax_u3_n (by omega)]; exact d1, by rw [ax_u3_n (by omega)]; exact d2, fun j z1 z2 => by rw [ax_u3_n (by omega)]; exact d3 j z1 z2⟩, ?_⟩
  · have := a2 (i + 1) y hy
    rw [ax_u3_n (by omega), ← this]
    congr 1
    omega
  · have := a2 0 t rfl
    rw [← this, a1]
    congr 1
    omega
theorem yM_o (h : yM g row w em o nst c) : yM (ax_u3 g 50 0 22 x) row w em x nst c := by
  obtain ⟨⟨a1, a2⟩, ⟨b1, b2, b3⟩, d1, d2, d3⟩ := h
  exact ⟨⟨by rw [ax_u3_n (by omega)]; exact a1, fun i y hy => by rw [ax_u3_n (by omega)]; exact a2 i y hy⟩, ⟨by rw [ax_u3_n (by omega)]; exact b1, by rw [ax_u3_n (by omega)]; exact b2, fun k y hy => by rw [ax_u3_n (by omega)]; exact b3 k y hy⟩, ax_u3_s, by rw [ax_u3_n (by omega)]; exact d2, fun j z1 z2 => by rw [ax_u3_n (by omega)]; exact d3 j z1 z2⟩
theorem yM_n (h : yM g row w em o nst c) : yM (ax_u3 g 50 0 23 x) row w em o x c := by
  obtain ⟨⟨a1, a2⟩, ⟨b1, b2, b3⟩, d1, d2, d3⟩ := h
  exact ⟨⟨by rw [ax_u3_n (by omega)]; exact a1, fun i y hy => by rw [ax_u3_n (by omega)]; exact a2 i y hy⟩, ⟨by rw [ax_u3_n (by omega)]; exact b1, by rw [ax_u3_n (by omega)]; exact b2, fun k y hy => by rw [ax_u3_n (by omega)]; exact b3 k y hy⟩, by rw [ax_u3_n (by omega)]; exact d1, ax_u3_s, fun j z1 z2 => by rw [ax_u3_n (by omega)]; exact d3 j z1 z2⟩
theorem yM_c {q : Int} (h : yM g row w em o nst c) : yM (ax_u3 g 124 0 q x) row w em o nst (wUp c q x) := by
  obtain ⟨⟨a1, a2⟩, ⟨b1, b2, b3⟩, d1, d2, d3⟩ := h
  refine ⟨⟨by rw [ax_u3_n (by omega)]; exact a1, fun i y hy => by rw [ax_u3_n (by omega)]; exact a2 i y hy⟩, ⟨by rw [ax_u3_n (by omega)]; exact b1, by rw [ax_u3_n (by omega)]; exact b2, fun k y hy => by rw [ax_u3_n (by omega)]; exact b3 k y hy⟩, by rw [ax_u3_n (by omega)]; exact d1, by rw [ax_u3_n (by omega)]; exact d2, fun j z1 z2 => ?_⟩
  show _ = (if j = q then x else c j)
  by_cases cj : j = q
  · rw [cj, ax_u3_s, if_pos rfl]
  · rw [ax_u3_n (by omega), if_neg cj]
    exact d3 j z1 z2
end YM
set_option maxRecDepth 100000 in
set_option maxHeartbeats 4000000 in
theorem sp_emit (x : Int) (row : Int) (w em : List Int) (o nst : Int) (c : Int → Int) (P : Nat → Int → Prop) (g : Nat → Int → Int → Int) (r0 : Nat → Int → Int → Option (Nat × Int)) (n : Nat → Int → Int) (hn : mLen n) (hr : 0 ≤ row ∧ row < 18) (hM : yM g row w em o nst c) (hl : em.length < 160) : ax_S yX11_emit cX11_emit 2 none 0 0 0 [.inr (.inr (some (50, 0))), .inl x] (P, g, r0, n) (fun r M' => r = none ∧ ∃ g', M' = (P, g', r0, n) ∧ cFr (TY row) g' g ∧ yM g' row w (em ++ [x]) o nst c) := by
  have n112 : n 112 0 = 2880 := hn (112, 2880) (by decide)
  obtain ⟨⟨m1, m2⟩, ⟨m3, m4, m5⟩, m6, m7, m8⟩ := id hM
  refine ax_S_of (own := 11) (by decide) rfl (fun h => absurd h (by decide)) rfl (Nat.le_of_ble_eq_true rfl) ?_
  change ax_J _ _ _ _ _ _ _ _ _ _ [some (.inr (.inr (some (50, 0)))), some (.inl x)] _ _
  refine aj_run (C := (-2147483648 ≤ (g 50 0 25) + (g 50 0 26) ∧ (g 50 0 25) + (g 50 0 26) ≤ 2147483647) ∧ (0 ≤ (g 50 0 25) + (g 50 0 26) ∧ (g 50 0 25) + (g 50 0 26) < n 112 0) ∧ (-2147483648 ≤ (g 50 0 26) + 1 ∧ (g 50 0 26) + 1 ≤ 2147483647) ∧ True) (pc' := 25) (la' := [some (.inr (.inr (some (50, 0)))), some (.inl x)]) (st' := []) (M' := (P, ax_u3 (ax_u3 g 112 0 ((g 50 0 25) + (g 50 0 26)) x) 50 0 26 ((g 50 0 26) + 1), r0, n)) ok_X11_emit true 15 rfl (by refine ⟨?_, ?_, ?_, trivial⟩ <;> (omega)) ?_
  refine aj_ret (r := none) (ax_dec2 (i := .return_) (n := 1) ok_X11_emit rfl) ⟨?_, ?_, by decide, by decide⟩ rfl
  · exact ⟨rfl, _, rfl, (yM_em hM hl).2, (yM_em hM hl).1⟩
  · exact trivial

set_option maxRecDepth 100000 in
set_option maxHeartbeats 4000000 in
theorem sp_await (x : Int) (row : Int) (w em : List Int) (o nst : Int) (c : Int → Int) (P : Nat → Int → Prop) (g : Nat → Int → Int → Int) (r0 : Nat → Int → Int → Option (Nat × Int)) (n : Nat → Int → Int) (hn : mLen n) (hr : 0 ≤ row ∧ row < 18) (hM : yM g row w em o nst c) (hl : w.length < 170) : ax_S yX11_await cX11_await 2 none 0 0 0 [.inr (.inr (some (50, 0))), .inl x] (P, g, r0, n) (fun r M' => r = none ∧ ∃ g', M' = (P, g', r0, n) ∧ cFr (TY row) g' g ∧ yM g' row (x :: w) em o nst c) := by
  have n120 : n 120 0 = 170 := hn (120, 170) (by decide)
  obtain ⟨⟨m1, m2⟩, ⟨m3, m4, m5⟩, m6, m7, m8⟩ := id hM
  refine ax_S_of (own := 11) (by decide) rfl (fun h => absurd h (by decide)) rfl (Nat.le_of_ble_eq_true rfl) ?_
  change ax_J _ _ _ _ _ _ _ _ _ _ [some (.inr (.inr (some (50, 0)))), some (.inl x)] _ _
  refine aj_run (C := (0 ≤ g 50 0 21 ∧ g 50 0 21 < n 120 0) ∧ (-2147483648 ≤ (g 50 0 21) + 1 ∧ (g 50 0 21) + 1 ≤ 2147483647) ∧ True) (pc' := 20) (la' := [some (.inr (.inr (some (50, 0)))), some (.inl x)]) (st' := []) (M' := (P, ax_u3 (ax_u3 g 120 0 (g 50 0 21) x) 50 0 21 ((g 50 0 21) + 1), r0, n)) ok_X11_await true 12 rfl (by refine ⟨?_, ?_, trivial⟩ <;> (omega)) ?_
  refine aj_ret (r := none) (ax_dec2 (i := .return_) (n := 1) ok_X11_await rfl) ⟨?_, ?_, by decide, by decide⟩ rfl
  · exact ⟨rfl, _, rfl, (yM_aw hM).2, (yM_aw hM).1⟩
  · exact trivial

set_option maxRecDepth 100000 in
set_option maxHeartbeats 4000000 in
theorem sp_doAll (r : Int) (row : Int) (w em : List Int) (o nst : Int) (c : Int → Int) (P : Nat → Int → Prop) (g : Nat → Int → Int → Int) (r0 : Nat → Int → Int → Option (Nat × Int)) (n : Nat → Int → Int) (hn : mLen n) (hr : 0 ≤ row ∧ row < 18) (hM : yM g row w em o nst c) (hl : w.length + em.length ≤ 160) (ho : (w.length : Int) - 500 ≤ o ∧ o ≤ 500) : ax_S yX11_doAll cX11_doAll 2 none 1 0 0 [.inr (.inr (some (50, 0))), .inl r] (P, g, r0, n) (fun r9 M' => r9 = none ∧ ∃ g', M' = (P, g', r0, n) ∧ cFr (TY row) g' g ∧ yM g' row (yPop r w em o).1 (yPop r w em o).2.1 (yPop r w em o).2.2 nst c) := by
  have n120 : n 120 0 = 170 := hn (120, 170) (by decide)
  obtain ⟨⟨m1, m2⟩, ⟨m3, m4, m5⟩, m6, m7, m8⟩ := id hM
  refine ax_S_of (own := 11) (by decide) rfl (fun h => absurd h (by decide)) rfl (Nat.le_of_ble_eq_true rfl) ?_
  change ax_J _ _ _ _ _ _ _ _ _ _ [some (.inr (.inr (some (50, 0)))), some (.inl r)] _ _
  refine aj_loop (σ := (Nat → Int → Int → Int)) (fun xL => cFr (TY row) xL g ∧ ∃ w1 em1 o1, yM xL row w1 em1 o1 nst c ∧ yPop r w1 em1 o1 = yPop r w em o ∧ w1.length + em1.length = w.length + em.length ∧ ((w1.length : Int) - 500 ≤ o1 ∧ o1 ≤ 500)) (fun xL => (xL 50 0 21).toNat) (fun xL => [some (.inr (.inr (some (50, 0)))), some (.inl r)]) (fun xL => []) (fun xL => (P, xL, r0, n)) ?_ (g) ?_
  rotate_left
  · (try dsimp only); exact ⟨fun _ _ _ _ => rfl, w, em, o, hM, rfl, rfl, ho⟩
  rintro g1 hI ih0
  try dsimp only at hI ih0
  obtain ⟨a1, w1, em1, o1, a2, a3, a4, a5⟩ := hI
  change ax_J _ _ _ _ _ _ _ _ _ 0 [some (.inr (.inr (some (50, 0)))), some (.inl r)] [] (P, g1, r0, n)
  obtain ⟨⟨k1, k2⟩, ⟨k3, k4, k5⟩, k6, k7, k8⟩ := id a2
  refine aj_run (C := True) (pc' := 4) (la' := [some (.inr (.inr (some (50, 0)))), some (.inl r)]) (st' := [.inl (g1 50 0 21)]) (M' := (P, g1, r0, n)) ok_X11_doAll true 2 rfl trivial ?_
  refine aj_if_le (tgt := 109) (ax_dec2 (i := .ifCond .le 105) (n := 3) ok_X11_doAll rfl) (by decide) (fun c1 => ?_) (fun c1 => ?_)
  · refine aj_ret (r := none) (ax_dec2 (i := .return_) (n := 1) ok_X11_doAll rfl) ⟨?_, ?_, by decide, by decide⟩ rfl
    · (have hz : yPop r w1 em1 o1 = (w1, em1, o1) := (by cases w1 with | nil => rfl | cons t0 w0 => exact absurd k1 (by rw [List.length_cons]; omega)); exact ⟨rfl, g1, rfl, a1, by rw [← a3, hz]; exact a2⟩)
    · exact trivial
  · obtain ⟨t, w2, hw1⟩ : ∃ t w2, w1 = t :: w2 := by
      cases w1 with
      | nil => exact absurd k1 (by show ¬ g1 50 0 21 = ((0 : Nat) : Int); omega)
      | cons t w2 => exact ⟨t, w2, rfl⟩
    subst hw1
    obtain ⟨hpo, htop⟩ := yM_po a2
    rw [List.length_cons] at k1 a4 a5
    refine aj_run (C := (-2147483648 ≤ (g1 50 0 21) - 1 ∧ (g1 50 0 21) - 1 ≤ 2147483647) ∧ (0 ≤ (g1 50 0 21) - 1 ∧ (g1 50 0 21) - 1 < n 120 0) ∧ True) (pc' := 20) (la' := [some (.inr (.inr (some (50, 0)))), some (.inl r)]) (st' := [.inl 30, .inl (g1 120 0 ((g1 50 0 21) - 1))]) (M' := (P, g1, r0, n)) ok_X11_doAll true 8 rfl (by refine ⟨?_, ?_, trivial⟩ <;> (omega)) ?_
    refine aj_icmp_eq (tgt := 109) (ax_dec2 (i := .if_icmp .eq 89) (n := 3) ok_X11_doAll rfl) (by decide) (fun c2 => ?_) (fun c2 => ?_)
    · refine aj_ret (r := none) (ax_dec2 (i := .return_) (n := 1) ok_X11_doAll rfl) ⟨?_, ?_, by decide, by decide⟩ rfl
      · (have hz : yPop r (t :: w2) em1 o1 = (t :: w2, em1, o1) := yPop_n (fun z => by rw [← htop] at z; omega); exact ⟨rfl, g1, rfl, a1, by rw [← a3, hz]; exact a2⟩)
      · exact trivial
    · refine aj_run (C := (-2147483648 ≤ (g1 50 0 21) - 1 ∧ (g1 50 0 21) - 1 ≤ 2147483647) ∧ (0 ≤ (g1 50 0 21) - 1 ∧ (g1 50 0 21) - 1 < n 120 0) ∧ True) (pc' := 34) (la' := [some (.inr (.inr (some (50, 0)))), some (.inl r)]) (st' := [.inl (g1 120 0 ((g1 50 0 21) - 1))]) (M' := (P, g1, r0, n)) ok_X11_doAll true 7 rfl (by refine ⟨?_, ?_, trivial⟩ <;> (omega)) ?_
      refine aj_callS (av := [.inl (g1 120 0 ((g1 50 0 21) - 1))]) (st := []) cal_X11_rank lk_11_98 stc_X11_rank (sp_rank (g1 120 0 ((g1 50 0 21) - 1)) _ _ _ _) ⟨by decide, by decide, by decide, by decide⟩ (Nat.le_of_ble_eq_true rfl) (ax_dec2 (i := .invokestatic 98) (n := 3) ok_X11_doAll rfl) (fun r M' hq => ?_)
      obtain ⟨rfl, rfl⟩ := hq
      change ax_J _ _ _ _ _ _ _ _ _ 37 [some (.inr (.inr (some (50, 0)))), some (.inl r)] [.inl (wRank (g1 120 0 ((g1 50 0 21) - 1)))] (P, g1, r0, n)
      refine aj_run (C := True) (pc' := 38) (la' := [some (.inr (.inr (some (50, 0)))), some (.inl r)]) (st' := [.inl r, .inl (wRank (g1 120 0 ((g1 50 0 21) - 1)))]) (M' := (P, g1, r0, n)) ok_X11_doAll true 1 rfl trivial ?_
      refine aj_icmp_lt (tgt := 109) (ax_dec2 (i := .if_icmp .lt 71) (n := 3) ok_X11_doAll rfl) (by decide) (fun c3 => ?_) (fun c3 => ?_)
      · refine aj_ret (r := none) (ax_dec2 (i := .return_) (n := 1) ok_X11_doAll rfl) ⟨?_, ?_, by decide, by decide⟩ rfl
        · (have hz : yPop r (t :: w2) em1 o1 = (t :: w2, em1, o1) := yPop_n (fun z => by rw [← htop] at z; omega); exact ⟨rfl, g1, rfl, a1, by rw [← a3, hz]; exact a2⟩)
        · exact trivial
      · refine aj_run (C := (-2147483648 ≤ (g1 50 0 21) - 1 ∧ (g1 50 0 21) - 1 ≤ 2147483647) ∧ (0 ≤ (g1 50 0 21) - 1 ∧ (g1 50 0 21) - 1 < n 120 0) ∧ True) (pc' := 67) (la' := [some (.inr (.inr (some (50, 0)))), some (.inl r)]) (st' := [.inl 12, .inl (g1 120 0 ((g1 50 0 21) - 1)), .inl (g1 50 0 22), .inr (.inr (some (50, 0)))]) (M' := (P, ax_u3 g1 50 0 21 ((g1 50 0 21) - 1), r0, n)) ok_X11_doAll true 15 rfl (by refine ⟨?_, ?_, trivial⟩ <;> (omega)) ?_
        refine aj_icmp_eq (tgt := 84) (ax_dec2 (i := .if_icmp .eq 17) (n := 3) ok_X11_doAll rfl) (by decide) (fun c4 => ?_) (fun c4 => ?_)
        · refine aj_run (C := (-2147483648 ≤ (g1 50 0 22) - 1 ∧ (g1 50 0 22) - 1 ≤ 2147483647) ∧ (0 ≤ (g1 50 0 21) - 1 ∧ (g1 50 0 21) - 1 < n 120 0) ∧ True) (pc' := 103) (la' := [some (.inr (.inr (some (50, 0)))), some (.inl r)]) (st' := [.inl (g1 120 0 ((g1 50 0 21) - 1)), .inr (.inr (some (50, 0)))]) (M' := (P, ax_u3 (ax_u3 g1 50 0 21 ((g1 50 0 21) - 1)) 50 0 22 ((g1 50 0 22) - 1), r0, n)) ok_X11_doAll true 10 rfl (by refine ⟨?_, ?_, trivial⟩ <;> (omega)) ?_
          refine aj_callV (av := [.inl (g1 120 0 ((g1 50 0 21) - 1))]) (st := []) (f := 50) (o := 0) (ci := 11) cal_X11_emit lk_11_104 ins_X11_emit rfl sel_X11_emit rfl (fun c9 h9 _ => by simpa [ax_ok] using h9) (sp_emit (g1 120 0 ((g1 50 0 21) - 1)) row w2 em1 ((g1 50 0 22) - 1) nst c _ _ _ _ hn hr (yM_o hpo) (by omega)) ⟨by decide, by decide, by decide, by decide⟩ (Nat.le_of_ble_eq_true rfl) (ax_dec2 (i := .invokevirtual 104) (n := 3) ok_X11_doAll rfl) (fun r M' hq => ?_)
          obtain ⟨rfl, g3, rfl, fr3, hM3⟩ := hq
          rw [htop] at hM3
          change ax_J _ _ _ _ _ _ _ _ _ 106 [some (.inr (.inr (some (50, 0)))), some (.inl r)] [] (P, g3, r0, n)
          refine aj_run (C := True) (pc' := 0) (la' := [some (.inr (.inr (some (50, 0)))), some (.inl r)]) (st' := []) (M' := (P, g3, r0, n)) ok_X11_doAll true 1 rfl trivial ?_
          refine ih0 (g3) ?_ ?_
          · (try dsimp only); exact ⟨fun f q j z => (fr3 f q j z).trans (by unfold TY at z; rw [ax_u3_n (by omega), ax_u3_n (by omega)]; exact a1 f q j (by unfold TY; omega)), w2, em1 ++ [t], (g1 50 0 22) - 1, hM3, by rw [← a3, yPop_y ⟨by omega, by rw [← htop]; omega⟩]; congr 1; (first | rw [if_pos (by omega)] | rw [if_neg (by omega)]) <;> omega, by rw [List.length_append]; show w2.length + (em1.length + 1) = _; omega, by omega⟩
          · (have k9 := hM3.1.1; omega)
        · refine aj_run (C := (0 ≤ (g1 50 0 21) - 1 ∧ (g1 50 0 21) - 1 < n 120 0) ∧ True) (pc' := 81) (la' := [some (.inr (.inr (some (50, 0)))), some (.inl r)]) (st' := [.inl 18, .inl (g1 120 0 ((g1 50 0 21) - 1)), .inl (g1 50 0 22), .inr (.inr (some (50, 0)))]) (M' := (P, ax_u3 g1 50 0 21 ((g1 50 0 21) - 1), r0, n)) ok_X11_doAll true 6 rfl (by refine ⟨?_, trivial⟩ <;> (omega)) ?_
          refine aj_icmp_ne (tgt := 88) (ax_dec2 (i := .if_icmp .ne 7) (n := 3) ok_X11_doAll rfl) (by decide) (fun c5 => ?_) (fun c5 => ?_)
          · refine aj_run (C := (-2147483648 ≤ (g1 50 0 22) - 0 ∧ (g1 50 0 22) - 0 ≤ 2147483647) ∧ (0 ≤ (g1 50 0 21) - 1 ∧ (g1 50 0 21) - 1 < n 120 0) ∧ True) (pc' := 103) (la' := [some (.inr (.inr (some (50, 0)))), some (.inl r)]) (st' := [.inl (g1 120 0 ((g1 50 0 21) - 1)), .inr (.inr (some (50, 0)))]) (M' := (P, ax_u3 (ax_u3 g1 50 0 21 ((g1 50 0 21) - 1)) 50 0 22 ((g1 50 0 22) - 0), r0, n)) ok_X11_doAll true 9 rfl (by refine ⟨?_, ?_, trivial⟩ <;> (omega)) ?_
            refine aj_callV (av := [.inl (g1 120 0 ((g1 50 0 21) - 1))]) (st := []) (f := 50) (o := 0) (ci := 11) cal_X11_emit lk_11_104 ins_X11_emit rfl sel_X11_emit rfl (fun c9 h9 _ => by simpa [ax_ok] using h9) (sp_emit (g1 120 0 ((g1 50 0 21) - 1)) row w2 em1 ((g1 50 0 22) - 0) nst c _ _ _ _ hn hr (yM_o hpo) (by omega)) ⟨by decide, by decide, by decide, by decide⟩ (Nat.le_of_ble_eq_true rfl) (ax_dec2 (i := .invokevirtual 104) (n := 3) ok_X11_doAll rfl) (fun r M' hq => ?_)
            obtain ⟨rfl, g3, rfl, fr3, hM3⟩ := hq
            rw [htop] at hM3
            change ax_J _ _ _ _ _ _ _ _ _ 106 [some (.inr (.inr (some (50, 0)))), some (.inl r)] [] (P, g3, r0, n)
            refine aj_run (C := True) (pc' := 0) (la' := [some (.inr (.inr (some (50, 0)))), some (.inl r)]) (st' := []) (M' := (P, g3, r0, n)) ok_X11_doAll true 1 rfl trivial ?_
            refine ih0 (g3) ?_ ?_
            · (try dsimp only); exact ⟨fun f q j z => (fr3 f q j z).trans (by unfold TY at z; rw [ax_u3_n (by omega), ax_u3_n (by omega)]; exact a1 f q j (by unfold TY; omega)), w2, em1 ++ [t], (g1 50 0 22) - 0, hM3, by rw [← a3, yPop_y ⟨by omega, by rw [← htop]; omega⟩]; congr 1; (first | rw [if_pos (by omega)] | rw [if_neg (by omega)]) <;> omega, by rw [List.length_append]; show w2.length + (em1.length + 1) = _; omega, by omega⟩
            · (have k9 := hM3.1.1; omega)
          · refine aj_run (C := (-2147483648 ≤ (g1 50 0 22) - 1 ∧ (g1 50 0 22) - 1 ≤ 2147483647) ∧ (0 ≤ (g1 50 0 21) - 1 ∧ (g1 50 0 21) - 1 < n 120 0) ∧ True) (pc' := 103) (la' := [some (.inr (.inr (some (50, 0)))), some (.inl r)]) (st' := [.inl (g1 120 0 ((g1 50 0 21) - 1)), .inr (.inr (some (50, 0)))]) (M' := (P, ax_u3 (ax_u3 g1 50 0 21 ((g1 50 0 21) - 1)) 50 0 22 ((g1 50 0 22) - 1), r0, n)) ok_X11_doAll true 10 rfl (by refine ⟨?_, ?_, trivial⟩ <;> (omega)) ?_
            refine aj_callV (av := [.inl (g1 120 0 ((g1 50 0 21) - 1))]) (st := []) (f := 50) (o := 0) (ci := 11) cal_X11_emit lk_11_104 ins_X11_emit rfl sel_X11_emit rfl (fun c9 h9 _ => by simpa [ax_ok] using h9) (sp_emit (g1 120 0 ((g1 50 0 21) - 1)) row w2 em1 ((g1 50 0 22) - 1) nst c _ _ _ _ hn hr (yM_o hpo) (by omega)) ⟨by decide, by decide, by decide, by decide⟩ (Nat.le_of_ble_eq_true rfl) (ax_dec2 (i := .invokevirtual 104) (n := 3) ok_X11_doAll rfl) (fun r M' hq => ?_)
            obtain ⟨rfl, g3, rfl, fr3, hM3⟩ := hq
            rw [htop] at hM3
            change ax_J _ _ _ _ _ _ _ _ _ 106 [some (.inr (.inr (some (50, 0)))), some (.inl r)] [] (P, g3, r0, n)
            refine aj_run (C := True) (pc' := 0) (la' := [some (.inr (.inr (some (50, 0)))), some (.inl r)]) (st' := []) (M' := (P, g3, r0, n)) ok_X11_doAll true 1 rfl trivial ?_
            refine ih0 (g3) ?_ ?_
            · (try dsimp only); exact ⟨fun f q j z => (fr3 f q j z).trans (by unfold TY at z; rw [ax_u3_n (by omega), ax_u3_n (by omega)]; exact a1 f q j (by unfold TY; omega)), w2, em1 ++ [t], (g1 50 0 22) - 1, hM3, by rw [← a3, yPop_y ⟨by omega, by rw [← htop]; omega⟩]; congr 1; (first | rw [if_pos (by omega)] | rw [if_neg (by omega)]) <;> omega, by rw [List.length_append]; show w2.length + (em1.length + 1) = _; omega, by omega⟩
            · (have k9 := hM3.1.1; omega)

