def wOut (g' g : Nat → Int → Int → Int) : Prop := ∀ f o j, f ≠ 127 → f ≠ 128 → f ≠ 134 → f ≠ 137 → f ≠ 138 → g' f o j = g f o j
theorem wRow_N {g g' : Nat → Int → Int → Int} {p a : Int} (hg : wOut g' g) (hr : wRow1 g (3 * g 50 0 11 + p)) : wRow1 (wName g' a) (3 * wName g' a 50 0 11 + p) := by
  have hco2 : wCo g (wName g' a) := ⟨fun o j => by rw [wName_o (by decide)]; exact hg _ _ _ (by decide) (by decide) (by decide) (by decide) (by decide), fun o j => by rw [wName_o (by decide)]; exact hg _ _ _ (by decide) (by decide) (by decide) (by decide) (by decide)⟩
  rw [show wName g' a 50 0 11 = g 50 0 11 by rw [wName_o (by decide)]; exact hg _ _ _ (by decide) (by decide) (by decide) (by decide) (by decide)]
  exact wRow1_co hco2 hr
theorem wRow_W {g g' : Nat → Int → Int → Int} {p a row2 : Int} (hg : wOut g' g) (hr : wRow1 g (3 * g 50 0 11 + p)) : wRow1 (wWor (wName g' a) row2) (3 * wWor (wName g' a) row2 50 0 11 + p) := by
  have e : ∀ f o j, f ≠ 127 → wWor (wName g' a) row2 f o j = wName g' a f o j := fun f o j h => wWor_o h
  rw [e 50 0 11 (by decide)]
  exact wRow1_co ⟨fun o j => e _ _ _ (by decide), fun o j => e _ _ _ (by decide)⟩ (wRow_N hg hr)
def wClp (x : Int) : Int := if x < 0 then 0 else if 99 < x then 99 else x
def wHea (g : Nat → Int → Int → Int) (j : Int) : Int := Int.bmod (g 134 0 j + wClp (wEvA g 2 j)) 4294967296
def wWil (g : Nat → Int → Int → Int) (j : Int) : Int := if g 50 0 42 = 0 ∧ wTurns (g 103 0 j) (g 131 0 j) (g 107 0 j) ≠ 0 ∧ wEvA g 0 j ≠ 0 then 1 else 0
/-- heat and will of those that meet, of the first m -/
def wM3 (g : Nat → Int → Int → Int) (m : Int) : Nat → Int → Int → Int := fun f o j => if f = 134 ∧ o = 0 ∧ (0 ≤ j ∧ j < m) ∧ g 137 0 j ≠ 0 then wHea g j else if f = 138 ∧ o = 0 ∧ (0 ≤ j ∧ j < m) ∧ g 137 0 j ≠ 0 then wWil g j else g f o j
theorem wM3_o {g : Nat → Int → Int → Int} {m o j : Int} {f : Nat} (h1 : f ≠ 134) (h2 : f ≠ 138) : wM3 g m f o j = g f o j := by
  unfold wM3
  rw [if_neg (fun q => h1 q.1), if_neg (fun q => h2 q.1)]
theorem wM3_0 {g : Nat → Int → Int → Int} : wAgr g (wM3 g 0) := by
  intro f o j _ _
  unfold wM3
  rw [if_neg (by omega), if_neg (by omega)]
theorem wM3_at {g : Nat → Int → Int → Int} {a : Int} {f : Nat} : wM3 g a f 0 a = g f 0 a := by
  unfold wM3
  rw [if_neg (by omega), if_neg (by omega)]
theorem wM3_n {g g1 : Nat → Int → Int → Int} {a : Int} (i3 : wAgr g1 (wM3 g a)) (hm : g 137 0 a = 0) : wAgr g1 (wM3 g (a + 1)) := by
  intro f o j h1 h2
  rw [i3 f o j h1 h2]
  by_cases q : o = 0 ∧ j = a
  · obtain ⟨rfl, rfl⟩ := q
    rw [wM3_at]
    unfold wM3
    rw [if_neg (fun z => z.2.2.2 hm), if_neg (fun z => z.2.2.2 hm)]
  · unfold wM3
    have e : ∀ F : Nat, (f = F ∧ o = 0 ∧ (0 ≤ j ∧ j < a) ∧ g 137 0 j ≠ 0) ↔ (f = F ∧ o = 0 ∧ (0 ≤ j ∧ j < a + 1) ∧ g 137 0 j ≠ 0) := fun F => ⟨fun z => ⟨z.1, z.2.1, by omega, z.2.2.2⟩, fun z => ⟨z.1, z.2.1, by omega, z.2.2.2⟩⟩
    simp only [e]
theorem wM3_y {g g1 X : Nat → Int → Int → Int} {a w h : Int} (i1 : 0 ≤ a) (i3 : wAgr g1 (wM3 g a)) (hm : g 137 0 a ≠ 0) (hX : wAgr X g1) (hw : w = wWil g a) (hh : h = wHea g a) : wAgr (ax_u3 (ax_u3 X 138 0 a w) 134 0 a h) (wM3 g (a + 1)) := by
  intro f o j h1 h2
  by_cases q : o = 0 ∧ j = a
  · obtain ⟨rfl, rfl⟩ := q
    by_cases f1 : f = 134
    · subst f1
      rw [ax_u3_s, hh]
      unfold wM3
      rw [if_pos ⟨rfl, rfl, ⟨i1, by omega⟩, hm⟩]
    · rw [ax_u3_n (fun z => f1 z.1)]
      by_cases f2 : f = 138
      · subst f2
        rw [ax_u3_s, hw]
        unfold wM3
        rw [if_neg (fun z => f1 z.1), if_pos ⟨rfl, rfl, ⟨i1, by omega⟩, hm⟩]
      · rw [ax_u3_n (fun z => f2 z.1), hX f 0 j h1 h2, i3 f 0 j h1 h2, wM3_o f1 f2, wM3_o f1 f2]
  · rw [ax_u3_n (fun z => q ⟨z.2.1, z.2.2⟩), ax_u3_n (fun z => q ⟨z.2.1, z.2.2⟩), hX f o j h1 h2, i3 f o j h1 h2]
    unfold wM3
    have e : ∀ F : Nat, (f = F ∧ o = 0 ∧ (0 ≤ j ∧ j < a) ∧ g 137 0 j ≠ 0) ↔ (f = F ∧ o = 0 ∧ (0 ≤ j ∧ j < a + 1) ∧ g 137 0 j ≠ 0) := fun F => ⟨fun z => ⟨z.1, z.2.1, by omega, z.2.2.2⟩, fun z => ⟨z.1, z.2.1, by omega, z.2.2.2⟩⟩
    simp only [e]
theorem wX1 {g1 : Nat → Int → Int → Int} {a r2 : Int} : wAgr (wWor (wName g1 a) r2) g1 := fun f o j h1 h2 => by rw [wWor_o h1, wName_o h2]
theorem wX2 {g1 : Nat → Int → Int → Int} {a r2 r3 : Int} : wAgr (wWor (wWor (wName g1 a) r2) r3) g1 := fun f o j h1 h2 => by rw [wWor_o h1, wWor_o h1, wName_o h2]
set_option maxRecDepth 100000 in
set_option maxHeartbeats 40000000 in
theorem seg_meet2 {R : Room} {p0 : Nat → Int → Prop} {Q : ax_Q} {kc ks : Nat} (any nx : Int) (P : Nat → Int → Prop) (g : Nat → Int → Int → Int) (r0 : Nat → Int → Int → Option (Nat × Int)) (n : Nat → Int → Int) (hn : mLen n) (h2 : 0 ≤ g 50 0 2 ∧ g 50 0 2 ≤ 7) (hru : 0 ≤ g 50 0 11 ∧ g 50 0 11 ≤ 5) (hR : ∀ p, 0 ≤ p → p ≤ 2 → wRow1 g (3 * g 50 0 11 + p)) (hRm : 4 ≤ R.frames ∧ 64 * 4 ≤ R.locals ∧ kc ≤ R.cells ∧ ks ≤ R.slots) (k : ∀ g1, wAgr g1 (wM3 g (g 50 0 2)) → ax_J 11 cX11_meet 5 none R p0 Q kc ks 267 [some (.inr (.inr (some (50, 0)))), some (.inl any), none, none, none] [] (P, g1, r0, n)) : ax_J 11 cX11_meet 5 none R p0 Q kc ks 164 [some (.inr (.inr (some (50, 0)))), some (.inl any), some (.inl nx), none, none] [] (P, g, r0, n) := by
  have n137 : n 137 0 = 7 := hn (137, 7) (by decide)
  have n129 : n 129 0 = 7 := hn (129, 7) (by decide)
  have n130 : n 130 0 = 7 := hn (130, 7) (by decide)
  have n138 : n 138 0 = 7 := hn (138, 7) (by decide)
  have n134 : n 134 0 = 7 := hn (134, 7) (by decide)
  have n132 : n 132 0 = 7 := hn (132, 7) (by decide)
  have n131 : n 131 0 = 7 := hn (131, 7) (by decide)
  refine aj_run (C := True) (pc' := 166) (la' := [some (.inr (.inr (some (50, 0)))), some (.inl any), some (.inl nx), some (.inl 0), none]) (st' := []) (M' := (P, g, r0, n)) ok_X11_meet true 2 rfl trivial ?_
  refine aj_forget (la' := [some (.inr (.inr (some (50, 0)))), some (.inl any), some (.inl nx), some (.inl 0), none]) (by simp [ax_fg]) ?_
  refine aj_loop (σ := (Int) × (Nat → Int → Int → Int)) (fun x => 0 ≤ x.1 ∧ x.1 ≤ g 50 0 2 ∧ wAgr x.2 (wM3 g x.1)) (fun x => (g 50 0 2 - x.1).toNat) (fun x => [some (.inr (.inr (some (50, 0)))), some (.inl any), some (.inl nx), some (.inl x.1), none]) (fun x => []) (fun x => (P, x.2, r0, n)) ?_ (0, g) ?_
  rotate_left
  · exact ⟨by omega, by omega, wM3_0⟩
  rintro ⟨a, g1⟩ hI ih166
  try dsimp only at hI ih166
  obtain ⟨i1, i2, i3⟩ := hI
  change ax_J _ _ _ _ _ _ _ _ _ 166 [some (.inr (.inr (some (50, 0)))), some (.inl any), some (.inl nx), some (.inl a), none] [] (P, g1, r0, n)
  have hg : wOut g1 g := fun f o j h1 h2 h3 h4 h5 => by rw [i3 f o j h1 h2, wM3_o h3 h5]
  have e50 : ∀ q, g1 50 0 q = g 50 0 q := fun q => hg 50 0 q (by decide) (by decide) (by decide) (by decide) (by decide)
  have e2 := e50 2
  have e11 := e50 11
  have e42 := e50 42
  have e137 : g1 137 0 a = g 137 0 a := by rw [i3 137 0 a (by decide) (by decide), wM3_o (by decide) (by decide)]
  have e134 : g1 134 0 a = g 134 0 a := by rw [i3 134 0 a (by decide) (by decide), wM3_at]
  have eT : wTurns (g1 103 0 a) (g1 131 0 a) (g1 107 0 a) = wTurns (g 103 0 a) (g 131 0 a) (g 107 0 a) := by rw [hg 103 0 a (by decide) (by decide) (by decide) (by decide) (by decide), hg 131 0 a (by decide) (by decide) (by decide) (by decide) (by decide), hg 107 0 a (by decide) (by decide) (by decide) (by decide) (by decide)]
  have eV2 := wEv_1 (p := 2) (a := a) hg (hR 2 (by decide) (by decide))
  have eV0 := wEv_2 (p := 0) (a := a) (row2 := 3 * wName g1 a 50 0 11 + 2) hg (hR 0 (by decide) (by decide))
  refine aj_run (C := True) (pc' := 171) (la' := [some (.inr (.inr (some (50, 0)))), some (.inl any), some (.inl nx), some (.inl a), none]) (st' := [.inl (g1 50 0 2), .inl a]) (M' := (P, g1, r0, n)) ok_X11_meet true 3 rfl trivial ?_
  refine aj_icmp_ge (tgt := 267) (ax_dec2 (i := .if_icmp .ge 96) (n := 3) ok_X11_meet rfl) (by decide) (fun c1 => ?_) (fun c1 => ?_)
  · refine aj_forget (la' := [some (.inr (.inr (some (50, 0)))), some (.inl any), none, none, none]) (by simp [ax_fg]) ?_
    exact k g1 (by rw [show g 50 0 2 = a by omega]; exact i3)
  · refine aj_run (C := (0 ≤ a ∧ a < n 137 0) ∧ True) (pc' := 180) (la' := [some (.inr (.inr (some (50, 0)))), some (.inl any), some (.inl nx), some (.inl a), none]) (st' := [.inl (g1 137 0 a)]) (M' := (P, g1, r0, n)) ok_X11_meet true 4 rfl (by refine ⟨?_, trivial⟩ <;> (omega)) ?_
    refine aj_if_eq (tgt := 261) (ax_dec2 (i := .ifCond .eq 81) (n := 3) ok_X11_meet rfl) (by decide) (fun c2 => ?_) (fun c2 => ?_)
    · refine aj_run (C := (-2147483648 ≤ a + 1 ∧ a + 1 ≤ 2147483647) ∧ True) (pc' := 166) (la' := [some (.inr (.inr (some (50, 0)))), some (.inl any), some (.inl nx), some (.inl (a + 1)), none]) (st' := []) (M' := (P, g1, r0, n)) ok_X11_meet true 2 rfl (by refine ⟨?_, trivial⟩ <;> (omega)) ?_
      refine ih166 (a + 1, g1) ?_ ?_
      · exact ⟨by omega, by omega, wM3_n i3 (by omega)⟩
      · omega
    · refine aj_run (C := True) (pc' := 185) (la' := [some (.inr (.inr (some (50, 0)))), some (.inl any), some (.inl nx), some (.inl a), none]) (st' := [.inl a, .inr (.inr (some (50, 0)))]) (M' := (P, g1, r0, n)) ok_X11_meet true 2 rfl trivial ?_
      refine aj_callV (av := [.inl a]) (st := []) (f := 50) (o := 0) (ci := 11) cal_X11_name lk_11_247 ins_X11_name rfl sel_X11_name rfl (fun c9 h9 _ => by simpa [ax_ok] using h9) (sp_name a _ _ _ _ hn (by omega) (by omega)) ⟨by have := hRm.1; omega, by have := hRm.2.1; omega, by have := hRm.2.2.1; omega, by have := hRm.2.2.2; omega⟩ (Nat.le_of_ble_eq_true rfl) (ax_dec2 (i := .invokevirtual 247) (n := 3) ok_X11_meet rfl) (fun r M' hq => ?_)
      obtain ⟨rfl, rfl⟩ := hq
      change ax_J _ _ _ _ _ _ _ _ _ 188 [some (.inr (.inr (some (50, 0)))), some (.inl any), some (.inl nx), some (.inl a), none] [] (P, wName g1 a, r0, n)
      refine aj_run (C := True) (pc' := 190) (la' := [some (.inr (.inr (some (50, 0)))), some (.inl any), some (.inl nx), some (.inl a), none]) (st' := [.inl 2, .inr (.inr (some (50, 0)))]) (M' := (P, wName g1 a, r0, n)) ok_X11_meet true 2 rfl trivial ?_
      refine aj_callV (av := [.inl 2]) (st := []) (f := 50) (o := 0) (ci := 11) cal_X11_worthOf lk_11_250 ins_X11_worthOf rfl sel_X11_worthOf rfl (fun c9 h9 _ => by simpa [ax_ok] using h9) (sp_worthOf 2 _ _ _ _ hn (by omega) (by rw [wName_o (by decide)]; omega) (wRow_N hg (hR 2 (by decide) (by decide))).1) ⟨by have := hRm.1; omega, by have := hRm.2.1; omega, by have := hRm.2.2.1; omega, by have := hRm.2.2.2; omega⟩ (Nat.le_of_ble_eq_true rfl) (ax_dec2 (i := .invokevirtual 250) (n := 3) ok_X11_meet rfl) (fun r M' hq => ?_)
      obtain ⟨rfl, rfl⟩ := hq
      change ax_J _ _ _ _ _ _ _ _ _ 193 [some (.inr (.inr (some (50, 0)))), some (.inl any), some (.inl nx), some (.inl a), none] [.inl (wVal (wName g1 a) (3 * wName g1 a 50 0 11 + 2))] (P, wWor (wName g1 a) (3 * wName g1 a 50 0 11 + 2), r0, n)
      refine aj_run (C := True) (pc' := 195) (la' := [some (.inr (.inr (some (50, 0)))), some (.inl any), some (.inl nx), some (.inl a), some (.inl (wVal (wName g1 a) (3 * wName g1 a 50 0 11 + 2)))]) (st' := []) (M' := (P, wWor (wName g1 a) (3 * wName g1 a 50 0 11 + 2), r0, n)) ok_X11_meet true 1 rfl trivial ?_
      have join : ∀ X : Nat → Int → Int → Int, wAgr X g1 → ax_J 11 cX11_meet 5 none R p0 Q kc ks 228 [some (.inr (.inr (some (50, 0)))), some (.inl any), some (.inl nx), some (.inl a), some (.inl (wVal (wName g1 a) (3 * wName g1 a 50 0 11 + 2)))] [.inl (wWil g a), .inl a, .inr (.inr (some (138, 0)))] (P, X, r0, n) := by
        intro X hX
        have eX : X 134 0 a = g1 134 0 a := hX _ _ _ (by decide) (by decide)
        have hw01 : wWil g a = 0 ∨ wWil g a = 1 := by unfold wWil; split <;> simp
        refine aj_run (C := ((0 ≤ a ∧ a < n 138 0) ∧ (wWil g a = 0 ∨ wWil g a = 1)) ∧ (0 ≤ a ∧ a < n 134 0) ∧ True) (pc' := 238) (la' := [some (.inr (.inr (some (50, 0)))), some (.inl any), some (.inl nx), some (.inl a), some (.inl (wVal (wName g1 a) (3 * wName g1 a 50 0 11 + 2)))]) (st' := [.inl (wVal (wName g1 a) (3 * wName g1 a 50 0 11 + 2)), .inl (X 134 0 a), .inl a, .inr (.inr (some (134, 0)))]) (M' := (P, ax_u3 X 138 0 a (wWil g a), r0, n)) ok_X11_meet true 7 rfl (by refine ⟨?_, ?_, trivial⟩ <;> (omega)) ?_
        refine aj_if_ge (tgt := 245) (ax_dec2 (i := .ifCond .ge 7) (n := 3) ok_X11_meet rfl) (by decide) (fun c3 => ?_) (fun c3 => ?_)
        · refine aj_run (C := True) (pc' := 249) (la' := [some (.inr (.inr (some (50, 0)))), some (.inl any), some (.inl nx), some (.inl a), some (.inl (wVal (wName g1 a) (3 * wName g1 a 50 0 11 + 2)))]) (st' := [.inl 99, .inl (wVal (wName g1 a) (3 * wName g1 a 50 0 11 + 2)), .inl (X 134 0 a), .inl a, .inr (.inr (some (134, 0)))]) (M' := (P, ax_u3 X 138 0 a (wWil g a), r0, n)) ok_X11_meet true 2 rfl trivial ?_
          refine aj_icmp_le (tgt := 257) (ax_dec2 (i := .if_icmp .le 8) (n := 3) ok_X11_meet rfl) (by decide) (fun c4 => ?_) (fun c4 => ?_)
          · refine aj_run (C := True) (pc' := 259) (la' := [some (.inr (.inr (some (50, 0)))), some (.inl any), some (.inl nx), some (.inl a), some (.inl (wVal (wName g1 a) (3 * wName g1 a 50 0 11 + 2)))]) (st' := [.inl (wVal (wName g1 a) (3 * wName g1 a 50 0 11 + 2)), .inl (X 134 0 a), .inl a, .inr (.inr (some (134, 0)))]) (M' := (P, ax_u3 X 138 0 a (wWil g a), r0, n)) ok_X11_meet true 1 rfl trivial ?_
            refine aj_run (C := True) (pc' := 260) (la' := [some (.inr (.inr (some (50, 0)))), some (.inl any), some (.inl nx), some (.inl a), some (.inl (wVal (wName g1 a) (3 * wName g1 a 50 0 11 + 2)))]) (st' := [.inl (Int.bmod ((X 134 0 a) + (wVal (wName g1 a) (3 * wName g1 a 50 0 11 + 2))) 4294967296), .inl a, .inr (.inr (some (134, 0)))]) (M' := (P, ax_u3 X 138 0 a (wWil g a), r0, n)) ok_X11_meet false 1 rfl trivial ?_
            refine aj_run (C := (0 ≤ a ∧ a < n 134 0) ∧ (-2147483648 ≤ a + 1 ∧ a + 1 ≤ 2147483647) ∧ True) (pc' := 166) (la' := [some (.inr (.inr (some (50, 0)))), some (.inl any), some (.inl nx), some (.inl (a + 1)), some (.inl (wVal (wName g1 a) (3 * wName g1 a 50 0 11 + 2)))]) (st' := []) (M' := (P, ax_u3 (ax_u3 X 138 0 a (wWil g a)) 134 0 a (Int.bmod ((X 134 0 a) + (wVal (wName g1 a) (3 * wName g1 a 50 0 11 + 2))) 4294967296), r0, n)) ok_X11_meet true 3 rfl (by refine ⟨?_, ?_, trivial⟩ <;> (omega)) ?_
            refine aj_forget (la' := [some (.inr (.inr (some (50, 0)))), some (.inl any), some (.inl nx), some (.inl (a + 1)), none]) (by simp [ax_fg]) ?_
            refine ih166 (a + 1, ax_u3 (ax_u3 X 138 0 a (wWil g a)) 134 0 a (Int.bmod ((X 134 0 a) + (wVal (wName g1 a) (3 * wName g1 a 50 0 11 + 2))) 4294967296)) ?_ ?_
            · exact ⟨by omega, by omega, wM3_y i1 i3 (by omega) hX rfl (by unfold wHea wClp; rw [← eV2, ← e134, ← eX]; (repeat first | rw [if_pos (by omega)] | rw [if_neg (by omega)] | rw [bI_t (by omega)] | rw [bI_f (by omega)]))⟩
            · omega
          · refine aj_run (C := True) (pc' := 259) (la' := [some (.inr (.inr (some (50, 0)))), some (.inl any), some (.inl nx), some (.inl a), some (.inl (wVal (wName g1 a) (3 * wName g1 a 50 0 11 + 2)))]) (st' := [.inl 99, .inl (X 134 0 a), .inl a, .inr (.inr (some (134, 0)))]) (M' := (P, ax_u3 X 138 0 a (wWil g a), r0, n)) ok_X11_meet true 2 rfl trivial ?_
            refine aj_run (C := True) (pc' := 260) (la' := [some (.inr (.inr (some (50, 0)))), some (.inl any), some (.inl nx), some (.inl a), some (.inl (wVal (wName g1 a) (3 * wName g1 a 50 0 11 + 2)))]) (st' := [.inl (Int.bmod ((X 134 0 a) + 99) 4294967296), .inl a, .inr (.inr (some (134, 0)))]) (M' := (P, ax_u3 X 138 0 a (wWil g a), r0, n)) ok_X11_meet false 1 rfl trivial ?_
            refine aj_run (C := (0 ≤ a ∧ a < n 134 0) ∧ (-2147483648 ≤ a + 1 ∧ a + 1 ≤ 2147483647) ∧ True) (pc' := 166) (la' := [some (.inr (.inr (some (50, 0)))), some (.inl any), some (.inl nx), some (.inl (a + 1)), some (.inl (wVal (wName g1 a) (3 * wName g1 a 50 0 11 + 2)))]) (st' := []) (M' := (P, ax_u3 (ax_u3 X 138 0 a (wWil g a)) 134 0 a (Int.bmod ((X 134 0 a) + 99) 4294967296), r0, n)) ok_X11_meet true 3 rfl (by refine ⟨?_, ?_, trivial⟩ <;> (omega)) ?_
            refine aj_forget (la' := [some (.inr (.inr (some (50, 0)))), some (.inl any), some (.inl nx), some (.inl (a + 1)), none]) (by simp [ax_fg]) ?_
            refine ih166 (a + 1, ax_u3 (ax_u3 X 138 0 a (wWil g a)) 134 0 a (Int.bmod ((X 134 0 a) + 99) 4294967296)) ?_ ?_
            · exact ⟨by omega, by omega, wM3_y i1 i3 (by omega) hX rfl (by unfold wHea wClp; rw [← eV2, ← e134, ← eX]; (repeat first | rw [if_pos (by omega)] | rw [if_neg (by omega)] | rw [bI_t (by omega)] | rw [bI_f (by omega)]))⟩
            · omega
        · refine aj_run (C := True) (pc' := 259) (la' := [some (.inr (.inr (some (50, 0)))), some (.inl any), some (.inl nx), some (.inl a), some (.inl (wVal (wName g1 a) (3 * wName g1 a 50 0 11 + 2)))]) (st' := [.inl 0, .inl (X 134 0 a), .inl a, .inr (.inr (some (134, 0)))]) (M' := (P, ax_u3 X 138 0 a (wWil g a), r0, n)) ok_X11_meet true 2 rfl trivial ?_
          refine aj_run (C := True) (pc' := 260) (la' := [some (.inr (.inr (some (50, 0)))), some (.inl any), some (.inl nx), some (.inl a), some (.inl (wVal (wName g1 a) (3 * wName g1 a 50 0 11 + 2)))]) (st' := [.inl (Int.bmod ((X 134 0 a) + 0) 4294967296), .inl a, .inr (.inr (some (134, 0)))]) (M' := (P, ax_u3 X 138 0 a (wWil g a), r0, n)) ok_X11_meet false 1 rfl trivial ?_
          refine aj_run (C := (0 ≤ a ∧ a < n 134 0) ∧ (-2147483648 ≤ a + 1 ∧ a + 1 ≤ 2147483647) ∧ True) (pc' := 166) (la' := [some (.inr (.inr (some (50, 0)))), some (.inl any), some (.inl nx), some (.inl (a + 1)), some (.inl (wVal (wName g1 a) (3 * wName g1 a 50 0 11 + 2)))]) (st' := []) (M' := (P, ax_u3 (ax_u3 X 138 0 a (wWil g a)) 134 0 a (Int.bmod ((X 134 0 a) + 0) 4294967296), r0, n)) ok_X11_meet true 3 rfl (by refine ⟨?_, ?_, trivial⟩ <;> (omega)) ?_
          refine aj_forget (la' := [some (.inr (.inr (some (50, 0)))), some (.inl any), some (.inl nx), some (.inl (a + 1)), none]) (by simp [ax_fg]) ?_
          refine ih166 (a + 1, ax_u3 (ax_u3 X 138 0 a (wWil g a)) 134 0 a (Int.bmod ((X 134 0 a) + 0) 4294967296)) ?_ ?_
          · exact ⟨by omega, by omega, wM3_y i1 i3 (by omega) hX rfl (by unfold wHea wClp; rw [← eV2, ← e134, ← eX]; (repeat first | rw [if_pos (by omega)] | rw [if_neg (by omega)] | rw [bI_t (by omega)] | rw [bI_f (by omega)]))⟩
          · omega
      refine aj_run (C := True) (pc' := 204) (la' := [some (.inr (.inr (some (50, 0)))), some (.inl any), some (.inl nx), some (.inl a), some (.inl (wVal (wName g1 a) (3 * wName g1 a 50 0 11 + 2)))]) (st' := [.inl (g1 50 0 42), .inl a, .inr (.inr (some (138, 0)))]) (M' := (P, wWor (wName g1 a) (3 * wName g1 a 50 0 11 + 2), r0, n)) ok_X11_meet true 5 rfl trivial ?_
      refine aj_if_ne (tgt := 227) (ax_dec2 (i := .ifCond .ne 23) (n := 3) ok_X11_meet rfl) (by decide) (fun c5 => ?_) (fun c5 => ?_)
      · refine aj_run (C := True) (pc' := 228) (la' := [some (.inr (.inr (some (50, 0)))), some (.inl any), some (.inl nx), some (.inl a), some (.inl (wVal (wName g1 a) (3 * wName g1 a 50 0 11 + 2)))]) (st' := [.inl 0, .inl a, .inr (.inr (some (138, 0)))]) (M' := (P, wWor (wName g1 a) (3 * wName g1 a 50 0 11 + 2), r0, n)) ok_X11_meet true 1 rfl trivial ?_
        refine aj_cast rfl (congrArg (fun (z9 : Int) => ([.inl z9, .inl a, .inr (.inr (some (138, 0)))] : List ax_V)) (show 0 = wWil g a from by unfold wWil; rw [if_neg (by omega)])) rfl ?_
        exact join _ wX1
      · refine aj_run (C := True) (pc' := 209) (la' := [some (.inr (.inr (some (50, 0)))), some (.inl any), some (.inl nx), some (.inl a), some (.inl (wVal (wName g1 a) (3 * wName g1 a 50 0 11 + 2)))]) (st' := [.inl a, .inr (.inr (some (50, 0))), .inl a, .inr (.inr (some (138, 0)))]) (M' := (P, wWor (wName g1 a) (3 * wName g1 a 50 0 11 + 2), r0, n)) ok_X11_meet true 2 rfl trivial ?_
        refine aj_callV (av := [.inl a]) (st := [.inl a, .inr (.inr (some (138, 0)))]) (f := 50) (o := 0) (ci := 11) cal_X11_turns lk_11_253 ins_X11_turns rfl sel_X11_turns rfl (fun c9 h9 _ => by simpa [ax_ok] using h9) (sp_turns a _ _ _ _ hn (by omega)) ⟨by have := hRm.1; omega, by have := hRm.2.1; omega, by have := hRm.2.2.1; omega, by have := hRm.2.2.2; omega⟩ (Nat.le_of_ble_eq_true rfl) (ax_dec2 (i := .invokevirtual 253) (n := 3) ok_X11_meet rfl) (fun r M' hq => ?_)
        obtain ⟨rfl, rfl⟩ := hq
        change ax_J _ _ _ _ _ _ _ _ _ 212 [some (.inr (.inr (some (50, 0)))), some (.inl any), some (.inl nx), some (.inl a), some (.inl (wVal (wName g1 a) (3 * wName g1 a 50 0 11 + 2)))] [.inl (wTurns (g1 103 0 a) (g1 131 0 a) (g1 107 0 a)), .inl a, .inr (.inr (some (138, 0)))] (P, wWor (wName g1 a) (3 * wName g1 a 50 0 11 + 2), r0, n)
        refine aj_if_eq (tgt := 227) (ax_dec2 (i := .ifCond .eq 15) (n := 3) ok_X11_meet rfl) (by decide) (fun c6 => ?_) (fun c6 => ?_)
        · refine aj_run (C := True) (pc' := 228) (la' := [some (.inr (.inr (some (50, 0)))), some (.inl any), some (.inl nx), some (.inl a), some (.inl (wVal (wName g1 a) (3 * wName g1 a 50 0 11 + 2)))]) (st' := [.inl 0, .inl a, .inr (.inr (some (138, 0)))]) (M' := (P, wWor (wName g1 a) (3 * wName g1 a 50 0 11 + 2), r0, n)) ok_X11_meet true 1 rfl trivial ?_
          refine aj_cast rfl (congrArg (fun (z9 : Int) => ([.inl z9, .inl a, .inr (.inr (some (138, 0)))] : List ax_V)) (show 0 = wWil g a from by unfold wWil; rw [if_neg (by omega)])) rfl ?_
          exact join _ wX1
        · refine aj_run (C := True) (pc' := 217) (la' := [some (.inr (.inr (some (50, 0)))), some (.inl any), some (.inl nx), some (.inl a), some (.inl (wVal (wName g1 a) (3 * wName g1 a 50 0 11 + 2)))]) (st' := [.inl 0, .inr (.inr (some (50, 0))), .inl a, .inr (.inr (some (138, 0)))]) (M' := (P, wWor (wName g1 a) (3 * wName g1 a 50 0 11 + 2), r0, n)) ok_X11_meet true 2 rfl trivial ?_
          refine aj_callV (av := [.inl 0]) (st := [.inl a, .inr (.inr (some (138, 0)))]) (f := 50) (o := 0) (ci := 11) cal_X11_worthOf lk_11_250 ins_X11_worthOf rfl sel_X11_worthOf rfl (fun c9 h9 _ => by simpa [ax_ok] using h9) (sp_worthOf 0 _ _ _ _ hn (by omega) (by rw [wWor_o (by decide), wName_o (by decide)]; omega) (wRow_W hg (hR 0 (by decide) (by decide))).1) ⟨by have := hRm.1; omega, by have := hRm.2.1; omega, by have := hRm.2.2.1; omega, by have := hRm.2.2.2; omega⟩ (Nat.le_of_ble_eq_true rfl) (ax_dec2 (i := .invokevirtual 250) (n := 3) ok_X11_meet rfl) (fun r M' hq => ?_)
          obtain ⟨rfl, rfl⟩ := hq
          change ax_J _ _ _ _ _ _ _ _ _ 220 [some (.inr (.inr (some (50, 0)))), some (.inl any), some (.inl nx), some (.inl a), some (.inl (wVal (wName g1 a) (3 * wName g1 a 50 0 11 + 2)))] [.inl (wVal (wWor (wName g1 a) (3 * wName g1 a 50 0 11 + 2)) (3 * wWor (wName g1 a) (3 * wName g1 a 50 0 11 + 2) 50 0 11 + 0)), .inl a, .inr (.inr (some (138, 0)))] (P, wWor (wWor (wName g1 a) (3 * wName g1 a 50 0 11 + 2)) (3 * wWor (wName g1 a) (3 * wName g1 a 50 0 11 + 2) 50 0 11 + 0), r0, n)
          refine aj_if_eq (tgt := 227) (ax_dec2 (i := .ifCond .eq 7) (n := 3) ok_X11_meet rfl) (by decide) (fun c7 => ?_) (fun c7 => ?_)
          · refine aj_run (C := True) (pc' := 228) (la' := [some (.inr (.inr (some (50, 0)))), some (.inl any), some (.inl nx), some (.inl a), some (.inl (wVal (wName g1 a) (3 * wName g1 a 50 0 11 + 2)))]) (st' := [.inl 0, .inl a, .inr (.inr (some (138, 0)))]) (M' := (P, wWor (wWor (wName g1 a) (3 * wName g1 a 50 0 11 + 2)) (3 * wWor (wName g1 a) (3 * wName g1 a 50 0 11 + 2) 50 0 11 + 0), r0, n)) ok_X11_meet true 1 rfl trivial ?_
            refine aj_cast rfl (congrArg (fun (z9 : Int) => ([.inl z9, .inl a, .inr (.inr (some (138, 0)))] : List ax_V)) (show 0 = wWil g a from by unfold wWil; rw [if_neg (by omega)])) rfl ?_
            exact join _ wX2
          · refine aj_run (C := True) (pc' := 228) (la' := [some (.inr (.inr (some (50, 0)))), some (.inl any), some (.inl nx), some (.inl a), some (.inl (wVal (wName g1 a) (3 * wName g1 a 50 0 11 + 2)))]) (st' := [.inl 1, .inl a, .inr (.inr (some (138, 0)))]) (M' := (P, wWor (wWor (wName g1 a) (3 * wName g1 a 50 0 11 + 2)) (3 * wWor (wName g1 a) (3 * wName g1 a 50 0 11 + 2) 50 0 11 + 0), r0, n)) ok_X11_meet true 2 rfl trivial ?_
            refine aj_cast rfl (congrArg (fun (z9 : Int) => ([.inl z9, .inl a, .inr (.inr (some (138, 0)))] : List ax_V)) (show 1 = wWil g a from by unfold wWil; rw [if_pos ⟨by omega, by omega, by omega⟩])) rfl ?_
            exact join _ wX2

