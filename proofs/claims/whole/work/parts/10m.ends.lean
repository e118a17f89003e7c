def wAE (g : Nat → Int → Int → Int) (j : Int) : Int := bI (g 50 0 1 = 0 ∧ ((g 129 0 j = 0 ∧ g 130 0 j = 1) ∨ (g 129 0 j = 2 * g 50 0 0 ∧ g 130 0 j = 0)))
def wWb (g : Nat → Int → Int → Int) (j : Int) : Int := if wBacks (g 103 0 j) (g 133 0 j) (g 107 0 j) ≠ 0 ∨ wEvA g 1 j ≠ 0 then 1 else 0
/-- who is at an end, and who of them turns: of the first m -/
def wE1 (g : Nat → Int → Int → Int) (m : Int) : Nat → Int → Int → Int := fun f o j => if f = 137 ∧ o = 0 ∧ (0 ≤ j ∧ j < m) then wAE g j else if f = 138 ∧ o = 0 ∧ (0 ≤ j ∧ j < m) ∧ wAE g j ≠ 0 then wWb g j else g f o j
theorem wE1_o {g : Nat → Int → Int → Int} {m o j : Int} {f : Nat} (h1 : f ≠ 137) (h2 : f ≠ 138) : wE1 g m f o j = g f o j := by
  unfold wE1
  rw [if_neg (fun q => h1 q.1), if_neg (fun q => h2 q.1)]
theorem wE1_0 {g : Nat → Int → Int → Int} : wAgr g (wE1 g 0) := by
  intro f o j _ _
  unfold wE1
  rw [if_neg (by omega), if_neg (by omega)]
theorem wE1_x {g : Nat → Int → Int → Int} {a o j : Int} {f : Nat} (q : ¬ (o = 0 ∧ j = a)) : wE1 g a f o j = wE1 g (a + 1) f o j := by
  unfold wE1
  have e : ∀ F : Nat, (f = F ∧ o = 0 ∧ (0 ≤ j ∧ j < a)) ↔ (f = F ∧ o = 0 ∧ (0 ≤ j ∧ j < a + 1)) := fun F => ⟨fun z => ⟨z.1, z.2.1, by omega⟩, fun z => ⟨z.1, z.2.1, by omega⟩⟩
  have e' : ∀ F : Nat, (f = F ∧ o = 0 ∧ (0 ≤ j ∧ j < a) ∧ wAE g j ≠ 0) ↔ (f = F ∧ o = 0 ∧ (0 ≤ j ∧ j < a + 1) ∧ wAE g j ≠ 0) := fun F => ⟨fun z => ⟨z.1, z.2.1, by omega, z.2.2.2⟩, fun z => ⟨z.1, z.2.1, by omega, z.2.2.2⟩⟩
  simp only [e, e']
theorem wE1_n {g g1 : Nat → Int → Int → Int} {a v : Int} (i1 : 0 ≤ a) (i3 : wAgr g1 (wE1 g a)) (hv : v = wAE g a) (h0 : v = 0) : wAgr (ax_u3 g1 137 0 a v) (wE1 g (a + 1)) := by
  intro f o j h1 h2
  by_cases q : o = 0 ∧ j = a
  · obtain ⟨rfl, rfl⟩ := q
    by_cases f1 : f = 137
    · subst f1
      rw [ax_u3_s, hv]
      unfold wE1
      rw [if_pos ⟨rfl, rfl, i1, by omega⟩]
    · rw [ax_u3_n (fun z => f1 z.1), i3 f 0 j h1 h2]
      unfold wE1
      rw [if_neg (fun z => f1 z.1), if_neg (by omega), if_neg (fun z => f1 z.1), if_neg (fun z => z.2.2.2 (hv.symm.trans h0))]
  · rw [ax_u3_n (fun z => q ⟨z.2.1, z.2.2⟩), i3 f o j h1 h2]
    exact wE1_x q
theorem wE1_y {g g1 X : Nat → Int → Int → Int} {a v w : Int} (i1 : 0 ≤ a) (i3 : wAgr g1 (wE1 g a)) (hv : v = wAE g a) (h0 : v ≠ 0) (hX : wAgr X (ax_u3 g1 137 0 a v)) (hw : w = wWb g a) : wAgr (ax_u3 X 138 0 a w) (wE1 g (a + 1)) := by
  intro f o j h1 h2
  by_cases q : o = 0 ∧ j = a
  · obtain ⟨rfl, rfl⟩ := q
    by_cases f2 : f = 138
    · subst f2
      rw [ax_u3_s, hw]
      unfold wE1
      rw [if_neg (by omega), if_pos ⟨rfl, rfl, ⟨i1, by omega⟩, fun z => h0 (hv.trans z)⟩]
    · rw [ax_u3_n (fun z => f2 z.1), hX f 0 j h1 h2]
      by_cases f1 : f = 137
      · subst f1
        rw [ax_u3_s, hv]
        unfold wE1
        rw [if_pos ⟨rfl, rfl, i1, by omega⟩]
      · rw [ax_u3_n (fun z => f1 z.1), i3 f 0 j h1 h2, wE1_o f1 f2, wE1_o f1 f2]
  · rw [ax_u3_n (fun z => q ⟨z.2.1, z.2.2⟩), hX f o j h1 h2, ax_u3_n (fun z => q ⟨z.2.1, z.2.2⟩), i3 f o j h1 h2]
    exact wE1_x q
theorem wXn {g1 : Nat → Int → Int → Int} {a : Int} : wAgr (wName g1 a) g1 := fun f o j h1 h2 => wName_o h2
set_option maxRecDepth 100000 in
set_option maxHeartbeats 40000000 in
theorem seg_ends1 {R : Room} {p0 : Nat → Int → Prop} {Q : ax_Q} {kc ks : Nat} (P : Nat → Int → Prop) (g : Nat → Int → Int → Int) (r0 : Nat → Int → Int → Option (Nat × Int)) (n : Nat → Int → Int) (hn : mLen n) (h2 : 0 ≤ g 50 0 2 ∧ g 50 0 2 ≤ 7) (hk : 2 ≤ g 50 0 0 ∧ g 50 0 0 ≤ 40) (hru : 0 ≤ g 50 0 11 ∧ g 50 0 11 ≤ 5) (hR : ∀ p, 0 ≤ p → p ≤ 2 → wRow1 g (3 * g 50 0 11 + p)) (hRm : 4 ≤ R.frames ∧ 64 * 4 ≤ R.locals ∧ kc ≤ R.cells ∧ ks ≤ R.slots) (k : ∀ g1, wAgr g1 (wE1 g (g 50 0 2)) → ax_J 11 cX11_ends 2 none R p0 Q kc ks 68 [some (.inr (.inr (some (50, 0)))), none] [] (P, g1, r0, n)) : ax_J 11 cX11_ends 2 none R p0 Q kc ks 0 [some (.inr (.inr (some (50, 0)))), none] [] (P, g, r0, n) := by
  have n137 : n 137 0 = 7 := hn (137, 7) (by decide)
  have n138 : n 138 0 = 7 := hn (138, 7) (by decide)
  have n130 : n 130 0 = 7 := hn (130, 7) (by decide)
  have n132 : n 132 0 = 7 := hn (132, 7) (by decide)
  have n133 : n 133 0 = 7 := hn (133, 7) (by decide)
  have n135 : n 135 0 = 7 := hn (135, 7) (by decide)
  have n136 : n 136 0 = 7 := hn (136, 7) (by decide)
  have n129 : n 129 0 = 7 := hn (129, 7) (by decide)
  refine aj_run (C := True) (pc' := 2) (la' := [some (.inr (.inr (some (50, 0)))), some (.inl 0)]) (st' := []) (M' := (P, g, r0, n)) ok_X11_ends true 2 rfl trivial ?_
  refine aj_loop (σ := (Int) × (Nat → Int → Int → Int)) (fun x => 0 ≤ x.1 ∧ x.1 ≤ g 50 0 2 ∧ wAgr x.2 (wE1 g x.1)) (fun x => (g 50 0 2 - x.1).toNat) (fun x => [some (.inr (.inr (some (50, 0)))), some (.inl x.1)]) (fun x => []) (fun x => (P, x.2, r0, n)) ?_ (0, g) ?_
  rotate_left
  · exact ⟨by omega, by omega, wE1_0⟩
  rintro ⟨a, g1⟩ hI ih2
  try dsimp only at hI ih2
  obtain ⟨i1, i2, i3⟩ := hI
  change ax_J _ _ _ _ _ _ _ _ _ 2 [some (.inr (.inr (some (50, 0)))), some (.inl a)] [] (P, g1, r0, n)
  have k1 : ∀ (f : Nat) (j : Int), f ≠ 127 → f ≠ 128 → f ≠ 137 → f ≠ 138 → g1 f 0 j = g f 0 j := fun f j h1 h2 h3 h4 => by rw [i3 f 0 j h1 h2, wE1_o h3 h4]
  have k50 : ∀ j, g1 50 0 j = g 50 0 j := fun j => k1 50 j (by decide) (by decide) (by decide) (by decide)
  have k2 := k50 2
  have k0 := k50 0
  refine aj_run (C := True) (pc' := 7) (la' := [some (.inr (.inr (some (50, 0)))), some (.inl a)]) (st' := [.inl (g1 50 0 2), .inl a]) (M' := (P, g1, r0, n)) ok_X11_ends true 3 rfl trivial ?_
  refine aj_icmp_ge (tgt := 68) (ax_dec2 (i := .if_icmp .ge 61) (n := 3) ok_X11_ends rfl) (by decide) (fun c1 => ?_) (fun c1 => ?_)
  · refine aj_forget (la' := [some (.inr (.inr (some (50, 0)))), none]) (by simp [ax_fg]) ?_
    exact k g1 (by rw [show g 50 0 2 = a by omega]; exact i3)
  · refine aj_run (C := True) (pc' := 17) (la' := [some (.inr (.inr (some (50, 0)))), some (.inl a)]) (st' := [.inl a, .inr (.inr (some (50, 0))), .inl a, .inr (.inr (some (137, 0)))]) (M' := (P, g1, r0, n)) ok_X11_ends true 5 rfl trivial ?_
    refine aj_callV (av := [.inl a]) (st := [.inl a, .inr (.inr (some (137, 0)))]) (f := 50) (o := 0) (ci := 11) cal_X11_isAtEnd lk_11_256 ins_X11_isAtEnd rfl sel_X11_isAtEnd rfl (fun c9 h9 _ => by simpa [ax_ok] using h9) (sp_isAtEnd a _ _ _ _ hn (by omega) (by omega)) ⟨by have := hRm.1; omega, by have := hRm.2.1; omega, by have := hRm.2.2.1; omega, by have := hRm.2.2.2; omega⟩ (Nat.le_of_ble_eq_true rfl) (ax_dec2 (i := .invokevirtual 256) (n := 3) ok_X11_ends rfl) (fun r M' hq => ?_)
    obtain ⟨rfl, rfl⟩ := hq
    change ax_J _ _ _ _ _ _ _ _ _ 20 [some (.inr (.inr (some (50, 0)))), some (.inl a)] [.inl (bI (g1 50 0 1 = 0 ∧ ((g1 129 0 a = 0 ∧ g1 130 0 a = 1) ∨ (g1 129 0 a = 2 * g1 50 0 0 ∧ g1 130 0 a = 0)))), .inl a, .inr (.inr (some (137, 0)))] (P, g1, r0, n)
    refine aj_run (C := ((0 ≤ a ∧ a < n 137 0) ∧ (bI (g1 50 0 1 = 0 ∧ ((g1 129 0 a = 0 ∧ g1 130 0 a = 1) ∨ (g1 129 0 a = 2 * g1 50 0 0 ∧ g1 130 0 a = 0))) = 0 ∨ bI (g1 50 0 1 = 0 ∧ ((g1 129 0 a = 0 ∧ g1 130 0 a = 1) ∨ (g1 129 0 a = 2 * g1 50 0 0 ∧ g1 130 0 a = 0))) = 1)) ∧ True) (pc' := 21) (la' := [some (.inr (.inr (some (50, 0)))), some (.inl a)]) (st' := []) (M' := (P, ax_u3 g1 137 0 a (bI (g1 50 0 1 = 0 ∧ ((g1 129 0 a = 0 ∧ g1 130 0 a = 1) ∨ (g1 129 0 a = 2 * g1 50 0 0 ∧ g1 130 0 a = 0)))), r0, n)) ok_X11_ends true 1 rfl (by refine ⟨?_, trivial⟩ <;> (first | omega | (refine ⟨?_, ?_⟩ <;> first | omega | exact bI_01))) ?_
    have eV : bI (g1 50 0 1 = 0 ∧ ((g1 129 0 a = 0 ∧ g1 130 0 a = 1) ∨ (g1 129 0 a = 2 * g1 50 0 0 ∧ g1 130 0 a = 0))) = wAE g a := by unfold wAE; rw [k50 1, k50 0, k1 129 a (by decide) (by decide) (by decide) (by decide), k1 130 a (by decide) (by decide) (by decide) (by decide)]
    generalize hvv : bI (g1 50 0 1 = 0 ∧ ((g1 129 0 a = 0 ∧ g1 130 0 a = 1) ∨ (g1 129 0 a = 2 * g1 50 0 0 ∧ g1 130 0 a = 0))) = v at eV ⊢
    obtain ⟨g2, hg2⟩ : ∃ g2, g2 = ax_u3 g1 137 0 a v := ⟨_, rfl⟩
    rw [← hg2]
    have e137 : g2 137 0 a = v := by rw [hg2]; exact ax_u3_s
    have hg : wOut g2 g := fun f o j h1 h2 h3 h4 h5 => by rw [hg2, ax_u3_n (fun z => h4 z.1), i3 f o j h1 h2, wE1_o h4 h5]
    have e2 : g2 50 0 2 = g 50 0 2 := hg 50 0 2 (by decide) (by decide) (by decide) (by decide) (by decide)
    have e11 : g2 50 0 11 = g 50 0 11 := hg 50 0 11 (by decide) (by decide) (by decide) (by decide) (by decide)
    have eB : wBacks (g2 103 0 a) (g2 133 0 a) (g2 107 0 a) = wBacks (g 103 0 a) (g 133 0 a) (g 107 0 a) := by rw [hg 103 0 a (by decide) (by decide) (by decide) (by decide) (by decide), hg 133 0 a (by decide) (by decide) (by decide) (by decide) (by decide), hg 107 0 a (by decide) (by decide) (by decide) (by decide) (by decide)]
    have eV1 := wEv_1 (p := 1) (a := a) hg (hR 1 (by decide) (by decide))
    change ax_J _ _ _ _ _ _ _ _ _ 21 [some (.inr (.inr (some (50, 0)))), some (.inl a)] [] (P, g2, r0, n)
    refine aj_run (C := (0 ≤ a ∧ a < n 137 0) ∧ True) (pc' := 27) (la' := [some (.inr (.inr (some (50, 0)))), some (.inl a)]) (st' := [.inl (g2 137 0 a)]) (M' := (P, g2, r0, n)) ok_X11_ends true 4 rfl (by refine ⟨?_, trivial⟩ <;> (first | omega | (refine ⟨?_, ?_⟩ <;> first | omega | exact bI_01))) ?_
    refine aj_if_eq (tgt := 62) (ax_dec2 (i := .ifCond .eq 35) (n := 3) ok_X11_ends rfl) (by decide) (fun c2 => ?_) (fun c2 => ?_)
    · refine aj_run (C := (-2147483648 ≤ a + 1 ∧ a + 1 ≤ 2147483647) ∧ True) (pc' := 2) (la' := [some (.inr (.inr (some (50, 0)))), some (.inl (a + 1))]) (st' := []) (M' := (P, g2, r0, n)) ok_X11_ends true 2 rfl (by refine ⟨?_, trivial⟩ <;> (first | omega | (refine ⟨?_, ?_⟩ <;> first | omega | exact bI_01))) ?_
      refine ih2 (a + 1, g2) ?_ ?_
      · exact ⟨by omega, by omega, by rw [hg2]; exact wE1_n i1 i3 eV (by omega)⟩
      · omega
    · refine aj_run (C := True) (pc' := 32) (la' := [some (.inr (.inr (some (50, 0)))), some (.inl a)]) (st' := [.inl a, .inr (.inr (some (50, 0)))]) (M' := (P, g2, r0, n)) ok_X11_ends true 2 rfl trivial ?_
      refine aj_callV (av := [.inl a]) (st := []) (f := 50) (o := 0) (ci := 11) cal_X11_name lk_11_247 ins_X11_name rfl sel_X11_name rfl (fun c9 h9 _ => by simpa [ax_ok] using h9) (sp_name a _ _ _ _ hn (by omega) (by omega)) ⟨by have := hRm.1; omega, by have := hRm.2.1; omega, by have := hRm.2.2.1; omega, by have := hRm.2.2.2; omega⟩ (Nat.le_of_ble_eq_true rfl) (ax_dec2 (i := .invokevirtual 247) (n := 3) ok_X11_ends rfl) (fun r M' hq => ?_)
      obtain ⟨rfl, rfl⟩ := hq
      change ax_J _ _ _ _ _ _ _ _ _ 35 [some (.inr (.inr (some (50, 0)))), some (.inl a)] [] (P, wName g2 a, r0, n)
      refine aj_run (C := True) (pc' := 42) (la' := [some (.inr (.inr (some (50, 0)))), some (.inl a)]) (st' := [.inl a, .inr (.inr (some (50, 0))), .inl a, .inr (.inr (some (138, 0)))]) (M' := (P, wName g2 a, r0, n)) ok_X11_ends true 5 rfl trivial ?_
      refine aj_callV (av := [.inl a]) (st := [.inl a, .inr (.inr (some (138, 0)))]) (f := 50) (o := 0) (ci := 11) cal_X11_backs lk_11_259 ins_X11_backs rfl sel_X11_backs rfl (fun c9 h9 _ => by simpa [ax_ok] using h9) (sp_backs a _ _ _ _ hn (by omega)) ⟨by have := hRm.1; omega, by have := hRm.2.1; omega, by have := hRm.2.2.1; omega, by have := hRm.2.2.2; omega⟩ (Nat.le_of_ble_eq_true rfl) (ax_dec2 (i := .invokevirtual 259) (n := 3) ok_X11_ends rfl) (fun r M' hq => ?_)
      obtain ⟨rfl, rfl⟩ := hq
      change ax_J _ _ _ _ _ _ _ _ _ 45 [some (.inr (.inr (some (50, 0)))), some (.inl a)] [.inl (wBacks (g2 103 0 a) (g2 133 0 a) (g2 107 0 a)), .inl a, .inr (.inr (some (138, 0)))] (P, wName g2 a, r0, n)
      refine aj_if_ne (tgt := 56) (ax_dec2 (i := .ifCond .ne 11) (n := 3) ok_X11_ends rfl) (by decide) (fun c3 => ?_) (fun c3 => ?_)
      · refine aj_run (C := ((0 ≤ a ∧ a < n 138 0) ∧ (1 = 0 ∨ 1 = 1)) ∧ (-2147483648 ≤ a + 1 ∧ a + 1 ≤ 2147483647) ∧ True) (pc' := 2) (la' := [some (.inr (.inr (some (50, 0)))), some (.inl (a + 1))]) (st' := []) (M' := (P, ax_u3 (wName g2 a) 138 0 a 1, r0, n)) ok_X11_ends true 5 rfl (by refine ⟨?_, ?_, trivial⟩ <;> (first | omega | (refine ⟨?_, ?_⟩ <;> first | omega | exact bI_01))) ?_
        refine ih2 (a + 1, ax_u3 (wName g2 a) 138 0 a 1) ?_ ?_
        · exact ⟨by omega, by omega, wE1_y i1 i3 eV (by omega) (by rw [← hg2]; exact wXn) (by unfold wWb; first | rw [if_pos (by omega)] | rw [if_neg (by omega)])⟩
        · omega
      · refine aj_run (C := True) (pc' := 50) (la' := [some (.inr (.inr (some (50, 0)))), some (.inl a)]) (st' := [.inl 1, .inr (.inr (some (50, 0))), .inl a, .inr (.inr (some (138, 0)))]) (M' := (P, wName g2 a, r0, n)) ok_X11_ends true 2 rfl trivial ?_
        refine aj_callV (av := [.inl 1]) (st := [.inl a, .inr (.inr (some (138, 0)))]) (f := 50) (o := 0) (ci := 11) cal_X11_worthOf lk_11_250 ins_X11_worthOf rfl sel_X11_worthOf rfl (fun c9 h9 _ => by simpa [ax_ok] using h9) (sp_worthOf 1 _ _ _ _ hn (by omega) (by rw [wName_o (by decide)]; omega) (wRow_N hg (hR 1 (by decide) (by decide))).1) ⟨by have := hRm.1; omega, by have := hRm.2.1; omega, by have := hRm.2.2.1; omega, by have := hRm.2.2.2; omega⟩ (Nat.le_of_ble_eq_true rfl) (ax_dec2 (i := .invokevirtual 250) (n := 3) ok_X11_ends rfl) (fun r M' hq => ?_)
        obtain ⟨rfl, rfl⟩ := hq
        change ax_J _ _ _ _ _ _ _ _ _ 53 [some (.inr (.inr (some (50, 0)))), some (.inl a)] [.inl (wVal (wName g2 a) (3 * wName g2 a 50 0 11 + 1)), .inl a, .inr (.inr (some (138, 0)))] (P, wWor (wName g2 a) (3 * wName g2 a 50 0 11 + 1), r0, n)
        refine aj_if_eq (tgt := 60) (ax_dec2 (i := .ifCond .eq 7) (n := 3) ok_X11_ends rfl) (by decide) (fun c4 => ?_) (fun c4 => ?_)
        · refine aj_run (C := ((0 ≤ a ∧ a < n 138 0) ∧ (0 = 0 ∨ 0 = 1)) ∧ (-2147483648 ≤ a + 1 ∧ a + 1 ≤ 2147483647) ∧ True) (pc' := 2) (la' := [some (.inr (.inr (some (50, 0)))), some (.inl (a + 1))]) (st' := []) (M' := (P, ax_u3 (wWor (wName g2 a) (3 * wName g2 a 50 0 11 + 1)) 138 0 a 0, r0, n)) ok_X11_ends true 4 rfl (by refine ⟨?_, ?_, trivial⟩ <;> (first | omega | (refine ⟨?_, ?_⟩ <;> first | omega | exact bI_01))) ?_
          refine ih2 (a + 1, ax_u3 (wWor (wName g2 a) (3 * wName g2 a 50 0 11 + 1)) 138 0 a 0) ?_ ?_
          · exact ⟨by omega, by omega, wE1_y i1 i3 eV (by omega) (by rw [← hg2]; exact wX1) (by unfold wWb; first | rw [if_pos (by omega)] | rw [if_neg (by omega)])⟩
          · omega
        · refine aj_run (C := ((0 ≤ a ∧ a < n 138 0) ∧ (1 = 0 ∨ 1 = 1)) ∧ (-2147483648 ≤ a + 1 ∧ a + 1 ≤ 2147483647) ∧ True) (pc' := 2) (la' := [some (.inr (.inr (some (50, 0)))), some (.inl (a + 1))]) (st' := []) (M' := (P, ax_u3 (wWor (wName g2 a) (3 * wName g2 a 50 0 11 + 1)) 138 0 a 1, r0, n)) ok_X11_ends true 5 rfl (by refine ⟨?_, ?_, trivial⟩ <;> (first | omega | (refine ⟨?_, ?_⟩ <;> first | omega | exact bI_01))) ?_
          refine ih2 (a + 1, ax_u3 (wWor (wName g2 a) (3 * wName g2 a 50 0 11 + 1)) 138 0 a 1) ?_ ?_
          · exact ⟨by omega, by omega, wE1_y i1 i3 eV (by omega) (by rw [← hg2]; exact wX1) (by unfold wWb; first | rw [if_pos (by omega)] | rw [if_neg (by omega)])⟩
          · omega

