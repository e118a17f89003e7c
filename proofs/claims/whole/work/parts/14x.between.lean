/-! ===== signs between, closing brackets, what may stand ahead ===== -/
def yTv (t : Int) : Prop := t = 0 ∨ t = 1 ∨ t = 2 ∨ t = 3 ∨ (5 ≤ t ∧ t ≤ 10) ∨ isSg t
def yTo (h : Nat → Int → Int → Int) (t V : Int) : Prop := yTk (h 50 0 15) (h 50 0 16) t V ∧ yTv t
theorem bI_iff {p q : Prop} [Decidable p] [Decidable q] (h : p ↔ q) : bI p = bI q := by
  by_cases c : p
  · rw [bI_t c, bI_t (h.mp c)]
  · rw [bI_f c, bI_f (fun z => c (h.mpr z))]
theorem yT_sg {h : Nat → Int → Int → Int} {t V c : Int} (hk : yTo h t V) (hc : 40 ≤ c) : bI (h 50 0 15 = 4 ∧ h 50 0 16 = c) = bI (t = c) := by
  obtain ⟨⟨a0, a1, a2, a3, a4, a5⟩, hv⟩ := hk
  refine bI_iff ⟨fun z => ?_, fun z => ?_⟩
  · unfold yTv isSg at hv
    omega
  · have := a5 (by omega)
    omega
theorem yT_ky {h : Nat → Int → Int → Int} {t V c : Int} (hk : yTo h t V) (hc : 0 ≤ c ∧ c ≤ 5) : bI (h 50 0 15 = 3 ∧ h 50 0 16 = c) = bI (t = c + 5) := by
  obtain ⟨⟨a0, a1, a2, a3, a4, a5⟩, hv⟩ := hk
  refine bI_iff ⟨fun z => ?_, fun z => ?_⟩
  · unfold yTv isSg at hv
    omega
  · have := a4 (by omega) (by omega)
    omega
theorem yT_15 {h : Nat → Int → Int → Int} {t V : Int} (hk : yTo h t V) : (h 50 0 15 = 3 ↔ 5 ≤ t ∧ t ≤ 10) ∧ (h 50 0 15 = 1 ↔ t = 2) ∧ (h 50 0 15 = 2 ↔ t = 3) ∧ (h 50 0 15 = 5 ↔ t = 0) ∧ (t = 2 ∨ t = 3 → h 50 0 16 = V) := by
  obtain ⟨⟨a0, a1, a2, a3, a4, a5⟩, hv⟩ := hk
  unfold yTv isSg at hv
  refine ⟨⟨fun z => by omega, fun z => (a4 z.1 z.2).1⟩, ⟨fun z => by omega, fun z => (a2 z).1⟩, ⟨fun z => by omega, fun z => (a3 z).1⟩, ⟨fun z => by omega, fun z => a0 z⟩, fun z => ?_⟩
  rcases z with z | z
  · exact (a2 z).2
  · exact (a3 z).2
theorem cOp_0 {w : List Int} : 0 ≤ cOp w := by have := c30_in w; omega
def yHy (w em : List Int) (o nst : Int) : Prop := wOk w ∧ nst = c30 w ∧ o = cOp w ∧ o ≤ 5 ∧ w.length + em.length ≤ 159
theorem yHy_i {w em : List Int} {o nst : Int} (h : yHy w em o nst) : (0 ≤ nst ∧ nst ≤ o ∧ 0 ≤ o ∧ o ≤ 5) ∧ w.length + em.length ≤ 159 := by
  obtain ⟨h1, h2, h3, h4, h5⟩ := h
  have := c30_in w
  exact ⟨by omega, h5⟩
set_option maxRecDepth 100000 in
set_option maxHeartbeats 4000000 in
theorem sp_between (t V : Int) (row : Int) (w em : List Int) (o nst : Int) (c : Int → Int) (P : Nat → Int → Prop) (g : Nat → Int → Int → Int) (r0 : Nat → Int → Int → Option (Nat × Int)) (n : Nat → Int → Int) (hn : mLen n) (hr : 0 ≤ row ∧ row < 18) (hM : yM g row w em o nst c) (hk : yTo g t V) (hy : yHy w em o nst) : ax_S yX11_between cX11_between 2 (some FieldType.boolean) 2 0 0 [.inr (.inr (some (50, 0)))] (P, g, r0, n) (fun r M' => ∃ g', M' = (P, g', r0, n) ∧ cFr (TY row) g' g ∧ ((r = some (.inl 1) ∧ (yOp t ≠ -1 ∧ ¬ (wRank (yOp t) = 4 ∧ c nst ≠ 0)) ∧ yM g' row (yOp t :: (yPop (wRank (yOp t)) w em o).1) (yPop (wRank (yOp t)) w em o).2.1 (yPop (wRank (yOp t)) w em o).2.2 nst (wUp c nst (if wRank (yOp t) = 4 ∨ (4 < wRank (yOp t) ∧ c nst ≠ 0) then 1 else 0))) ∨ (r = some (.inl 0) ∧ ¬ (yOp t ≠ -1 ∧ ¬ (wRank (yOp t) = 4 ∧ c nst ≠ 0)) ∧ g' = g))) := by
  have n124 : n 124 0 = 8 := hn (124, 8) (by decide)
  obtain ⟨⟨m1, m2⟩, ⟨m3, m4, m5⟩, m6, m7, m8⟩ := id hM
  obtain ⟨⟨y1, y2, y3, y4⟩, y5⟩ := yHy_i hy
  have e23 : g 50 0 23 = nst := m7
  have e24 : g 124 0 (g 50 0 23) = c nst := by rw [e23]; exact m8 nst (by omega) (by omega)
  refine ax_S_of (own := 11) (by decide) rfl (fun h => absurd h (by decide)) rfl (Nat.le_of_ble_eq_true rfl) ?_
  change ax_J _ _ _ _ _ _ _ _ _ _ [some (.inr (.inr (some (50, 0)))), none] _ _
  refine aj_run (C := True) (pc' := 3) (la' := [some (.inr (.inr (some (50, 0)))), none]) (st' := [.inl 43, .inr (.inr (some (50, 0)))]) (M' := (P, g, r0, n)) ok_X11_between true 2 rfl trivial ?_
  refine aj_callV (av := [.inl 43]) (st := []) (f := 50) (o := 0) (ci := 11) cal_X11_isSign lk_11_108 ins_X11_isSign rfl sel_X11_isSign rfl (fun c9 h9 _ => by simpa [ax_ok] using h9) (sp_isSign 43 _ _ _ _) ⟨by decide, by decide, by decide, by decide⟩ (Nat.le_of_ble_eq_true rfl) (ax_dec2 (i := .invokevirtual 108) (n := 3) ok_X11_between rfl) (fun r M' hq => ?_)
  obtain ⟨rfl, rfl⟩ := hq
  change ax_J _ _ _ _ _ _ _ _ _ 6 [some (.inr (.inr (some (50, 0)))), none] [.inl (bI (g 50 0 15 = 4 ∧ g 50 0 16 = 43))] (P, g, r0, n)
  rw [yT_sg (h := g) hk (by decide)]
  change ax_J _ _ _ _ _ _ _ _ _ 6 [some (.inr (.inr (some (50, 0)))), none] [.inl (bI (t = 43))] (P, g, r0, n)
  refine aj_if_eq (tgt := 14) (ax_dec2 (i := .ifCond .eq 8) (n := 3) ok_X11_between rfl) (by decide) (fun c1 => ?_) (fun c1 => ?_)
  · replace c1 := bI_e0 c1
    refine aj_run (C := True) (pc' := 17) (la' := [some (.inr (.inr (some (50, 0)))), none]) (st' := [.inl 45, .inr (.inr (some (50, 0)))]) (M' := (P, g, r0, n)) ok_X11_between true 2 rfl trivial ?_
    refine aj_callV (av := [.inl 45]) (st := []) (f := 50) (o := 0) (ci := 11) cal_X11_isSign lk_11_108 ins_X11_isSign rfl sel_X11_isSign rfl (fun c9 h9 _ => by simpa [ax_ok] using h9) (sp_isSign 45 _ _ _ _) ⟨by decide, by decide, by decide, by decide⟩ (Nat.le_of_ble_eq_true rfl) (ax_dec2 (i := .invokevirtual 108) (n := 3) ok_X11_between rfl) (fun r M' hq => ?_)
    obtain ⟨rfl, rfl⟩ := hq
    change ax_J _ _ _ _ _ _ _ _ _ 20 [some (.inr (.inr (some (50, 0)))), none] [.inl (bI (g 50 0 15 = 4 ∧ g 50 0 16 = 45))] (P, g, r0, n)
    rw [yT_sg (h := g) hk (by decide)]
    change ax_J _ _ _ _ _ _ _ _ _ 20 [some (.inr (.inr (some (50, 0)))), none] [.inl (bI (t = 45))] (P, g, r0, n)
    refine aj_if_eq (tgt := 28) (ax_dec2 (i := .ifCond .eq 8) (n := 3) ok_X11_between rfl) (by decide) (fun c2 => ?_) (fun c2 => ?_)
    · replace c2 := bI_e0 c2
      refine aj_run (C := True) (pc' := 31) (la' := [some (.inr (.inr (some (50, 0)))), none]) (st' := [.inl 42, .inr (.inr (some (50, 0)))]) (M' := (P, g, r0, n)) ok_X11_between true 2 rfl trivial ?_
      refine aj_callV (av := [.inl 42]) (st := []) (f := 50) (o := 0) (ci := 11) cal_X11_isSign lk_11_108 ins_X11_isSign rfl sel_X11_isSign rfl (fun c9 h9 _ => by simpa [ax_ok] using h9) (sp_isSign 42 _ _ _ _) ⟨by decide, by decide, by decide, by decide⟩ (Nat.le_of_ble_eq_true rfl) (ax_dec2 (i := .invokevirtual 108) (n := 3) ok_X11_between rfl) (fun r M' hq => ?_)
      obtain ⟨rfl, rfl⟩ := hq
      change ax_J _ _ _ _ _ _ _ _ _ 34 [some (.inr (.inr (some (50, 0)))), none] [.inl (bI (g 50 0 15 = 4 ∧ g 50 0 16 = 42))] (P, g, r0, n)
      rw [yT_sg (h := g) hk (by decide)]
      change ax_J _ _ _ _ _ _ _ _ _ 34 [some (.inr (.inr (some (50, 0)))), none] [.inl (bI (t = 42))] (P, g, r0, n)
      refine aj_if_eq (tgt := 42) (ax_dec2 (i := .ifCond .eq 8) (n := 3) ok_X11_between rfl) (by decide) (fun c3 => ?_) (fun c3 => ?_)
      · replace c3 := bI_e0 c3
        refine aj_run (C := True) (pc' := 45) (la' := [some (.inr (.inr (some (50, 0)))), none]) (st' := [.inl 60, .inr (.inr (some (50, 0)))]) (M' := (P, g, r0, n)) ok_X11_between true 2 rfl trivial ?_
        refine aj_callV (av := [.inl 60]) (st := []) (f := 50) (o := 0) (ci := 11) cal_X11_isSign lk_11_108 ins_X11_isSign rfl sel_X11_isSign rfl (fun c9 h9 _ => by simpa [ax_ok] using h9) (sp_isSign 60 _ _ _ _) ⟨by decide, by decide, by decide, by decide⟩ (Nat.le_of_ble_eq_true rfl) (ax_dec2 (i := .invokevirtual 108) (n := 3) ok_X11_between rfl) (fun r M' hq => ?_)
        obtain ⟨rfl, rfl⟩ := hq
        change ax_J _ _ _ _ _ _ _ _ _ 48 [some (.inr (.inr (some (50, 0)))), none] [.inl (bI (g 50 0 15 = 4 ∧ g 50 0 16 = 60))] (P, g, r0, n)
        rw [yT_sg (h := g) hk (by decide)]
        change ax_J _ _ _ _ _ _ _ _ _ 48 [some (.inr (.inr (some (50, 0)))), none] [.inl (bI (t = 60))] (P, g, r0, n)
        refine aj_if_eq (tgt := 56) (ax_dec2 (i := .ifCond .eq 8) (n := 3) ok_X11_between rfl) (by decide) (fun c4 => ?_) (fun c4 => ?_)
        · replace c4 := bI_e0 c4
          refine aj_run (C := True) (pc' := 59) (la' := [some (.inr (.inr (some (50, 0)))), none]) (st' := [.inl 61, .inr (.inr (some (50, 0)))]) (M' := (P, g, r0, n)) ok_X11_between true 2 rfl trivial ?_
          refine aj_callV (av := [.inl 61]) (st := []) (f := 50) (o := 0) (ci := 11) cal_X11_isSign lk_11_108 ins_X11_isSign rfl sel_X11_isSign rfl (fun c9 h9 _ => by simpa [ax_ok] using h9) (sp_isSign 61 _ _ _ _) ⟨by decide, by decide, by decide, by decide⟩ (Nat.le_of_ble_eq_true rfl) (ax_dec2 (i := .invokevirtual 108) (n := 3) ok_X11_between rfl) (fun r M' hq => ?_)
          obtain ⟨rfl, rfl⟩ := hq
          change ax_J _ _ _ _ _ _ _ _ _ 62 [some (.inr (.inr (some (50, 0)))), none] [.inl (bI (g 50 0 15 = 4 ∧ g 50 0 16 = 61))] (P, g, r0, n)
          rw [yT_sg (h := g) hk (by decide)]
          change ax_J _ _ _ _ _ _ _ _ _ 62 [some (.inr (.inr (some (50, 0)))), none] [.inl (bI (t = 61))] (P, g, r0, n)
          refine aj_if_eq (tgt := 70) (ax_dec2 (i := .ifCond .eq 8) (n := 3) ok_X11_between rfl) (by decide) (fun c5 => ?_) (fun c5 => ?_)
          · replace c5 := bI_e0 c5
            refine aj_run (C := True) (pc' := 72) (la' := [some (.inr (.inr (some (50, 0)))), none]) (st' := [.inl 4, .inr (.inr (some (50, 0)))]) (M' := (P, g, r0, n)) ok_X11_between true 2 rfl trivial ?_
            refine aj_callV (av := [.inl 4]) (st := []) (f := 50) (o := 0) (ci := 11) cal_X11_isKey lk_11_111 ins_X11_isKey rfl sel_X11_isKey rfl (fun c9 h9 _ => by simpa [ax_ok] using h9) (sp_isKey 4 _ _ _ _) ⟨by decide, by decide, by decide, by decide⟩ (Nat.le_of_ble_eq_true rfl) (ax_dec2 (i := .invokevirtual 111) (n := 3) ok_X11_between rfl) (fun r M' hq => ?_)
            obtain ⟨rfl, rfl⟩ := hq
            change ax_J _ _ _ _ _ _ _ _ _ 75 [some (.inr (.inr (some (50, 0)))), none] [.inl (bI (g 50 0 15 = 3 ∧ g 50 0 16 = 4))] (P, g, r0, n)
            rw [yT_ky (h := g) hk (by decide)]
            change ax_J _ _ _ _ _ _ _ _ _ 75 [some (.inr (.inr (some (50, 0)))), none] [.inl (bI (t = 9))] (P, g, r0, n)
            refine aj_if_eq (tgt := 83) (ax_dec2 (i := .ifCond .eq 8) (n := 3) ok_X11_between rfl) (by decide) (fun c6 => ?_) (fun c6 => ?_)
            · replace c6 := bI_e0 c6
              refine aj_run (C := True) (pc' := 85) (la' := [some (.inr (.inr (some (50, 0)))), none]) (st' := [.inl 3, .inr (.inr (some (50, 0)))]) (M' := (P, g, r0, n)) ok_X11_between true 2 rfl trivial ?_
              refine aj_callV (av := [.inl 3]) (st := []) (f := 50) (o := 0) (ci := 11) cal_X11_isKey lk_11_111 ins_X11_isKey rfl sel_X11_isKey rfl (fun c9 h9 _ => by simpa [ax_ok] using h9) (sp_isKey 3 _ _ _ _) ⟨by decide, by decide, by decide, by decide⟩ (Nat.le_of_ble_eq_true rfl) (ax_dec2 (i := .invokevirtual 111) (n := 3) ok_X11_between rfl) (fun r M' hq => ?_)
              obtain ⟨rfl, rfl⟩ := hq
              change ax_J _ _ _ _ _ _ _ _ _ 88 [some (.inr (.inr (some (50, 0)))), none] [.inl (bI (g 50 0 15 = 3 ∧ g 50 0 16 = 3))] (P, g, r0, n)
              rw [yT_ky (h := g) hk (by decide)]
              change ax_J _ _ _ _ _ _ _ _ _ 88 [some (.inr (.inr (some (50, 0)))), none] [.inl (bI (t = 8))] (P, g, r0, n)
              refine aj_if_eq (tgt := 96) (ax_dec2 (i := .ifCond .eq 8) (n := 3) ok_X11_between rfl) (by decide) (fun c7 => ?_) (fun c7 => ?_)
              · replace c7 := bI_e0 c7
                refine aj_run (C := True) (pc' := 97) (la' := [some (.inr (.inr (some (50, 0)))), none]) (st' := [.inl (-1)]) (M' := (P, g, r0, n)) ok_X11_between true 1 rfl trivial ?_
                have hop : yOp t = -1 := by unfold yOp; rw [if_neg (by omega), if_neg (by omega), if_neg (by omega), if_neg (by omega), if_neg (by omega), if_neg (by omega), if_neg (by omega)]
                refine aj_run (C := True) (pc' := 100) (la' := [some (.inr (.inr (some (50, 0)))), some (.inl (-1))]) (st' := [.inl (-1), .inl (-1)]) (M' := (P, g, r0, n)) ok_X11_between true 3 rfl trivial ?_
                refine aj_icmp_eq (tgt := 123) (ax_dec2 (i := .if_icmp .eq 23) (n := 3) ok_X11_between rfl) (by decide) (fun c8 => ?_) (fun c8 => ?_)
                · refine aj_run (C := True) (pc' := 124) (la' := [some (.inr (.inr (some (50, 0)))), some (.inl (-1))]) (st' := [.inl 0]) (M' := (P, g, r0, n)) ok_X11_between true 1 rfl trivial ?_
                  refine aj_ret (r := some (.inl 0)) (ax_dec2 (i := .ireturn) (n := 1) ok_X11_between rfl) ⟨?_, ?_, by decide, by decide⟩ rfl
                  · exact ⟨g, rfl, fun _ _ _ _ => rfl, Or.inr ⟨rfl, fun z => z.1 hop, rfl⟩⟩
                  · exact Or.inl rfl
                · exact absurd c8 (by omega)
              · replace c7 := bI_n0 c7
                refine aj_run (C := True) (pc' := 97) (la' := [some (.inr (.inr (some (50, 0)))), none]) (st' := [.inl 10]) (M' := (P, g, r0, n)) ok_X11_between true 2 rfl trivial ?_
                have hop : yOp t = 10 := by rw [show t = 8 by omega]; decide
                refine aj_run (C := True) (pc' := 100) (la' := [some (.inr (.inr (some (50, 0)))), some (.inl 10)]) (st' := [.inl (-1), .inl 10]) (M' := (P, g, r0, n)) ok_X11_between true 3 rfl trivial ?_
                refine aj_icmp_eq (tgt := 123) (ax_dec2 (i := .if_icmp .eq 23) (n := 3) ok_X11_between rfl) (by decide) (fun c9 => ?_) (fun c9 => ?_)
                · exact absurd c9 (by omega)
                · refine aj_run (C := True) (pc' := 104) (la' := [some (.inr (.inr (some (50, 0)))), some (.inl 10)]) (st' := [.inl 10]) (M' := (P, g, r0, n)) ok_X11_between true 1 rfl trivial ?_
                  refine aj_callS (av := [.inl 10]) (st := []) cal_X11_rank lk_11_98 stc_X11_rank (sp_rank 10 _ _ _ _) ⟨by decide, by decide, by decide, by decide⟩ (Nat.le_of_ble_eq_true rfl) (ax_dec2 (i := .invokestatic 98) (n := 3) ok_X11_between rfl) (fun r M' hq => ?_)
                  obtain ⟨rfl, rfl⟩ := hq
                  rw [show wRank 10 = 1 by decide]
                  change ax_J _ _ _ _ _ _ _ _ _ 107 [some (.inr (.inr (some (50, 0)))), some (.inl 10)] [.inl 1] (P, g, r0, n)
                  refine aj_run (C := True) (pc' := 108) (la' := [some (.inr (.inr (some (50, 0)))), some (.inl 10)]) (st' := [.inl 4, .inl 1]) (M' := (P, g, r0, n)) ok_X11_between true 1 rfl trivial ?_
                  refine aj_icmp_ne (tgt := 125) (ax_dec2 (i := .if_icmp .ne 17) (n := 3) ok_X11_between rfl) (by decide) (fun c10 => ?_) (fun c10 => ?_)
                  · refine aj_run (C := True) (pc' := 127) (la' := [some (.inr (.inr (some (50, 0)))), some (.inl 10)]) (st' := [.inl 10, .inr (.inr (some (50, 0)))]) (M' := (P, g, r0, n)) ok_X11_between true 2 rfl trivial ?_
                    refine aj_callS (av := [.inl 10]) (st := [.inr (.inr (some (50, 0)))]) cal_X11_rank lk_11_98 stc_X11_rank (sp_rank 10 _ _ _ _) ⟨by decide, by decide, by decide, by decide⟩ (Nat.le_of_ble_eq_true rfl) (ax_dec2 (i := .invokestatic 98) (n := 3) ok_X11_between rfl) (fun r M' hq => ?_)
                    obtain ⟨rfl, rfl⟩ := hq
                    rw [show wRank 10 = 1 by decide]
                    change ax_J _ _ _ _ _ _ _ _ _ 130 [some (.inr (.inr (some (50, 0)))), some (.inl 10)] [.inl 1, .inr (.inr (some (50, 0)))] (P, g, r0, n)
                    refine aj_callV (av := [.inl 1]) (st := []) (f := 50) (o := 0) (ci := 11) cal_X11_doAll lk_11_121 ins_X11_doAll rfl sel_X11_doAll rfl (fun c9 h9 _ => by simpa [ax_ok] using h9) (sp_doAll 1 row w em o nst c _ _ _ _ hn hr hM (by omega) (by omega)) ⟨by decide, by decide, by decide, by decide⟩ (Nat.le_of_ble_eq_true rfl) (ax_dec2 (i := .invokevirtual 121) (n := 3) ok_X11_between rfl) (fun r M' hq => ?_)
                    obtain ⟨rfl, g3, rfl, fr3, hM3⟩ := hq
                    change ax_J _ _ _ _ _ _ _ _ _ 133 [some (.inr (.inr (some (50, 0)))), some (.inl 10)] [] (P, g3, r0, n)
                    refine aj_run (C := True) (pc' := 135) (la' := [some (.inr (.inr (some (50, 0)))), some (.inl 10)]) (st' := [.inl 10, .inr (.inr (some (50, 0)))]) (M' := (P, g3, r0, n)) ok_X11_between true 2 rfl trivial ?_
                    have hpl := (yPop_iv (r := 1) w em o hy.1).2.2.2.2.1
                    refine aj_callV (av := [.inl 10]) (st := []) (f := 50) (o := 0) (ci := 11) cal_X11_await lk_11_124 ins_X11_await rfl sel_X11_await rfl (fun c9 h9 _ => by simpa [ax_ok] using h9) (sp_await 10 row _ _ _ nst c _ _ _ _ hn hr hM3 (by omega)) ⟨by decide, by decide, by decide, by decide⟩ (Nat.le_of_ble_eq_true rfl) (ax_dec2 (i := .invokevirtual 124) (n := 3) ok_X11_between rfl) (fun r M' hq => ?_)
                    obtain ⟨rfl, g4, rfl, fr4, hM4⟩ := hq
                    change ax_J _ _ _ _ _ _ _ _ _ 138 [some (.inr (.inr (some (50, 0)))), some (.inl 10)] [] (P, g4, r0, n)
                    have f23 : g4 50 0 23 = nst := hM4.2.2.2.1
                    have f24 : g4 124 0 (g4 50 0 23) = c nst := by rw [f23]; exact hM4.2.2.2.2 nst (by omega) (by omega)
                    refine aj_run (C := True) (pc' := 147) (la' := [some (.inr (.inr (some (50, 0)))), some (.inl 10)]) (st' := [.inl 10, .inl (g4 50 0 23), .inr (.inr (some (124, 0)))]) (M' := (P, g4, r0, n)) ok_X11_between true 5 rfl trivial ?_
                    refine aj_callS (av := [.inl 10]) (st := [.inl (g4 50 0 23), .inr (.inr (some (124, 0)))]) cal_X11_rank lk_11_98 stc_X11_rank (sp_rank 10 _ _ _ _) ⟨by decide, by decide, by decide, by decide⟩ (Nat.le_of_ble_eq_true rfl) (ax_dec2 (i := .invokestatic 98) (n := 3) ok_X11_between rfl) (fun r M' hq => ?_)
                    obtain ⟨rfl, rfl⟩ := hq
                    rw [show wRank 10 = 1 by decide]
                    change ax_J _ _ _ _ _ _ _ _ _ 150 [some (.inr (.inr (some (50, 0)))), some (.inl 10)] [.inl 1, .inl (g4 50 0 23), .inr (.inr (some (124, 0)))] (P, g4, r0, n)
                    refine aj_run (C := True) (pc' := 151) (la' := [some (.inr (.inr (some (50, 0)))), some (.inl 10)]) (st' := [.inl 4, .inl 1, .inl (g4 50 0 23), .inr (.inr (some (124, 0)))]) (M' := (P, g4, r0, n)) ok_X11_between true 1 rfl trivial ?_
                    refine aj_icmp_eq (tgt := 174) (ax_dec2 (i := .if_icmp .eq 23) (n := 3) ok_X11_between rfl) (by decide) (fun c11 => ?_) (fun c11 => ?_)
                    · exact absurd c11 (by omega)
                    · refine aj_run (C := True) (pc' := 155) (la' := [some (.inr (.inr (some (50, 0)))), some (.inl 10)]) (st' := [.inl 10, .inl (g4 50 0 23), .inr (.inr (some (124, 0)))]) (M' := (P, g4, r0, n)) ok_X11_between true 1 rfl trivial ?_
                      refine aj_callS (av := [.inl 10]) (st := [.inl (g4 50 0 23), .inr (.inr (some (124, 0)))]) cal_X11_rank lk_11_98 stc_X11_rank (sp_rank 10 _ _ _ _) ⟨by decide, by decide, by decide, by decide⟩ (Nat.le_of_ble_eq_true rfl) (ax_dec2 (i := .invokestatic 98) (n := 3) ok_X11_between rfl) (fun r M' hq => ?_)
                      obtain ⟨rfl, rfl⟩ := hq
                      rw [show wRank 10 = 1 by decide]
                      change ax_J _ _ _ _ _ _ _ _ _ 158 [some (.inr (.inr (some (50, 0)))), some (.inl 10)] [.inl 1, .inl (g4 50 0 23), .inr (.inr (some (124, 0)))] (P, g4, r0, n)
                      refine aj_run (C := True) (pc' := 159) (la' := [some (.inr (.inr (some (50, 0)))), some (.inl 10)]) (st' := [.inl 4, .inl 1, .inl (g4 50 0 23), .inr (.inr (some (124, 0)))]) (M' := (P, g4, r0, n)) ok_X11_between true 1 rfl trivial ?_
                      refine aj_icmp_le (tgt := 178) (ax_dec2 (i := .if_icmp .le 19) (n := 3) ok_X11_between rfl) (by decide) (fun c12 => ?_) (fun c12 => ?_)
                      · refine aj_run (C := ((0 ≤ g4 50 0 23 ∧ g4 50 0 23 < n 124 0) ∧ (0 = 0 ∨ 0 = 1)) ∧ True) (pc' := 181) (la' := [some (.inr (.inr (some (50, 0)))), some (.inl 10)]) (st' := [.inl 1]) (M' := (P, ax_u3 g4 124 0 (g4 50 0 23) 0, r0, n)) ok_X11_between true 3 rfl (by refine ⟨?_, trivial⟩ <;> (omega)) ?_
                        refine aj_ret (r := some (.inl 1)) (ax_dec2 (i := .ireturn) (n := 1) ok_X11_between rfl) ⟨?_, ?_, by decide, by decide⟩ rfl
                        · exact ⟨_, rfl, fun f q j z => (ax_u3_n (fun y => z (by unfold TY; omega))).trans ((fr4 f q j z).trans (fr3 f q j z)), Or.inl ⟨rfl, ⟨by rw [hop]; decide, by rw [hop, show wRank 10 = 1 by decide]; omega⟩, by rw [hop, show wRank 10 = 1 by decide, f23]; (first | rw [if_pos (by omega)] | rw [if_neg (by omega)]); exact yM_c hM4⟩⟩
                        · exact Or.inr rfl
                      · exact absurd c12 (by omega)
                  · exact absurd c10 (by omega)
            · replace c6 := bI_n0 c6
              refine aj_run (C := True) (pc' := 97) (la' := [some (.inr (.inr (some (50, 0)))), none]) (st' := [.inl 11]) (M' := (P, g, r0, n)) ok_X11_between true 2 rfl trivial ?_
              have hop : yOp t = 11 := by rw [show t = 9 by omega]; decide
              refine aj_run (C := True) (pc' := 100) (la' := [some (.inr (.inr (some (50, 0)))), some (.inl 11)]) (st' := [.inl (-1), .inl 11]) (M' := (P, g, r0, n)) ok_X11_between true 3 rfl trivial ?_
              refine aj_icmp_eq (tgt := 123) (ax_dec2 (i := .if_icmp .eq 23) (n := 3) ok_X11_between rfl) (by decide) (fun c13 => ?_) (fun c13 => ?_)
              · exact absurd c13 (by omega)
              · refine aj_run (C := True) (pc' := 104) (la' := [some (.inr (.inr (some (50, 0)))), some (.inl 11)]) (st' := [.inl 11]) (M' := (P, g, r0, n)) ok_X11_between true 1 rfl trivial ?_
                refine aj_callS (av := [.inl 11]) (st := []) cal_X11_rank lk_11_98 stc_X11_rank (sp_rank 11 _ _ _ _) ⟨by decide, by decide, by decide, by decide⟩ (Nat.le_of_ble_eq_true rfl) (ax_dec2 (i := .invokestatic 98) (n := 3) ok_X11_between rfl) (fun r M' hq => ?_)
                obtain ⟨rfl, rfl⟩ := hq
                rw [show wRank 11 = 2 by decide]
                change ax_J _ _ _ _ _ _ _ _ _ 107 [some (.inr (.inr (some (50, 0)))), some (.inl 11)] [.inl 2] (P, g, r0, n)
                refine aj_run (C := True) (pc' := 108) (la' := [some (.inr (.inr (some (50, 0)))), some (.inl 11)]) (st' := [.inl 4, .inl 2]) (M' := (P, g, r0, n)) ok_X11_between true 1 rfl trivial ?_
                refine aj_icmp_ne (tgt := 125) (ax_dec2 (i := .if_icmp .ne 17) (n := 3) ok_X11_between rfl) (by decide) (fun c14 => ?_) (fun c14 => ?_)
                · refine aj_run (C := True) (pc' := 127) (la' := [some (.inr (.inr (some (50, 0)))), some (.inl 11)]) (st' := [.inl 11, .inr (.inr (some (50, 0)))]) (M' := (P, g, r0, n)) ok_X11_between true 2 rfl trivial ?_
                  refine aj_callS (av := [.inl 11]) (st := [.inr (.inr (some (50, 0)))]) cal_X11_rank lk_11_98 stc_X11_rank (sp_rank 11 _ _ _ _) ⟨by decide, by decide, by decide, by decide⟩ (Nat.le_of_ble_eq_true rfl) (ax_dec2 (i := .invokestatic 98) (n := 3) ok_X11_between rfl) (fun r M' hq => ?_)
                  obtain ⟨rfl, rfl⟩ := hq
                  rw [show wRank 11 = 2 by decide]
                  change ax_J _ _ _ _ _ _ _ _ _ 130 [some (.inr (.inr (some (50, 0)))), some (.inl 11)] [.inl 2, .inr (.inr (some (50, 0)))] (P, g, r0, n)
                  refine aj_callV (av := [.inl 2]) (st := []) (f := 50) (o := 0) (ci := 11) cal_X11_doAll lk_11_121 ins_X11_doAll rfl sel_X11_doAll rfl (fun c9 h9 _ => by simpa [ax_ok] using h9) (sp_doAll 2 row w em o nst c _ _ _ _ hn hr hM (by omega) (by omega)) ⟨by decide, by decide, by decide, by decide⟩ (Nat.le_of_ble_eq_true rfl) (ax_dec2 (i := .invokevirtual 121) (n := 3) ok_X11_between rfl) (fun r M' hq => ?_)
                  obtain ⟨rfl, g3, rfl, fr3, hM3⟩ := hq
                  change ax_J _ _ _ _ _ _ _ _ _ 133 [some (.inr (.inr (some (50, 0)))), some (.inl 11)] [] (P, g3, r0, n)
                  refine aj_run (C := True) (pc' := 135) (la' := [some (.inr (.inr (some (50, 0)))), some (.inl 11)]) (st' := [.inl 11, .inr (.inr (some (50, 0)))]) (M' := (P, g3, r0, n)) ok_X11_between true 2 rfl trivial ?_
                  have hpl := (yPop_iv (r := 2) w em o hy.1).2.2.2.2.1
                  refine aj_callV (av := [.inl 11]) (st := []) (f := 50) (o := 0) (ci := 11) cal_X11_await lk_11_124 ins_X11_await rfl sel_X11_await rfl (fun c9 h9 _ => by simpa [ax_ok] using h9) (sp_await 11 row _ _ _ nst c _ _ _ _ hn hr hM3 (by omega)) ⟨by decide, by decide, by decide, by decide⟩ (Nat.le_of_ble_eq_true rfl) (ax_dec2 (i := .invokevirtual 124) (n := 3) ok_X11_between rfl) (fun r M' hq => ?_)
                  obtain ⟨rfl, g4, rfl, fr4, hM4⟩ := hq
                  change ax_J _ _ _ _ _ _ _ _ _ 138 [some (.inr (.inr (some (50, 0)))), some (.inl 11)] [] (P, g4, r0, n)
                  have f23 : g4 50 0 23 = nst := hM4.2.2.2.1
                  have f24 : g4 124 0 (g4 50 0 23) = c nst := by rw [f23]; exact hM4.2.2.2.2 nst (by omega) (by omega)
                  refine aj_run (C := True) (pc' := 147) (la' := [some (.inr (.inr (some (50, 0)))), some (.inl 11)]) (st' := [.inl 11, .inl (g4 50 0 23), .inr (.inr (some (124, 0)))]) (M' := (P, g4, r0, n)) ok_X11_between true 5 rfl trivial ?_
                  refine aj_callS (av := [.inl 11]) (st := [.inl (g4 50 0 23), .inr (.inr (some (124, 0)))]) cal_X11_rank lk_11_98 stc_X11_rank (sp_rank 11 _ _ _ _) ⟨by decide, by decide, by decide, by decide⟩ (Nat.le_of_ble_eq_true rfl) (ax_dec2 (i := .invokestatic 98) (n := 3) ok_X11_between rfl) (fun r M' hq => ?_)
                  obtain ⟨rfl, rfl⟩ := hq
                  rw [show wRank 11 = 2 by decide]
                  change ax_J _ _ _ _ _ _ _ _ _ 150 [some (.inr (.inr (some (50, 0)))), some (.inl 11)] [.inl 2, .inl (g4 50 0 23), .inr (.inr (some (124, 0)))] (P, g4, r0, n)
                  refine aj_run (C := True) (pc' := 151) (la' := [some (.inr (.inr (some (50, 0)))), some (.inl 11)]) (st' := [.inl 4, .inl 2, .inl (g4 50 0 23), .inr (.inr (some (124, 0)))]) (M' := (P, g4, r0, n)) ok_X11_between true 1 rfl trivial ?_
                  refine aj_icmp_eq (tgt := 174) (ax_dec2 (i := .if_icmp .eq 23) (n := 3) ok_X11_between rfl) (by decide) (fun c15 => ?_) (fun c15 => ?_)
                  · exact absurd c15 (by omega)
                  · refine aj_run (C := True) (pc' := 155) (la' := [some (.inr (.inr (some (50, 0)))), some (.inl 11)]) (st' := [.inl 11, .inl (g4 50 0 23), .inr (.inr (some (124, 0)))]) (M' := (P, g4, r0, n)) ok_X11_between true 1 rfl trivial ?_
                    refine aj_callS (av := [.inl 11]) (st := [.inl (g4 50 0 23), .inr (.inr (some (124, 0)))]) cal_X11_rank lk_11_98 stc_X11_rank (sp_rank 11 _ _ _ _) ⟨by decide, by decide, by decide, by decide⟩ (Nat.le_of_ble_eq_true rfl) (ax_dec2 (i := .invokestatic 98) (n := 3) ok_X11_between rfl) (fun r M' hq => ?_)
                    obtain ⟨rfl, rfl⟩ := hq
                    rw [show wRank 11 = 2 by decide]
                    change ax_J _ _ _ _ _ _ _ _ _ 158 [some (.inr (.inr (some (50, 0)))), some (.inl 11)] [.inl 2, .inl (g4 50 0 23), .inr (.inr (some (124, 0)))] (P, g4, r0, n)
                    refine aj_run (C := True) (pc' := 159) (la' := [some (.inr (.inr (some (50, 0)))), some (.inl 11)]) (st' := [.inl 4, .inl 2, .inl (g4 50 0 23), .inr (.inr (some (124, 0)))]) (M' := (P, g4, r0, n)) ok_X11_between true 1 rfl trivial ?_
                    refine aj_icmp_le (tgt := 178) (ax_dec2 (i := .if_icmp .le 19) (n := 3) ok_X11_between rfl) (by decide) (fun c16 => ?_) (fun c16 => ?_)
                    · refine aj_run (C := ((0 ≤ g4 50 0 23 ∧ g4 50 0 23 < n 124 0) ∧ (0 = 0 ∨ 0 = 1)) ∧ True) (pc' := 181) (la' := [some (.inr (.inr (some (50, 0)))), some (.inl 11)]) (st' := [.inl 1]) (M' := (P, ax_u3 g4 124 0 (g4 50 0 23) 0, r0, n)) ok_X11_between true 3 rfl (by refine ⟨?_, trivial⟩ <;> (omega)) ?_
                      refine aj_ret (r := some (.inl 1)) (ax_dec2 (i := .ireturn) (n := 1) ok_X11_between rfl) ⟨?_, ?_, by decide, by decide⟩ rfl
                      · exact ⟨_, rfl, fun f q j z => (ax_u3_n (fun y => z (by unfold TY; omega))).trans ((fr4 f q j z).trans (fr3 f q j z)), Or.inl ⟨rfl, ⟨by rw [hop]; decide, by rw [hop, show wRank 11 = 2 by decide]; omega⟩, by rw [hop, show wRank 11 = 2 by decide, f23]; (first | rw [if_pos (by omega)] | rw [if_neg (by omega)]); exact yM_c hM4⟩⟩
                      · exact Or.inr rfl
                    · exact absurd c16 (by omega)
                · exact absurd c14 (by omega)
          · replace c5 := bI_n0 c5
            refine aj_run (C := True) (pc' := 97) (la' := [some (.inr (.inr (some (50, 0)))), none]) (st' := [.inl 14]) (M' := (P, g, r0, n)) ok_X11_between true 2 rfl trivial ?_
            have hop : yOp t = 14 := by rw [show t = 61 by omega]; decide
            refine aj_run (C := True) (pc' := 100) (la' := [some (.inr (.inr (some (50, 0)))), some (.inl 14)]) (st' := [.inl (-1), .inl 14]) (M' := (P, g, r0, n)) ok_X11_between true 3 rfl trivial ?_
            refine aj_icmp_eq (tgt := 123) (ax_dec2 (i := .if_icmp .eq 23) (n := 3) ok_X11_between rfl) (by decide) (fun c17 => ?_) (fun c17 => ?_)
            · exact absurd c17 (by omega)
            · refine aj_run (C := True) (pc' := 104) (la' := [some (.inr (.inr (some (50, 0)))), some (.inl 14)]) (st' := [.inl 14]) (M' := (P, g, r0, n)) ok_X11_between true 1 rfl trivial ?_
              refine aj_callS (av := [.inl 14]) (st := []) cal_X11_rank lk_11_98 stc_X11_rank (sp_rank 14 _ _ _ _) ⟨by decide, by decide, by decide, by decide⟩ (Nat.le_of_ble_eq_true rfl) (ax_dec2 (i := .invokestatic 98) (n := 3) ok_X11_between rfl) (fun r M' hq => ?_)
              obtain ⟨rfl, rfl⟩ := hq
              rw [show wRank 14 = 4 by decide]
              change ax_J _ _ _ _ _ _ _ _ _ 107 [some (.inr (.inr (some (50, 0)))), some (.inl 14)] [.inl 4] (P, g, r0, n)
              refine aj_run (C := True) (pc' := 108) (la' := [some (.inr (.inr (some (50, 0)))), some (.inl 14)]) (st' := [.inl 4, .inl 4]) (M' := (P, g, r0, n)) ok_X11_between true 1 rfl trivial ?_
              refine aj_icmp_ne (tgt := 125) (ax_dec2 (i := .if_icmp .ne 17) (n := 3) ok_X11_between rfl) (by decide) (fun c18 => ?_) (fun c18 => ?_)
              · exact absurd c18 (by omega)
              · refine aj_run (C := (0 ≤ g 50 0 23 ∧ g 50 0 23 < n 124 0) ∧ True) (pc' := 120) (la' := [some (.inr (.inr (some (50, 0)))), some (.inl 14)]) (st' := [.inl (g 124 0 (g 50 0 23))]) (M' := (P, g, r0, n)) ok_X11_between true 5 rfl (by refine ⟨?_, trivial⟩ <;> (omega)) ?_
                refine aj_if_eq (tgt := 125) (ax_dec2 (i := .ifCond .eq 5) (n := 3) ok_X11_between rfl) (by decide) (fun c19 => ?_) (fun c19 => ?_)
                · refine aj_run (C := True) (pc' := 127) (la' := [some (.inr (.inr (some (50, 0)))), some (.inl 14)]) (st' := [.inl 14, .inr (.inr (some (50, 0)))]) (M' := (P, g, r0, n)) ok_X11_between true 2 rfl trivial ?_
                  refine aj_callS (av := [.inl 14]) (st := [.inr (.inr (some (50, 0)))]) cal_X11_rank lk_11_98 stc_X11_rank (sp_rank 14 _ _ _ _) ⟨by decide, by decide, by decide, by decide⟩ (Nat.le_of_ble_eq_true rfl) (ax_dec2 (i := .invokestatic 98) (n := 3) ok_X11_between rfl) (fun r M' hq => ?_)
                  obtain ⟨rfl, rfl⟩ := hq
                  rw [show wRank 14 = 4 by decide]
                  change ax_J _ _ _ _ _ _ _ _ _ 130 [some (.inr (.inr (some (50, 0)))), some (.inl 14)] [.inl 4, .inr (.inr (some (50, 0)))] (P, g, r0, n)
                  refine aj_callV (av := [.inl 4]) (st := []) (f := 50) (o := 0) (ci := 11) cal_X11_doAll lk_11_121 ins_X11_doAll rfl sel_X11_doAll rfl (fun c9 h9 _ => by simpa [ax_ok] using h9) (sp_doAll 4 row w em o nst c _ _ _ _ hn hr hM (by omega) (by omega)) ⟨by decide, by decide, by decide, by decide⟩ (Nat.le_of_ble_eq_true rfl) (ax_dec2 (i := .invokevirtual 121) (n := 3) ok_X11_between rfl) (fun r M' hq => ?_)
                  obtain ⟨rfl, g3, rfl, fr3, hM3⟩ := hq
                  change ax_J _ _ _ _ _ _ _ _ _ 133 [some (.inr (.inr (some (50, 0)))), some (.inl 14)] [] (P, g3, r0, n)
                  refine aj_run (C := True) (pc' := 135) (la' := [some (.inr (.inr (some (50, 0)))), some (.inl 14)]) (st' := [.inl 14, .inr (.inr (some (50, 0)))]) (M' := (P, g3, r0, n)) ok_X11_between true 2 rfl trivial ?_
                  have hpl := (yPop_iv (r := 4) w em o hy.1).2.2.2.2.1
                  refine aj_callV (av := [.inl 14]) (st := []) (f := 50) (o := 0) (ci := 11) cal_X11_await lk_11_124 ins_X11_await rfl sel_X11_await rfl (fun c9 h9 _ => by simpa [ax_ok] using h9) (sp_await 14 row _ _ _ nst c _ _ _ _ hn hr hM3 (by omega)) ⟨by decide, by decide, by decide, by decide⟩ (Nat.le_of_ble_eq_true rfl) (ax_dec2 (i := .invokevirtual 124) (n := 3) ok_X11_between rfl) (fun r M' hq => ?_)
                  obtain ⟨rfl, g4, rfl, fr4, hM4⟩ := hq
                  change ax_J _ _ _ _ _ _ _ _ _ 138 [some (.inr (.inr (some (50, 0)))), some (.inl 14)] [] (P, g4, r0, n)
                  have f23 : g4 50 0 23 = nst := hM4.2.2.2.1
                  have f24 : g4 124 0 (g4 50 0 23) = c nst := by rw [f23]; exact hM4.2.2.2.2 nst (by omega) (by omega)
                  refine aj_run (C := True) (pc' := 147) (la' := [some (.inr (.inr (some (50, 0)))), some (.inl 14)]) (st' := [.inl 14, .inl (g4 50 0 23), .inr (.inr (some (124, 0)))]) (M' := (P, g4, r0, n)) ok_X11_between true 5 rfl trivial ?_
                  refine aj_callS (av := [.inl 14]) (st := [.inl (g4 50 0 23), .inr (.inr (some (124, 0)))]) cal_X11_rank lk_11_98 stc_X11_rank (sp_rank 14 _ _ _ _) ⟨by decide, by decide, by decide, by decide⟩ (Nat.le_of_ble_eq_true rfl) (ax_dec2 (i := .invokestatic 98) (n := 3) ok_X11_between rfl) (fun r M' hq => ?_)
                  obtain ⟨rfl, rfl⟩ := hq
                  rw [show wRank 14 = 4 by decide]
                  change ax_J _ _ _ _ _ _ _ _ _ 150 [some (.inr (.inr (some (50, 0)))), some (.inl 14)] [.inl 4, .inl (g4 50 0 23), .inr (.inr (some (124, 0)))] (P, g4, r0, n)
                  refine aj_run (C := True) (pc' := 151) (la' := [some (.inr (.inr (some (50, 0)))), some (.inl 14)]) (st' := [.inl 4, .inl 4, .inl (g4 50 0 23), .inr (.inr (some (124, 0)))]) (M' := (P, g4, r0, n)) ok_X11_between true 1 rfl trivial ?_
                  refine aj_icmp_eq (tgt := 174) (ax_dec2 (i := .if_icmp .eq 23) (n := 3) ok_X11_between rfl) (by decide) (fun c20 => ?_) (fun c20 => ?_)
                  · refine aj_run (C := ((0 ≤ g4 50 0 23 ∧ g4 50 0 23 < n 124 0) ∧ (1 = 0 ∨ 1 = 1)) ∧ True) (pc' := 181) (la' := [some (.inr (.inr (some (50, 0)))), some (.inl 14)]) (st' := [.inl 1]) (M' := (P, ax_u3 g4 124 0 (g4 50 0 23) 1, r0, n)) ok_X11_between true 4 rfl (by refine ⟨?_, trivial⟩ <;> (omega)) ?_
                    refine aj_ret (r := some (.inl 1)) (ax_dec2 (i := .ireturn) (n := 1) ok_X11_between rfl) ⟨?_, ?_, by decide, by decide⟩ rfl
                    · exact ⟨_, rfl, fun f q j z => (ax_u3_n (fun y => z (by unfold TY; omega))).trans ((fr4 f q j z).trans (fr3 f q j z)), Or.inl ⟨rfl, ⟨by rw [hop]; decide, by rw [hop, show wRank 14 = 4 by decide]; omega⟩, by rw [hop, show wRank 14 = 4 by decide, f23]; (first | rw [if_pos (by omega)] | rw [if_neg (by omega)]); exact yM_c hM4⟩⟩
                    · exact Or.inr rfl
                  · exact absurd c20 (by omega)
                · refine aj_run (C := True) (pc' := 124) (la' := [some (.inr (.inr (some (50, 0)))), some (.inl 14)]) (st' := [.inl 0]) (M' := (P, g, r0, n)) ok_X11_between true 1 rfl trivial ?_
                  refine aj_ret (r := some (.inl 0)) (ax_dec2 (i := .ireturn) (n := 1) ok_X11_between rfl) ⟨?_, ?_, by decide, by decide⟩ rfl
                  · exact ⟨g, rfl, fun _ _ _ _ => rfl, Or.inr ⟨rfl, fun z => z.2 ⟨by rw [hop]; decide, by omega⟩, rfl⟩⟩
                  · exact Or.inl rfl
        · replace c4 := bI_n0 c4
          refine aj_run (C := True) (pc' := 97) (la' := [some (.inr (.inr (some (50, 0)))), none]) (st' := [.inl 13]) (M' := (P, g, r0, n)) ok_X11_between true 2 rfl trivial ?_
          have hop : yOp t = 13 := by rw [show t = 60 by omega]; decide
          refine aj_run (C := True) (pc' := 100) (la' := [some (.inr (.inr (some (50, 0)))), some (.inl 13)]) (st' := [.inl (-1), .inl 13]) (M' := (P, g, r0, n)) ok_X11_between true 3 rfl trivial ?_
          refine aj_icmp_eq (tgt := 123) (ax_dec2 (i := .if_icmp .eq 23) (n := 3) ok_X11_between rfl) (by decide) (fun c21 => ?_) (fun c21 => ?_)
          · exact absurd c21 (by omega)
          · refine aj_run (C := True) (pc' := 104) (la' := [some (.inr (.inr (some (50, 0)))), some (.inl 13)]) (st' := [.inl 13]) (M' := (P, g, r0, n)) ok_X11_between true 1 rfl trivial ?_
            refine aj_callS (av := [.inl 13]) (st := []) cal_X11_rank lk_11_98 stc_X11_rank (sp_rank 13 _ _ _ _) ⟨by decide, by decide, by decide, by decide⟩ (Nat.le_of_ble_eq_true rfl) (ax_dec2 (i := .invokestatic 98) (n := 3) ok_X11_between rfl) (fun r M' hq => ?_)
            obtain ⟨rfl, rfl⟩ := hq
            rw [show wRank 13 = 4 by decide]
            change ax_J _ _ _ _ _ _ _ _ _ 107 [some (.inr (.inr (some (50, 0)))), some (.inl 13)] [.inl 4] (P, g, r0, n)
            refine aj_run (C := True) (pc' := 108) (la' := [some (.inr (.inr (some (50, 0)))), some (.inl 13)]) (st' := [.inl 4, .inl 4]) (M' := (P, g, r0, n)) ok_X11_between true 1 rfl trivial ?_
            refine aj_icmp_ne (tgt := 125) (ax_dec2 (i := .if_icmp .ne 17) (n := 3) ok_X11_between rfl) (by decide) (fun c22 => ?_) (fun c22 => ?_)
            · exact absurd c22 (by omega)
            · refine aj_run (C := (0 ≤ g 50 0 23 ∧ g 50 0 23 < n 124 0) ∧ True) (pc' := 120) (la' := [some (.inr (.inr (some (50, 0)))), some (.inl 13)]) (st' := [.inl (g 124 0 (g 50 0 23))]) (M' := (P, g, r0, n)) ok_X11_between true 5 rfl (by refine ⟨?_, trivial⟩ <;> (omega)) ?_
              refine aj_if_eq (tgt := 125) (ax_dec2 (i := .ifCond .eq 5) (n := 3) ok_X11_between rfl) (by decide) (fun c23 => ?_) (fun c23 => ?_)
              · refine aj_run (C := True) (pc' := 127) (la' := [some (.inr (.inr (some (50, 0)))), some (.inl 13)]) (st' := [.inl 13, .inr (.inr (some (50, 0)))]) (M' := (P, g, r0, n)) ok_X11_between true 2 rfl trivial ?_
                refine aj_callS (av := [.inl 13]) (st := [.inr (.inr (some (50, 0)))]) cal_X11_rank lk_11_98 stc_X11_rank (sp_rank 13 _ _ _ _) ⟨by decide, by decide, by decide, by decide⟩ (Nat.le_of_ble_eq_true rfl) (ax_dec2 (i := .invokestatic 98) (n := 3) ok_X11_between rfl) (fun r M' hq => ?_)
                obtain ⟨rfl, rfl⟩ := hq
                rw [show wRank 13 = 4 by decide]
                change ax_J _ _ _ _ _ _ _ _ _ 130 [some (.inr (.inr (some (50, 0)))), some (.inl 13)] [.inl 4, .inr (.inr (some (50, 0)))] (P, g, r0, n)
                refine aj_callV (av := [.inl 4]) (st := []) (f := 50) (o := 0) (ci := 11) cal_X11_doAll lk_11_121 ins_X11_doAll rfl sel_X11_doAll rfl (fun c9 h9 _ => by simpa [ax_ok] using h9) (sp_doAll 4 row w em o nst c _ _ _ _ hn hr hM (by omega) (by omega)) ⟨by decide, by decide, by decide, by decide⟩ (Nat.le_of_ble_eq_true rfl) (ax_dec2 (i := .invokevirtual 121) (n := 3) ok_X11_between rfl) (fun r M' hq => ?_)
                obtain ⟨rfl, g3, rfl, fr3, hM3⟩ := hq
                change ax_J _ _ _ _ _ _ _ _ _ 133 [some (.inr (.inr (some (50, 0)))), some (.inl 13)] [] (P, g3, r0, n)
                refine aj_run (C := True) (pc' := 135) (la' := [some (.inr (.inr (some (50, 0)))), some (.inl 13)]) (st' := [.inl 13, .inr (.inr (some (50, 0)))]) (M' := (P, g3, r0, n)) ok_X11_between true 2 rfl trivial ?_
                have hpl := (yPop_iv (r := 4) w em o hy.1).2.2.2.2.1
                refine aj_callV (av := [.inl 13]) (st := []) (f := 50) (o := 0) (ci := 11) cal_X11_await lk_11_124 ins_X11_await rfl sel_X11_await rfl (fun c9 h9 _ => by simpa [ax_ok] using h9) (sp_await 13 row _ _ _ nst c _ _ _ _ hn hr hM3 (by omega)) ⟨by decide, by decide, by decide, by decide⟩ (Nat.le_of_ble_eq_true rfl) (ax_dec2 (i := .invokevirtual 124) (n := 3) ok_X11_between rfl) (fun r M' hq => ?_)
                obtain ⟨rfl, g4, rfl, fr4, hM4⟩ := hq
                change ax_J _ _ _ _ _ _ _ _ _ 138 [some (.inr (.inr (some (50, 0)))), some (.inl 13)] [] (P, g4, r0, n)
                have f23 : g4 50 0 23 = nst := hM4.2.2.2.1
                have f24 : g4 124 0 (g4 50 0 23) = c nst := by rw [f23]; exact hM4.2.2.2.2 nst (by omega) (by omega)
                refine aj_run (C := True) (pc' := 147) (la' := [some (.inr (.inr (some (50, 0)))), some (.inl 13)]) (st' := [.inl 13, .inl (g4 50 0 23), .inr (.inr (some (124, 0)))]) (M' := (P, g4, r0, n)) ok_X11_between true 5 rfl trivial ?_
                refine aj_callS (av := [.inl 13]) (st := [.inl (g4 50 0 23), .inr (.inr (some (124, 0)))]) cal_X11_rank lk_11_98 stc_X11_rank (sp_rank 13 _ _ _ _) ⟨by decide, by decide, by decide, by decide⟩ (Nat.le_of_ble_eq_true rfl) (ax_dec2 (i := .invokestatic 98) (n := 3) ok_X11_between rfl) (fun r M' hq => ?_)
                obtain ⟨rfl, rfl⟩ := hq
                rw [show wRank 13 = 4 by decide]
                change ax_J _ _ _ _ _ _ _ _ _ 150 [some (.inr (.inr (some (50, 0)))), some (.inl 13)] [.inl 4, .inl (g4 50 0 23), .inr (.inr (some (124, 0)))] (P, g4, r0, n)
                refine aj_run (C := True) (pc' := 151) (la' := [some (.inr (.inr (some (50, 0)))), some (.inl 13)]) (st' := [.inl 4, .inl 4, .inl (g4 50 0 23), .inr (.inr (some (124, 0)))]) (M' := (P, g4, r0, n)) ok_X11_between true 1 rfl trivial ?_
                refine aj_icmp_eq (tgt := 174) (ax_dec2 (i := .if_icmp .eq 23) (n := 3) ok_X11_between rfl) (by decide) (fun c24 => ?_) (fun c24 => ?_)
                · refine aj_run (C := ((0 ≤ g4 50 0 23 ∧ g4 50 0 23 < n 124 0) ∧ (1 = 0 ∨ 1 = 1)) ∧ True) (pc' := 181) (la' := [some (.inr (.inr (some (50, 0)))), some (.inl 13)]) (st' := [.inl 1]) (M' := (P, ax_u3 g4 124 0 (g4 50 0 23) 1, r0, n)) ok_X11_between true 4 rfl (by refine ⟨?_, trivial⟩ <;> (omega)) ?_
                  refine aj_ret (r := some (.inl 1)) (ax_dec2 (i := .ireturn) (n := 1) ok_X11_between rfl) ⟨?_, ?_, by decide, by decide⟩ rfl
                  · exact ⟨_, rfl, fun f q j z => (ax_u3_n (fun y => z (by unfold TY; omega))).trans ((fr4 f q j z).trans (fr3 f q j z)), Or.inl ⟨rfl, ⟨by rw [hop]; decide, by rw [hop, show wRank 13 = 4 by decide]; omega⟩, by rw [hop, show wRank 13 = 4 by decide, f23]; (first | rw [if_pos (by omega)] | rw [if_neg (by omega)]); exact yM_c hM4⟩⟩
                  · exact Or.inr rfl
                · exact absurd c24 (by omega)
              · refine aj_run (C := True) (pc' := 124) (la' := [some (.inr (.inr (some (50, 0)))), some (.inl 13)]) (st' := [.inl 0]) (M' := (P, g, r0, n)) ok_X11_between true 1 rfl trivial ?_
                refine aj_ret (r := some (.inl 0)) (ax_dec2 (i := .ireturn) (n := 1) ok_X11_between rfl) ⟨?_, ?_, by decide, by decide⟩ rfl
                · exact ⟨g, rfl, fun _ _ _ _ => rfl, Or.inr ⟨rfl, fun z => z.2 ⟨by rw [hop]; decide, by omega⟩, rfl⟩⟩
                · exact Or.inl rfl
      · replace c3 := bI_n0 c3
        refine aj_run (C := True) (pc' := 97) (la' := [some (.inr (.inr (some (50, 0)))), none]) (st' := [.inl 17]) (M' := (P, g, r0, n)) ok_X11_between true 2 rfl trivial ?_
        have hop : yOp t = 17 := by rw [show t = 42 by omega]; decide
        refine aj_run (C := True) (pc' := 100) (la' := [some (.inr (.inr (some (50, 0)))), some (.inl 17)]) (st' := [.inl (-1), .inl 17]) (M' := (P, g, r0, n)) ok_X11_between true 3 rfl trivial ?_
        refine aj_icmp_eq (tgt := 123) (ax_dec2 (i := .if_icmp .eq 23) (n := 3) ok_X11_between rfl) (by decide) (fun c25 => ?_) (fun c25 => ?_)
        · exact absurd c25 (by omega)
        · refine aj_run (C := True) (pc' := 104) (la' := [some (.inr (.inr (some (50, 0)))), some (.inl 17)]) (st' := [.inl 17]) (M' := (P, g, r0, n)) ok_X11_between true 1 rfl trivial ?_
          refine aj_callS (av := [.inl 17]) (st := []) cal_X11_rank lk_11_98 stc_X11_rank (sp_rank 17 _ _ _ _) ⟨by decide, by decide, by decide, by decide⟩ (Nat.le_of_ble_eq_true rfl) (ax_dec2 (i := .invokestatic 98) (n := 3) ok_X11_between rfl) (fun r M' hq => ?_)
          obtain ⟨rfl, rfl⟩ := hq
          rw [show wRank 17 = 6 by decide]
          change ax_J _ _ _ _ _ _ _ _ _ 107 [some (.inr (.inr (some (50, 0)))), some (.inl 17)] [.inl 6] (P, g, r0, n)
          refine aj_run (C := True) (pc' := 108) (la' := [some (.inr (.inr (some (50, 0)))), some (.inl 17)]) (st' := [.inl 4, .inl 6]) (M' := (P, g, r0, n)) ok_X11_between true 1 rfl trivial ?_
          refine aj_icmp_ne (tgt := 125) (ax_dec2 (i := .if_icmp .ne 17) (n := 3) ok_X11_between rfl) (by decide) (fun c26 => ?_) (fun c26 => ?_)
          · refine aj_run (C := True) (pc' := 127) (la' := [some (.inr (.inr (some (50, 0)))), some (.inl 17)]) (st' := [.inl 17, .inr (.inr (some (50, 0)))]) (M' := (P, g, r0, n)) ok_X11_between true 2 rfl trivial ?_
            refine aj_callS (av := [.inl 17]) (st := [.inr (.inr (some (50, 0)))]) cal_X11_rank lk_11_98 stc_X11_rank (sp_rank 17 _ _ _ _) ⟨by decide, by decide, by decide, by decide⟩ (Nat.le_of_ble_eq_true rfl) (ax_dec2 (i := .invokestatic 98) (n := 3) ok_X11_between rfl) (fun r M' hq => ?_)
            obtain ⟨rfl, rfl⟩ := hq
            rw [show wRank 17 = 6 by decide]
            change ax_J _ _ _ _ _ _ _ _ _ 130 [some (.inr (.inr (some (50, 0)))), some (.inl 17)] [.inl 6, .inr (.inr (some (50, 0)))] (P, g, r0, n)
            refine aj_callV (av := [.inl 6]) (st := []) (f := 50) (o := 0) (ci := 11) cal_X11_doAll lk_11_121 ins_X11_doAll rfl sel_X11_doAll rfl (fun c9 h9 _ => by simpa [ax_ok] using h9) (sp_doAll 6 row w em o nst c _ _ _ _ hn hr hM (by omega) (by omega)) ⟨by decide, by decide, by decide, by decide⟩ (Nat.le_of_ble_eq_true rfl) (ax_dec2 (i := .invokevirtual 121) (n := 3) ok_X11_between rfl) (fun r M' hq => ?_)
            obtain ⟨rfl, g3, rfl, fr3, hM3⟩ := hq
            change ax_J _ _ _ _ _ _ _ _ _ 133 [some (.inr (.inr (some (50, 0)))), some (.inl 17)] [] (P, g3, r0, n)
            refine aj_run (C := True) (pc' := 135) (la' := [some (.inr (.inr (some (50, 0)))), some (.inl 17)]) (st' := [.inl 17, .inr (.inr (some (50, 0)))]) (M' := (P, g3, r0, n)) ok_X11_between true 2 rfl trivial ?_
            have hpl := (yPop_iv (r := 6) w em o hy.1).2.2.2.2.1
            refine aj_callV (av := [.inl 17]) (st := []) (f := 50) (o := 0) (ci := 11) cal_X11_await lk_11_124 ins_X11_await rfl sel_X11_await rfl (fun c9 h9 _ => by simpa [ax_ok] using h9) (sp_await 17 row _ _ _ nst c _ _ _ _ hn hr hM3 (by omega)) ⟨by decide, by decide, by decide, by decide⟩ (Nat.le_of_ble_eq_true rfl) (ax_dec2 (i := .invokevirtual 124) (n := 3) ok_X11_between rfl) (fun r M' hq => ?_)
            obtain ⟨rfl, g4, rfl, fr4, hM4⟩ := hq
            change ax_J _ _ _ _ _ _ _ _ _ 138 [some (.inr (.inr (some (50, 0)))), some (.inl 17)] [] (P, g4, r0, n)
            have f23 : g4 50 0 23 = nst := hM4.2.2.2.1
            have f24 : g4 124 0 (g4 50 0 23) = c nst := by rw [f23]; exact hM4.2.2.2.2 nst (by omega) (by omega)
            refine aj_run (C := True) (pc' := 147) (la' := [some (.inr (.inr (some (50, 0)))), some (.inl 17)]) (st' := [.inl 17, .inl (g4 50 0 23), .inr (.inr (some (124, 0)))]) (M' := (P, g4, r0, n)) ok_X11_between true 5 rfl trivial ?_
            refine aj_callS (av := [.inl 17]) (st := [.inl (g4 50 0 23), .inr (.inr (some (124, 0)))]) cal_X11_rank lk_11_98 stc_X11_rank (sp_rank 17 _ _ _ _) ⟨by decide, by decide, by decide, by decide⟩ (Nat.le_of_ble_eq_true rfl) (ax_dec2 (i := .invokestatic 98) (n := 3) ok_X11_between rfl) (fun r M' hq => ?_)
            obtain ⟨rfl, rfl⟩ := hq
            rw [show wRank 17 = 6 by decide]
            change ax_J _ _ _ _ _ _ _ _ _ 150 [some (.inr (.inr (some (50, 0)))), some (.inl 17)] [.inl 6, .inl (g4 50 0 23), .inr (.inr (some (124, 0)))] (P, g4, r0, n)
            refine aj_run (C := True) (pc' := 151) (la' := [some (.inr (.inr (some (50, 0)))), some (.inl 17)]) (st' := [.inl 4, .inl 6, .inl (g4 50 0 23), .inr (.inr (some (124, 0)))]) (M' := (P, g4, r0, n)) ok_X11_between true 1 rfl trivial ?_
            refine aj_icmp_eq (tgt := 174) (ax_dec2 (i := .if_icmp .eq 23) (n := 3) ok_X11_between rfl) (by decide) (fun c27 => ?_) (fun c27 => ?_)
            · exact absurd c27 (by omega)
            · refine aj_run (C := True) (pc' := 155) (la' := [some (.inr (.inr (some (50, 0)))), some (.inl 17)]) (st' := [.inl 17, .inl (g4 50 0 23), .inr (.inr (some (124, 0)))]) (M' := (P, g4, r0, n)) ok_X11_between true 1 rfl trivial ?_
              refine aj_callS (av := [.inl 17]) (st := [.inl (g4 50 0 23), .inr (.inr (some (124, 0)))]) cal_X11_rank lk_11_98 stc_X11_rank (sp_rank 17 _ _ _ _) ⟨by decide, by decide, by decide, by decide⟩ (Nat.le_of_ble_eq_true rfl) (ax_dec2 (i := .invokestatic 98) (n := 3) ok_X11_between rfl) (fun r M' hq => ?_)
              obtain ⟨rfl, rfl⟩ := hq
              rw [show wRank 17 = 6 by decide]
              change ax_J _ _ _ _ _ _ _ _ _ 158 [some (.inr (.inr (some (50, 0)))), some (.inl 17)] [.inl 6, .inl (g4 50 0 23), .inr (.inr (some (124, 0)))] (P, g4, r0, n)
              refine aj_run (C := True) (pc' := 159) (la' := [some (.inr (.inr (some (50, 0)))), some (.inl 17)]) (st' := [.inl 4, .inl 6, .inl (g4 50 0 23), .inr (.inr (some (124, 0)))]) (M' := (P, g4, r0, n)) ok_X11_between true 1 rfl trivial ?_
              refine aj_icmp_le (tgt := 178) (ax_dec2 (i := .if_icmp .le 19) (n := 3) ok_X11_between rfl) (by decide) (fun c28 => ?_) (fun c28 => ?_)
              · exact absurd c28 (by omega)
              · refine aj_run (C := (0 ≤ g4 50 0 23 ∧ g4 50 0 23 < n 124 0) ∧ True) (pc' := 171) (la' := [some (.inr (.inr (some (50, 0)))), some (.inl 17)]) (st' := [.inl (g4 124 0 (g4 50 0 23)), .inl (g4 50 0 23), .inr (.inr (some (124, 0)))]) (M' := (P, g4, r0, n)) ok_X11_between true 5 rfl (by refine ⟨?_, trivial⟩ <;> (omega)) ?_
                refine aj_if_eq (tgt := 178) (ax_dec2 (i := .ifCond .eq 7) (n := 3) ok_X11_between rfl) (by decide) (fun c29 => ?_) (fun c29 => ?_)
                · refine aj_run (C := ((0 ≤ g4 50 0 23 ∧ g4 50 0 23 < n 124 0) ∧ (0 = 0 ∨ 0 = 1)) ∧ True) (pc' := 181) (la' := [some (.inr (.inr (some (50, 0)))), some (.inl 17)]) (st' := [.inl 1]) (M' := (P, ax_u3 g4 124 0 (g4 50 0 23) 0, r0, n)) ok_X11_between true 3 rfl (by refine ⟨?_, trivial⟩ <;> (omega)) ?_
                  refine aj_ret (r := some (.inl 1)) (ax_dec2 (i := .ireturn) (n := 1) ok_X11_between rfl) ⟨?_, ?_, by decide, by decide⟩ rfl
                  · exact ⟨_, rfl, fun f q j z => (ax_u3_n (fun y => z (by unfold TY; omega))).trans ((fr4 f q j z).trans (fr3 f q j z)), Or.inl ⟨rfl, ⟨by rw [hop]; decide, by rw [hop, show wRank 17 = 6 by decide]; omega⟩, by rw [hop, show wRank 17 = 6 by decide, f23]; (first | rw [if_pos (by omega)] | rw [if_neg (by omega)]); exact yM_c hM4⟩⟩
                  · exact Or.inr rfl
                · refine aj_run (C := ((0 ≤ g4 50 0 23 ∧ g4 50 0 23 < n 124 0) ∧ (1 = 0 ∨ 1 = 1)) ∧ True) (pc' := 181) (la' := [some (.inr (.inr (some (50, 0)))), some (.inl 17)]) (st' := [.inl 1]) (M' := (P, ax_u3 g4 124 0 (g4 50 0 23) 1, r0, n)) ok_X11_between true 4 rfl (by refine ⟨?_, trivial⟩ <;> (omega)) ?_
                  refine aj_ret (r := some (.inl 1)) (ax_dec2 (i := .ireturn) (n := 1) ok_X11_between rfl) ⟨?_, ?_, by decide, by decide⟩ rfl
                  · exact ⟨_, rfl, fun f q j z => (ax_u3_n (fun y => z (by unfold TY; omega))).trans ((fr4 f q j z).trans (fr3 f q j z)), Or.inl ⟨rfl, ⟨by rw [hop]; decide, by rw [hop, show wRank 17 = 6 by decide]; omega⟩, by rw [hop, show wRank 17 = 6 by decide, f23]; (first | rw [if_pos (by omega)] | rw [if_neg (by omega)]); exact yM_c hM4⟩⟩
                  · exact Or.inr rfl
          · exact absurd c26 (by omega)
    · replace c2 := bI_n0 c2
      refine aj_run (C := True) (pc' := 97) (la' := [some (.inr (.inr (some (50, 0)))), none]) (st' := [.inl 16]) (M' := (P, g, r0, n)) ok_X11_between true 2 rfl trivial ?_
      have hop : yOp t = 16 := by rw [show t = 45 by omega]; decide
      refine aj_run (C := True) (pc' := 100) (la' := [some (.inr (.inr (some (50, 0)))), some (.inl 16)]) (st' := [.inl (-1), .inl 16]) (M' := (P, g, r0, n)) ok_X11_between true 3 rfl trivial ?_
      refine aj_icmp_eq (tgt := 123) (ax_dec2 (i := .if_icmp .eq 23) (n := 3) ok_X11_between rfl) (by decide) (fun c30 => ?_) (fun c30 => ?_)
      · exact absurd c30 (by omega)
      · refine aj_run (C := True) (pc' := 104) (la' := [some (.inr (.inr (some (50, 0)))), some (.inl 16)]) (st' := [.inl 16]) (M' := (P, g, r0, n)) ok_X11_between true 1 rfl trivial ?_
        refine aj_callS (av := [.inl 16]) (st := []) cal_X11_rank lk_11_98 stc_X11_rank (sp_rank 16 _ _ _ _) ⟨by decide, by decide, by decide, by decide⟩ (Nat.le_of_ble_eq_true rfl) (ax_dec2 (i := .invokestatic 98) (n := 3) ok_X11_between rfl) (fun r M' hq => ?_)
        obtain ⟨rfl, rfl⟩ := hq
        rw [show wRank 16 = 5 by decide]
        change ax_J _ _ _ _ _ _ _ _ _ 107 [some (.inr (.inr (some (50, 0)))), some (.inl 16)] [.inl 5] (P, g, r0, n)
        refine aj_run (C := True) (pc' := 108) (la' := [some (.inr (.inr (some (50, 0)))), some (.inl 16)]) (st' := [.inl 4, .inl 5]) (M' := (P, g, r0, n)) ok_X11_between true 1 rfl trivial ?_
        refine aj_icmp_ne (tgt := 125) (ax_dec2 (i := .if_icmp .ne 17) (n := 3) ok_X11_between rfl) (by decide) (fun c31 => ?_) (fun c31 => ?_)
        · refine aj_run (C := True) (pc' := 127) (la' := [some (.inr (.inr (some (50, 0)))), some (.inl 16)]) (st' := [.inl 16, .inr (.inr (some (50, 0)))]) (M' := (P, g, r0, n)) ok_X11_between true 2 rfl trivial ?_
          refine aj_callS (av := [.inl 16]) (st := [.inr (.inr (some (50, 0)))]) cal_X11_rank lk_11_98 stc_X11_rank (sp_rank 16 _ _ _ _) ⟨by decide, by decide, by decide, by decide⟩ (Nat.le_of_ble_eq_true rfl) (ax_dec2 (i := .invokestatic 98) (n := 3) ok_X11_between rfl) (fun r M' hq => ?_)
          obtain ⟨rfl, rfl⟩ := hq
          rw [show wRank 16 = 5 by decide]
          change ax_J _ _ _ _ _ _ _ _ _ 130 [some (.inr (.inr (some (50, 0)))), some (.inl 16)] [.inl 5, .inr (.inr (some (50, 0)))] (P, g, r0, n)
          refine aj_callV (av := [.inl 5]) (st := []) (f := 50) (o := 0) (ci := 11) cal_X11_doAll lk_11_121 ins_X11_doAll rfl sel_X11_doAll rfl (fun c9 h9 _ => by simpa [ax_ok] using h9) (sp_doAll 5 row w em o nst c _ _ _ _ hn hr hM (by omega) (by omega)) ⟨by decide, by decide, by decide, by decide⟩ (Nat.le_of_ble_eq_true rfl) (ax_dec2 (i := .invokevirtual 121) (n := 3) ok_X11_between rfl) (fun r M' hq => ?_)
          obtain ⟨rfl, g3, rfl, fr3, hM3⟩ := hq
          change ax_J _ _ _ _ _ _ _ _ _ 133 [some (.inr (.inr (some (50, 0)))), some (.inl 16)] [] (P, g3, r0, n)
          refine aj_run (C := True) (pc' := 135) (la' := [some (.inr (.inr (some (50, 0)))), some (.inl 16)]) (st' := [.inl 16, .inr (.inr (some (50, 0)))]) (M' := (P, g3, r0, n)) ok_X11_between true 2 rfl trivial ?_
          have hpl := (yPop_iv (r := 5) w em o hy.1).2.2.2.2.1
          refine aj_callV (av := [.inl 16]) (st := []) (f := 50) (o := 0) (ci := 11) cal_X11_await lk_11_124 ins_X11_await rfl sel_X11_await rfl (fun c9 h9 _ => by simpa [ax_ok] using h9) (sp_await 16 row _ _ _ nst c _ _ _ _ hn hr hM3 (by omega)) ⟨by decide, by decide, by decide, by decide⟩ (Nat.le_of_ble_eq_true rfl) (ax_dec2 (i := .invokevirtual 124) (n := 3) ok_X11_between rfl) (fun r M' hq => ?_)
          obtain ⟨rfl, g4, rfl, fr4, hM4⟩ := hq
          change ax_J _ _ _ _ _ _ _ _ _ 138 [some (.inr (.inr (some (50, 0)))), some (.inl 16)] [] (P, g4, r0, n)
          have f23 : g4 50 0 23 = nst := hM4.2.2.2.1
          have f24 : g4 124 0 (g4 50 0 23) = c nst := by rw [f23]; exact hM4.2.2.2.2 nst (by omega) (by omega)
          refine aj_run (C := True) (pc' := 147) (la' := [some (.inr (.inr (some (50, 0)))), some (.inl 16)]) (st' := [.inl 16, .inl (g4 50 0 23), .inr (.inr (some (124, 0)))]) (M' := (P, g4, r0, n)) ok_X11_between true 5 rfl trivial ?_
          refine aj_callS (av := [.inl 16]) (st := [.inl (g4 50 0 23), .inr (.inr (some (124, 0)))]) cal_X11_rank lk_11_98 stc_X11_rank (sp_rank 16 _ _ _ _) ⟨by decide, by decide, by decide, by decide⟩ (Nat.le_of_ble_eq_true rfl) (ax_dec2 (i := .invokestatic 98) (n := 3) ok_X11_between rfl) (fun r M' hq => ?_)
          obtain ⟨rfl, rfl⟩ := hq
          rw [show wRank 16 = 5 by decide]
          change ax_J _ _ _ _ _ _ _ _ _ 150 [some (.inr (.inr (some (50, 0)))), some (.inl 16)] [.inl 5, .inl (g4 50 0 23), .inr (.inr (some (124, 0)))] (P, g4, r0, n)
          refine aj_run (C := True) (pc' := 151) (la' := [some (.inr (.inr (some (50, 0)))), some (.inl 16)]) (st' := [.inl 4, .inl 5, .inl (g4 50 0 23), .inr (.inr (some (124, 0)))]) (M' := (P, g4, r0, n)) ok_X11_between true 1 rfl trivial ?_
          refine aj_icmp_eq (tgt := 174) (ax_dec2 (i := .if_icmp .eq 23) (n := 3) ok_X11_between rfl) (by decide) (fun c32 => ?_) (fun c32 => ?_)
          · exact absurd c32 (by omega)
          · refine aj_run (C := True) (pc' := 155) (la' := [some (.inr (.inr (some (50, 0)))), some (.inl 16)]) (st' := [.inl 16, .inl (g4 50 0 23), .inr (.inr (some (124, 0)))]) (M' := (P, g4, r0, n)) ok_X11_between true 1 rfl trivial ?_
            refine aj_callS (av := [.inl 16]) (st := [.inl (g4 50 0 23), .inr (.inr (some (124, 0)))]) cal_X11_rank lk_11_98 stc_X11_rank (sp_rank 16 _ _ _ _) ⟨by decide, by decide, by decide, by decide⟩ (Nat.le_of_ble_eq_true rfl) (ax_dec2 (i := .invokestatic 98) (n := 3) ok_X11_between rfl) (fun r M' hq => ?_)
            obtain ⟨rfl, rfl⟩ := hq
            rw [show wRank 16 = 5 by decide]
            change ax_J _ _ _ _ _ _ _ _ _ 158 [some (.inr (.inr (some (50, 0)))), some (.inl 16)] [.inl 5, .inl (g4 50 0 23), .inr (.inr (some (124, 0)))] (P, g4, r0, n)
            refine aj_run (C := True) (pc' := 159) (la' := [some (.inr (.inr (some (50, 0)))), some (.inl 16)]) (st' := [.inl 4, .inl 5, .inl (g4 50 0 23), .inr (.inr (some (124, 0)))]) (M' := (P, g4, r0, n)) ok_X11_between true 1 rfl trivial ?_
            refine aj_icmp_le (tgt := 178) (ax_dec2 (i := .if_icmp .le 19) (n := 3) ok_X11_between rfl) (by decide) (fun c33 => ?_) (fun c33 => ?_)
            · exact absurd c33 (by omega)
            · refine aj_run (C := (0 ≤ g4 50 0 23 ∧ g4 50 0 23 < n 124 0) ∧ True) (pc' := 171) (la' := [some (.inr (.inr (some (50, 0)))), some (.inl 16)]) (st' := [.inl (g4 124 0 (g4 50 0 23)), .inl (g4 50 0 23), .inr (.inr (some (124, 0)))]) (M' := (P, g4, r0, n)) ok_X11_between true 5 rfl (by refine ⟨?_, trivial⟩ <;> (omega)) ?_
              refine aj_if_eq (tgt := 178) (ax_dec2 (i := .ifCond .eq 7) (n := 3) ok_X11_between rfl) (by decide) (fun c34 => ?_) (fun c34 => ?_)
              · refine aj_run (C := ((0 ≤ g4 50 0 23 ∧ g4 50 0 23 < n 124 0) ∧ (0 = 0 ∨ 0 = 1)) ∧ True) (pc' := 181) (la' := [some (.inr (.inr (some (50, 0)))), some (.inl 16)]) (st' := [.inl 1]) (M' := (P, ax_u3 g4 124 0 (g4 50 0 23) 0, r0, n)) ok_X11_between true 3 rfl (by refine ⟨?_, trivial⟩ <;> (omega)) ?_
                refine aj_ret (r := some (.inl 1)) (ax_dec2 (i := .ireturn) (n := 1) ok_X11_between rfl) ⟨?_, ?_, by decide, by decide⟩ rfl
                · exact ⟨_, rfl, fun f q j z => (ax_u3_n (fun y => z (by unfold TY; omega))).trans ((fr4 f q j z).trans (fr3 f q j z)), Or.inl ⟨rfl, ⟨by rw [hop]; decide, by rw [hop, show wRank 16 = 5 by decide]; omega⟩, by rw [hop, show wRank 16 = 5 by decide, f23]; (first | rw [if_pos (by omega)] | rw [if_neg (by omega)]); exact yM_c hM4⟩⟩
                · exact Or.inr rfl
              · refine aj_run (C := ((0 ≤ g4 50 0 23 ∧ g4 50 0 23 < n 124 0) ∧ (1 = 0 ∨ 1 = 1)) ∧ True) (pc' := 181) (la' := [some (.inr (.inr (some (50, 0)))), some (.inl 16)]) (st' := [.inl 1]) (M' := (P, ax_u3 g4 124 0 (g4 50 0 23) 1, r0, n)) ok_X11_between true 4 rfl (by refine ⟨?_, trivial⟩ <;> (omega)) ?_
                refine aj_ret (r := some (.inl 1)) (ax_dec2 (i := .ireturn) (n := 1) ok_X11_between rfl) ⟨?_, ?_, by decide, by decide⟩ rfl
                · exact ⟨_, rfl, fun f q j z => (ax_u3_n (fun y => z (by unfold TY; omega))).trans ((fr4 f q j z).trans (fr3 f q j z)), Or.inl ⟨rfl, ⟨by rw [hop]; decide, by rw [hop, show wRank 16 = 5 by decide]; omega⟩, by rw [hop, show wRank 16 = 5 by decide, f23]; (first | rw [if_pos (by omega)] | rw [if_neg (by omega)]); exact yM_c hM4⟩⟩
                · exact Or.inr rfl
        · exact absurd c31 (by omega)
  · replace c1 := bI_n0 c1
    refine aj_run (C := True) (pc' := 97) (la' := [some (.inr (.inr (some (50, 0)))), none]) (st' := [.inl 15]) (M' := (P, g, r0, n)) ok_X11_between true 2 rfl trivial ?_
    have hop : yOp t = 15 := by rw [show t = 43 by omega]; decide
    refine aj_run (C := True) (pc' := 100) (la' := [some (.inr (.inr (some (50, 0)))), some (.inl 15)]) (st' := [.inl (-1), .inl 15]) (M' := (P, g, r0, n)) ok_X11_between true 3 rfl trivial ?_
    refine aj_icmp_eq (tgt := 123) (ax_dec2 (i := .if_icmp .eq 23) (n := 3) ok_X11_between rfl) (by decide) (fun c35 => ?_) (fun c35 => ?_)
    · exact absurd c35 (by omega)
    · refine aj_run (C := True) (pc' := 104) (la' := [some (.inr (.inr (some (50, 0)))), some (.inl 15)]) (st' := [.inl 15]) (M' := (P, g, r0, n)) ok_X11_between true 1 rfl trivial ?_
      refine aj_callS (av := [.inl 15]) (st := []) cal_X11_rank lk_11_98 stc_X11_rank (sp_rank 15 _ _ _ _) ⟨by decide, by decide, by decide, by decide⟩ (Nat.le_of_ble_eq_true rfl) (ax_dec2 (i := .invokestatic 98) (n := 3) ok_X11_between rfl) (fun r M' hq => ?_)
      obtain ⟨rfl, rfl⟩ := hq
      rw [show wRank 15 = 5 by decide]
      change ax_J _ _ _ _ _ _ _ _ _ 107 [some (.inr (.inr (some (50, 0)))), some (.inl 15)] [.inl 5] (P, g, r0, n)
      refine aj_run (C := True) (pc' := 108) (la' := [some (.inr (.inr (some (50, 0)))), some (.inl 15)]) (st' := [.inl 4, .inl 5]) (M' := (P, g, r0, n)) ok_X11_between true 1 rfl trivial ?_
      refine aj_icmp_ne (tgt := 125) (ax_dec2 (i := .if_icmp .ne 17) (n := 3) ok_X11_between rfl) (by decide) (fun c36 => ?_) (fun c36 => ?_)
      · refine aj_run (C := True) (pc' := 127) (la' := [some (.inr (.inr (some (50, 0)))), some (.inl 15)]) (st' := [.inl 15, .inr (.inr (some (50, 0)))]) (M' := (P, g, r0, n)) ok_X11_between true 2 rfl trivial ?_
        refine aj_callS (av := [.inl 15]) (st := [.inr (.inr (some (50, 0)))]) cal_X11_rank lk_11_98 stc_X11_rank (sp_rank 15 _ _ _ _) ⟨by decide, by decide, by decide, by decide⟩ (Nat.le_of_ble_eq_true rfl) (ax_dec2 (i := .invokestatic 98) (n := 3) ok_X11_between rfl) (fun r M' hq => ?_)
        obtain ⟨rfl, rfl⟩ := hq
        rw [show wRank 15 = 5 by decide]
        change ax_J _ _ _ _ _ _ _ _ _ 130 [some (.inr (.inr (some (50, 0)))), some (.inl 15)] [.inl 5, .inr (.inr (some (50, 0)))] (P, g, r0, n)
        refine aj_callV (av := [.inl 5]) (st := []) (f := 50) (o := 0) (ci := 11) cal_X11_doAll lk_11_121 ins_X11_doAll rfl sel_X11_doAll rfl (fun c9 h9 _ => by simpa [ax_ok] using h9) (sp_doAll 5 row w em o nst c _ _ _ _ hn hr hM (by omega) (by omega)) ⟨by decide, by decide, by decide, by decide⟩ (Nat.le_of_ble_eq_true rfl) (ax_dec2 (i := .invokevirtual 121) (n := 3) ok_X11_between rfl) (fun r M' hq => ?_)
        obtain ⟨rfl, g3, rfl, fr3, hM3⟩ := hq
        change ax_J _ _ _ _ _ _ _ _ _ 133 [some (.inr (.inr (some (50, 0)))), some (.inl 15)] [] (P, g3, r0, n)
        refine aj_run (C := True) (pc' := 135) (la' := [some (.inr (.inr (some (50, 0)))), some (.inl 15)]) (st' := [.inl 15, .inr (.inr (some (50, 0)))]) (M' := (P, g3, r0, n)) ok_X11_between true 2 rfl trivial ?_
        have hpl := (yPop_iv (r := 5) w em o hy.1).2.2.2.2.1
        refine aj_callV (av := [.inl 15]) (st := []) (f := 50) (o := 0) (ci := 11) cal_X11_await lk_11_124 ins_X11_await rfl sel_X11_await rfl (fun c9 h9 _ => by simpa [ax_ok] using h9) (sp_await 15 row _ _ _ nst c _ _ _ _ hn hr hM3 (by omega)) ⟨by decide, by decide, by decide, by decide⟩ (Nat.le_of_ble_eq_true rfl) (ax_dec2 (i := .invokevirtual 124) (n := 3) ok_X11_between rfl) (fun r M' hq => ?_)
        obtain ⟨rfl, g4, rfl, fr4, hM4⟩ := hq
        change ax_J _ _ _ _ _ _ _ _ _ 138 [some (.inr (.inr (some (50, 0)))), some (.inl 15)] [] (P, g4, r0, n)
        have f23 : g4 50 0 23 = nst := hM4.2.2.2.1
        have f24 : g4 124 0 (g4 50 0 23) = c nst := by rw [f23]; exact hM4.2.2.2.2 nst (by omega) (by omega)
        refine aj_run (C := True) (pc' := 147) (la' := [some (.inr (.inr (some (50, 0)))), some (.inl 15)]) (st' := [.inl 15, .inl (g4 50 0 23), .inr (.inr (some (124, 0)))]) (M' := (P, g4, r0, n)) ok_X11_between true 5 rfl trivial ?_
        refine aj_callS (av := [.inl 15]) (st := [.inl (g4 50 0 23), .inr (.inr (some (124, 0)))]) cal_X11_rank lk_11_98 stc_X11_rank (sp_rank 15 _ _ _ _) ⟨by decide, by decide, by decide, by decide⟩ (Nat.le_of_ble_eq_true rfl) (ax_dec2 (i := .invokestatic 98) (n := 3) ok_X11_between rfl) (fun r M' hq => ?_)
        obtain ⟨rfl, rfl⟩ := hq
        rw [show wRank 15 = 5 by decide]
        change ax_J _ _ _ _ _ _ _ _ _ 150 [some (.inr (.inr (some (50, 0)))), some (.inl 15)] [.inl 5, .inl (g4 50 0 23), .inr (.inr (some (124, 0)))] (P, g4, r0, n)
        refine aj_run (C := True) (pc' := 151) (la' := [some (.inr (.inr (some (50, 0)))), some (.inl 15)]) (st' := [.inl 4, .inl 5, .inl (g4 50 0 23), .inr (.inr (some (124, 0)))]) (M' := (P, g4, r0, n)) ok_X11_between true 1 rfl trivial ?_
        refine aj_icmp_eq (tgt := 174) (ax_dec2 (i := .if_icmp .eq 23) (n := 3) ok_X11_between rfl) (by decide) (fun c37 => ?_) (fun c37 => ?_)
        · exact absurd c37 (by omega)
        · refine aj_run (C := True) (pc' := 155) (la' := [some (.inr (.inr (some (50, 0)))), some (.inl 15)]) (st' := [.inl 15, .inl (g4 50 0 23), .inr (.inr (some (124, 0)))]) (M' := (P, g4, r0, n)) ok_X11_between true 1 rfl trivial ?_
          refine aj_callS (av := [.inl 15]) (st := [.inl (g4 50 0 23), .inr (.inr (some (124, 0)))]) cal_X11_rank lk_11_98 stc_X11_rank (sp_rank 15 _ _ _ _) ⟨by decide, by decide, by decide, by decide⟩ (Nat.le_of_ble_eq_true rfl) (ax_dec2 (i := .invokestatic 98) (n := 3) ok_X11_between rfl) (fun r M' hq => ?_)
          obtain ⟨rfl, rfl⟩ := hq
          rw [show wRank 15 = 5 by decide]
          change ax_J _ _ _ _ _ _ _ _ _ 158 [some (.inr (.inr (some (50, 0)))), some (.inl 15)] [.inl 5, .inl (g4 50 0 23), .inr (.inr (some (124, 0)))] (P, g4, r0, n)
          refine aj_run (C := True) (pc' := 159) (la' := [some (.inr (.inr (some (50, 0)))), some (.inl 15)]) (st' := [.inl 4, .inl 5, .inl (g4 50 0 23), .inr (.inr (some (124, 0)))]) (M' := (P, g4, r0, n)) ok_X11_between true 1 rfl trivial ?_
          refine aj_icmp_le (tgt := 178) (ax_dec2 (i := .if_icmp .le 19) (n := 3) ok_X11_between rfl) (by decide) (fun c38 => ?_) (fun c38 => ?_)
          · exact absurd c38 (by omega)
          · refine aj_run (C := (0 ≤ g4 50 0 23 ∧ g4 50 0 23 < n 124 0) ∧ True) (pc' := 171) (la' := [some (.inr (.inr (some (50, 0)))), some (.inl 15)]) (st' := [.inl (g4 124 0 (g4 50 0 23)), .inl (g4 50 0 23), .inr (.inr (some (124, 0)))]) (M' := (P, g4, r0, n)) ok_X11_between true 5 rfl (by refine ⟨?_, trivial⟩ <;> (omega)) ?_
            refine aj_if_eq (tgt := 178) (ax_dec2 (i := .ifCond .eq 7) (n := 3) ok_X11_between rfl) (by decide) (fun c39 => ?_) (fun c39 => ?_)
            · refine aj_run (C := ((0 ≤ g4 50 0 23 ∧ g4 50 0 23 < n 124 0) ∧ (0 = 0 ∨ 0 = 1)) ∧ True) (pc' := 181) (la' := [some (.inr (.inr (some (50, 0)))), some (.inl 15)]) (st' := [.inl 1]) (M' := (P, ax_u3 g4 124 0 (g4 50 0 23) 0, r0, n)) ok_X11_between true 3 rfl (by refine ⟨?_, trivial⟩ <;> (omega)) ?_
              refine aj_ret (r := some (.inl 1)) (ax_dec2 (i := .ireturn) (n := 1) ok_X11_between rfl) ⟨?_, ?_, by decide, by decide⟩ rfl
              · exact ⟨_, rfl, fun f q j z => (ax_u3_n (fun y => z (by unfold TY; omega))).trans ((fr4 f q j z).trans (fr3 f q j z)), Or.inl ⟨rfl, ⟨by rw [hop]; decide, by rw [hop, show wRank 15 = 5 by decide]; omega⟩, by rw [hop, show wRank 15 = 5 by decide, f23]; (first | rw [if_pos (by omega)] | rw [if_neg (by omega)]); exact yM_c hM4⟩⟩
              · exact Or.inr rfl
            · refine aj_run (C := ((0 ≤ g4 50 0 23 ∧ g4 50 0 23 < n 124 0) ∧ (1 = 0 ∨ 1 = 1)) ∧ True) (pc' := 181) (la' := [some (.inr (.inr (some (50, 0)))), some (.inl 15)]) (st' := [.inl 1]) (M' := (P, ax_u3 g4 124 0 (g4 50 0 23) 1, r0, n)) ok_X11_between true 4 rfl (by refine ⟨?_, trivial⟩ <;> (omega)) ?_
              refine aj_ret (r := some (.inl 1)) (ax_dec2 (i := .ireturn) (n := 1) ok_X11_between rfl) ⟨?_, ?_, by decide, by decide⟩ rfl
              · exact ⟨_, rfl, fun f q j z => (ax_u3_n (fun y => z (by unfold TY; omega))).trans ((fr4 f q j z).trans (fr3 f q j z)), Or.inl ⟨rfl, ⟨by rw [hop]; decide, by rw [hop, show wRank 15 = 5 by decide]; omega⟩, by rw [hop, show wRank 15 = 5 by decide, f23]; (first | rw [if_pos (by omega)] | rw [if_neg (by omega)]); exact yM_c hM4⟩⟩
              · exact Or.inr rfl
      · exact absurd c36 (by omega)

set_option maxRecDepth 100000 in
set_option maxHeartbeats 4000000 in
theorem sp_closes (t V : Int) (row : Int) (w em : List Int) (o nst : Int) (c : Int → Int) (P : Nat → Int → Prop) (g : Nat → Int → Int → Int) (r0 : Nat → Int → Int → Option (Nat × Int)) (n : Nat → Int → Int) (hn : mLen n) (hr : 0 ≤ row ∧ row < 18) (hM : yM g row w em o nst c) (hk : yTo g t V) (hy : yHy w em o nst) : ax_S yX11_closes cX11_closes 1 (some FieldType.boolean) 2 0 0 [.inr (.inr (some (50, 0)))] (P, g, r0, n) (fun r M' => ∃ g', M' = (P, g', r0, n) ∧ cFr (TY row) g' g ∧ ((r = some (.inl 1) ∧ (t = 41 ∧ nst ≠ 0) ∧ yM g' row (yPop 7 (yPop 1 w em o).1.tail (yPop 1 w em o).2.1 ((yPop 1 w em o).2.2 - 1)).1 (yPop 7 (yPop 1 w em o).1.tail (yPop 1 w em o).2.1 ((yPop 1 w em o).2.2 - 1)).2.1 (yPop 7 (yPop 1 w em o).1.tail (yPop 1 w em o).2.1 ((yPop 1 w em o).2.2 - 1)).2.2 (nst - 1) c) ∨ (r = some (.inl 0) ∧ ¬ (t = 41 ∧ nst ≠ 0) ∧ g' = g))) := by
  obtain ⟨⟨m1, m2⟩, ⟨m3, m4, m5⟩, m6, m7, m8⟩ := id hM
  obtain ⟨⟨y1, y2, y3, y4⟩, y5⟩ := yHy_i hy
  have e23 : g 50 0 23 = nst := m7
  have e24 : g 124 0 (g 50 0 23) = c nst := by rw [e23]; exact m8 nst (by omega) (by omega)
  refine ax_S_of (own := 11) (by decide) rfl (fun h => absurd h (by decide)) rfl (Nat.le_of_ble_eq_true rfl) ?_
  change ax_J _ _ _ _ _ _ _ _ _ _ [some (.inr (.inr (some (50, 0))))] _ _
  refine aj_run (C := True) (pc' := 3) (la' := [some (.inr (.inr (some (50, 0))))]) (st' := [.inl 41, .inr (.inr (some (50, 0)))]) (M' := (P, g, r0, n)) ok_X11_closes true 2 rfl trivial ?_
  refine aj_callV (av := [.inl 41]) (st := []) (f := 50) (o := 0) (ci := 11) cal_X11_isSign lk_11_108 ins_X11_isSign rfl sel_X11_isSign rfl (fun c9 h9 _ => by simpa [ax_ok] using h9) (sp_isSign 41 _ _ _ _) ⟨by decide, by decide, by decide, by decide⟩ (Nat.le_of_ble_eq_true rfl) (ax_dec2 (i := .invokevirtual 108) (n := 3) ok_X11_closes rfl) (fun r M' hq => ?_)
  obtain ⟨rfl, rfl⟩ := hq
  change ax_J _ _ _ _ _ _ _ _ _ 6 [some (.inr (.inr (some (50, 0))))] [.inl (bI (g 50 0 15 = 4 ∧ g 50 0 16 = 41))] (P, g, r0, n)
  rw [yT_sg (h := g) hk (by decide)]
  change ax_J _ _ _ _ _ _ _ _ _ 6 [some (.inr (.inr (some (50, 0))))] [.inl (bI (t = 41))] (P, g, r0, n)
  refine aj_if_eq (tgt := 16) (ax_dec2 (i := .ifCond .eq 10) (n := 3) ok_X11_closes rfl) (by decide) (fun c1 => ?_) (fun c1 => ?_)
  · replace c1 := bI_e0 c1
    refine aj_run (C := True) (pc' := 17) (la' := [some (.inr (.inr (some (50, 0))))]) (st' := [.inl 0]) (M' := (P, g, r0, n)) ok_X11_closes true 1 rfl trivial ?_
    refine aj_ret (r := some (.inl 0)) (ax_dec2 (i := .ireturn) (n := 1) ok_X11_closes rfl) ⟨?_, ?_, by decide, by decide⟩ rfl
    · exact ⟨g, rfl, fun _ _ _ _ => rfl, Or.inr ⟨rfl, by omega, rfl⟩⟩
    · exact Or.inl rfl
  · replace c1 := bI_n0 c1
    refine aj_run (C := True) (pc' := 13) (la' := [some (.inr (.inr (some (50, 0))))]) (st' := [.inl (g 50 0 23)]) (M' := (P, g, r0, n)) ok_X11_closes true 2 rfl trivial ?_
    refine aj_if_ne (tgt := 18) (ax_dec2 (i := .ifCond .ne 5) (n := 3) ok_X11_closes rfl) (by decide) (fun c2 => ?_) (fun c2 => ?_)
    · obtain ⟨w3, hw3⟩ := yPop_30 (em := em) (o := o) hy.1 hy.2.1 (by omega)
      obtain ⟨p1, p2, p3, p4, p5, p6, -⟩ := yPop_iv (r := 1) w em o hy.1
      have p3 := p3 hy.2.2.1
      rw [hw3] at p1 p2 p3 p4 p5
      have q3 : (yPop 1 w em o).2.2 = cOp w3 + 1 := p3
      have q0 : 0 ≤ cOp w3 := cOp_0
      rw [List.length_cons] at p4 p5
      refine aj_run (C := True) (pc' := 20) (la' := [some (.inr (.inr (some (50, 0))))]) (st' := [.inl 1, .inr (.inr (some (50, 0)))]) (M' := (P, g, r0, n)) ok_X11_closes true 2 rfl trivial ?_
      refine aj_callV (av := [.inl 1]) (st := []) (f := 50) (o := 0) (ci := 11) cal_X11_doAll lk_11_121 ins_X11_doAll rfl sel_X11_doAll rfl (fun c9 h9 _ => by simpa [ax_ok] using h9) (sp_doAll 1 row w em o nst c _ _ _ _ hn hr hM (by omega) (by omega)) ⟨by decide, by decide, by decide, by decide⟩ (Nat.le_of_ble_eq_true rfl) (ax_dec2 (i := .invokevirtual 121) (n := 3) ok_X11_closes rfl) (fun r M' hq => ?_)
      obtain ⟨rfl, g3, rfl, fr3, hM3⟩ := hq
      change ax_J _ _ _ _ _ _ _ _ _ 23 [some (.inr (.inr (some (50, 0))))] [] (P, g3, r0, n)
      rw [hw3] at hM3
      have f23 : g3 50 0 23 = nst := hM3.2.2.2.1
      have f22 : g3 50 0 22 = (yPop 1 w em o).2.2 := hM3.2.2.1
      have f21 := hM3.1.1
      rw [List.length_cons] at f21
      refine aj_run (C := (-2147483648 ≤ (g3 50 0 21) - 1 ∧ (g3 50 0 21) - 1 ≤ 2147483647) ∧ (-2147483648 ≤ (g3 50 0 23) - 1 ∧ (g3 50 0 23) - 1 ≤ 2147483647) ∧ (-2147483648 ≤ (g3 50 0 22) - 1 ∧ (g3 50 0 22) - 1 ≤ 2147483647) ∧ True) (pc' := 56) (la' := [some (.inr (.inr (some (50, 0))))]) (st' := [.inl 7, .inr (.inr (some (50, 0)))]) (M' := (P, ax_u3 (ax_u3 (ax_u3 g3 50 0 21 ((g3 50 0 21) - 1)) 50 0 23 ((g3 50 0 23) - 1)) 50 0 22 ((g3 50 0 22) - 1), r0, n)) ok_X11_closes true 20 rfl (by refine ⟨?_, ?_, ?_, trivial⟩ <;> (omega)) ?_
      refine aj_callV (av := [.inl 7]) (st := []) (f := 50) (o := 0) (ci := 11) cal_X11_doAll lk_11_121 ins_X11_doAll rfl sel_X11_doAll rfl (fun c9 h9 _ => by simpa [ax_ok] using h9) (sp_doAll 7 row w3 (yPop 1 w em o).2.1 ((yPop 1 w em o).2.2 - 1) (nst - 1) c _ _ _ _ hn hr (by rw [f23, f22]; exact yM_o (yM_n (yM_po hM3).1)) (by omega) (by omega)) ⟨by decide, by decide, by decide, by decide⟩ (Nat.le_of_ble_eq_true rfl) (ax_dec2 (i := .invokevirtual 121) (n := 3) ok_X11_closes rfl) (fun r M' hq => ?_)
      obtain ⟨rfl, g4, rfl, fr4, hM4⟩ := hq
      change ax_J _ _ _ _ _ _ _ _ _ 59 [some (.inr (.inr (some (50, 0))))] [] (P, g4, r0, n)
      refine aj_run (C := True) (pc' := 60) (la' := [some (.inr (.inr (some (50, 0))))]) (st' := [.inl 1]) (M' := (P, g4, r0, n)) ok_X11_closes true 1 rfl trivial ?_
      refine aj_ret (r := some (.inl 1)) (ax_dec2 (i := .ireturn) (n := 1) ok_X11_closes rfl) ⟨?_, ?_, by decide, by decide⟩ rfl
      · exact ⟨g4, rfl, fun f q j z => (fr4 f q j z).trans (by rw [ax_u3_n (fun y => z (by unfold TY; omega)), ax_u3_n (fun y => z (by unfold TY; omega)), ax_u3_n (fun y => z (by unfold TY; omega))]; exact fr3 f q j z), Or.inl ⟨rfl, by omega, by rw [hw3]; exact hM4⟩⟩
      · exact Or.inr rfl
    · refine aj_run (C := True) (pc' := 17) (la' := [some (.inr (.inr (some (50, 0))))]) (st' := [.inl 0]) (M' := (P, g, r0, n)) ok_X11_closes true 1 rfl trivial ?_
      refine aj_ret (r := some (.inl 0)) (ax_dec2 (i := .ireturn) (n := 1) ok_X11_closes rfl) ⟨?_, ?_, by decide, by decide⟩ rfl
      · exact ⟨g, rfl, fun _ _ _ _ => rfl, Or.inr ⟨rfl, by omega, rfl⟩⟩
      · exact Or.inl rfl

set_option maxRecDepth 100000 in
set_option maxHeartbeats 4000000 in
theorem sp_ahead (mn : Bool) (t V : Int) (row : Int) (w em : List Int) (o nst : Int) (c : Int → Int) (P : Nat → Int → Prop) (g : Nat → Int → Int → Int) (r0 : Nat → Int → Int → Option (Nat × Int)) (n : Nat → Int → Int) (hn : mLen n) (hr : 0 ≤ row ∧ row < 18) (hM : yM g row w em o nst c) (hk : yTo g t V) (hy : yHy w em o nst) : ax_S yX11_ahead cX11_ahead 3 (some FieldType.boolean) 1 0 0 [.inr (.inr (some (50, 0))), .inl (bI (mn = true))] (P, g, r0, n) (fun r M' => ∃ g', M' = (P, g', r0, n) ∧ cFr (TY row) g' g ∧ ((r = some (.inl 1) ∧ ((t = 40 ∨ t = 45 ∨ (mn = true ∧ t = 10)) ∧ o ≠ 5) ∧ yM g' row ((if t = 40 then 30 else if t = 10 then 12 else 18) :: w) em (o + 1) (if t = 40 then nst + 1 else nst) (if t = 40 then wUp c (nst + 1) 0 else c)) ∨ (r = some (.inl 0) ∧ ¬ ((t = 40 ∨ t = 45 ∨ (mn = true ∧ t = 10)) ∧ o ≠ 5) ∧ g' = g))) := by
  have n124 : n 124 0 = 8 := hn (124, 8) (by decide)
  obtain ⟨⟨m1, m2⟩, ⟨m3, m4, m5⟩, m6, m7, m8⟩ := id hM
  obtain ⟨⟨y1, y2, y3, y4⟩, y5⟩ := yHy_i hy
  have e23 : g 50 0 23 = nst := m7
  have e24 : g 124 0 (g 50 0 23) = c nst := by rw [e23]; exact m8 nst (by omega) (by omega)
  refine ax_S_of (own := 11) (by decide) rfl (fun h => absurd h (by decide)) rfl (Nat.le_of_ble_eq_true rfl) ?_
  change ax_J _ _ _ _ _ _ _ _ _ _ [some (.inr (.inr (some (50, 0)))), some (.inl (bI (mn = true))), none] _ _
  refine aj_run (C := True) (pc' := 3) (la' := [some (.inr (.inr (some (50, 0)))), some (.inl (bI (mn = true))), none]) (st' := [.inl 40, .inr (.inr (some (50, 0)))]) (M' := (P, g, r0, n)) ok_X11_ahead true 2 rfl trivial ?_
  refine aj_callV (av := [.inl 40]) (st := []) (f := 50) (o := 0) (ci := 11) cal_X11_isSign lk_11_108 ins_X11_isSign rfl sel_X11_isSign rfl (fun c9 h9 _ => by simpa [ax_ok] using h9) (sp_isSign 40 _ _ _ _) ⟨by decide, by decide, by decide, by decide⟩ (Nat.le_of_ble_eq_true rfl) (ax_dec2 (i := .invokevirtual 108) (n := 3) ok_X11_ahead rfl) (fun r M' hq => ?_)
  obtain ⟨rfl, rfl⟩ := hq
  change ax_J _ _ _ _ _ _ _ _ _ 6 [some (.inr (.inr (some (50, 0)))), some (.inl (bI (mn = true))), none] [.inl (bI (g 50 0 15 = 4 ∧ g 50 0 16 = 40))] (P, g, r0, n)
  rw [yT_sg (h := g) hk (by decide)]
  change ax_J _ _ _ _ _ _ _ _ _ 6 [some (.inr (.inr (some (50, 0)))), some (.inl (bI (mn = true))), none] [.inl (bI (t = 40))] (P, g, r0, n)
  refine aj_if_ne (tgt := 30) (ax_dec2 (i := .ifCond .ne 24) (n := 3) ok_X11_ahead rfl) (by decide) (fun c1 => ?_) (fun c1 => ?_)
  · replace c1 := bI_n0 c1
    refine aj_run (C := True) (pc' := 37) (la' := [some (.inr (.inr (some (50, 0)))), some (.inl (bI (mn = true))), some (.inl 1)]) (st' := [.inl 1]) (M' := (P, g, r0, n)) ok_X11_ahead true 4 rfl trivial ?_
    refine aj_if_eq (tgt := 48) (ax_dec2 (i := .ifCond .eq 11) (n := 3) ok_X11_ahead rfl) (by decide) (fun c2 => ?_) (fun c2 => ?_)
    · exact absurd c2 (by omega)
    · refine aj_run (C := True) (pc' := 45) (la' := [some (.inr (.inr (some (50, 0)))), some (.inl (bI (mn = true))), some (.inl 1)]) (st' := [.inl 5, .inl (g 50 0 22)]) (M' := (P, g, r0, n)) ok_X11_ahead true 3 rfl trivial ?_
      refine aj_icmp_ne (tgt := 50) (ax_dec2 (i := .if_icmp .ne 5) (n := 3) ok_X11_ahead rfl) (by decide) (fun c3 => ?_) (fun c3 => ?_)
      · refine aj_run (C := (-2147483648 ≤ (g 50 0 22) + 1 ∧ (g 50 0 22) + 1 ≤ 2147483647) ∧ True) (pc' := 63) (la' := [some (.inr (.inr (some (50, 0)))), some (.inl (bI (mn = true))), some (.inl 1)]) (st' := [.inl 40, .inr (.inr (some (50, 0)))]) (M' := (P, ax_u3 g 50 0 22 ((g 50 0 22) + 1), r0, n)) ok_X11_ahead true 8 rfl (by refine ⟨?_, trivial⟩ <;> (omega)) ?_
        refine aj_callV (av := [.inl 40]) (st := []) (f := 50) (o := 0) (ci := 11) cal_X11_isSign lk_11_108 ins_X11_isSign rfl sel_X11_isSign rfl (fun c9 h9 _ => by simpa [ax_ok] using h9) (sp_isSign 40 _ _ _ _) ⟨by decide, by decide, by decide, by decide⟩ (Nat.le_of_ble_eq_true rfl) (ax_dec2 (i := .invokevirtual 108) (n := 3) ok_X11_ahead rfl) (fun r M' hq => ?_)
        obtain ⟨rfl, rfl⟩ := hq
        change ax_J _ _ _ _ _ _ _ _ _ 66 [some (.inr (.inr (some (50, 0)))), some (.inl (bI (mn = true))), some (.inl 1)] [.inl (bI ((ax_u3 g 50 0 22 ((g 50 0 22) + 1)) 50 0 15 = 4 ∧ (ax_u3 g 50 0 22 ((g 50 0 22) + 1)) 50 0 16 = 40))] (P, ax_u3 g 50 0 22 ((g 50 0 22) + 1), r0, n)
        rw [yT_sg (h := (ax_u3 g 50 0 22 ((g 50 0 22) + 1))) hk (by decide)]
        change ax_J _ _ _ _ _ _ _ _ _ 66 [some (.inr (.inr (some (50, 0)))), some (.inl (bI (mn = true))), some (.inl 1)] [.inl (bI (t = 40))] (P, ax_u3 g 50 0 22 ((g 50 0 22) + 1), r0, n)
        refine aj_if_eq (tgt := 98) (ax_dec2 (i := .ifCond .eq 32) (n := 3) ok_X11_ahead rfl) (by decide) (fun c4 => ?_) (fun c4 => ?_)
        · replace c4 := bI_e0 c4
          have h15 := (yT_15 hk).1
          refine aj_run (C := True) (pc' := 104) (la' := [some (.inr (.inr (some (50, 0)))), some (.inl (bI (mn = true))), some (.inl 1)]) (st' := [.inl 3, .inl (g 50 0 15), .inr (.inr (some (50, 0)))]) (M' := (P, ax_u3 g 50 0 22 ((g 50 0 22) + 1), r0, n)) ok_X11_ahead true 4 rfl trivial ?_
          refine aj_icmp_ne (tgt := 112) (ax_dec2 (i := .if_icmp .ne 8) (n := 3) ok_X11_ahead rfl) (by decide) (fun c5 => ?_) (fun c5 => ?_)
          · refine aj_run (C := True) (pc' := 114) (la' := [some (.inr (.inr (some (50, 0)))), some (.inl (bI (mn = true))), some (.inl 1)]) (st' := [.inl 18, .inr (.inr (some (50, 0)))]) (M' := (P, ax_u3 g 50 0 22 ((g 50 0 22) + 1), r0, n)) ok_X11_ahead true 1 rfl trivial ?_
            refine aj_callV (av := [.inl 18]) (st := []) (f := 50) (o := 0) (ci := 11) cal_X11_await lk_11_124 ins_X11_await rfl sel_X11_await rfl (fun c9 h9 _ => by simpa [ax_ok] using h9) (sp_await 18 row w em (o + 1) nst c _ _ _ _ hn hr (by rw [m6]; exact yM_o hM) (by omega)) ⟨by decide, by decide, by decide, by decide⟩ (Nat.le_of_ble_eq_true rfl) (ax_dec2 (i := .invokevirtual 124) (n := 3) ok_X11_ahead rfl) (fun r M' hq => ?_)
            obtain ⟨rfl, g3, rfl, fr3, hM3⟩ := hq
            change ax_J _ _ _ _ _ _ _ _ _ 117 [some (.inr (.inr (some (50, 0)))), some (.inl (bI (mn = true))), some (.inl 1)] [] (P, g3, r0, n)
            refine aj_run (C := True) (pc' := 118) (la' := [some (.inr (.inr (some (50, 0)))), some (.inl (bI (mn = true))), some (.inl 1)]) (st' := [.inl 1]) (M' := (P, g3, r0, n)) ok_X11_ahead true 1 rfl trivial ?_
            refine aj_ret (r := some (.inl 1)) (ax_dec2 (i := .ireturn) (n := 1) ok_X11_ahead rfl) ⟨?_, ?_, by decide, by decide⟩ rfl
            · first | (exfalso; omega) | exact ⟨g3, rfl, fun f q j z => (fr3 f q j z).trans (ax_u3_n (fun y => z (by unfold TY; omega))), Or.inl ⟨rfl, (by first | exact ⟨Or.inl (by omega), by omega⟩ | exact ⟨Or.inr (Or.inl (by omega)), by omega⟩ | exact ⟨Or.inr (Or.inr ⟨by assumption, by omega⟩), by omega⟩), by rw [if_neg (show ¬ t = 40 by omega), if_neg (show ¬ t = 40 by omega), if_neg (show ¬ t = 40 by omega)]; (first | rw [if_pos (show t = 10 by omega)] | rw [if_neg (show ¬ t = 10 by omega)]); exact hM3⟩⟩
            · exact Or.inr rfl
          · refine aj_run (C := True) (pc' := 114) (la' := [some (.inr (.inr (some (50, 0)))), some (.inl (bI (mn = true))), some (.inl 1)]) (st' := [.inl 12, .inr (.inr (some (50, 0)))]) (M' := (P, ax_u3 g 50 0 22 ((g 50 0 22) + 1), r0, n)) ok_X11_ahead true 2 rfl trivial ?_
            refine aj_callV (av := [.inl 12]) (st := []) (f := 50) (o := 0) (ci := 11) cal_X11_await lk_11_124 ins_X11_await rfl sel_X11_await rfl (fun c9 h9 _ => by simpa [ax_ok] using h9) (sp_await 12 row w em (o + 1) nst c _ _ _ _ hn hr (by rw [m6]; exact yM_o hM) (by omega)) ⟨by decide, by decide, by decide, by decide⟩ (Nat.le_of_ble_eq_true rfl) (ax_dec2 (i := .invokevirtual 124) (n := 3) ok_X11_ahead rfl) (fun r M' hq => ?_)
            obtain ⟨rfl, g3, rfl, fr3, hM3⟩ := hq
            change ax_J _ _ _ _ _ _ _ _ _ 117 [some (.inr (.inr (some (50, 0)))), some (.inl (bI (mn = true))), some (.inl 1)] [] (P, g3, r0, n)
            refine aj_run (C := True) (pc' := 118) (la' := [some (.inr (.inr (some (50, 0)))), some (.inl (bI (mn = true))), some (.inl 1)]) (st' := [.inl 1]) (M' := (P, g3, r0, n)) ok_X11_ahead true 1 rfl trivial ?_
            refine aj_ret (r := some (.inl 1)) (ax_dec2 (i := .ireturn) (n := 1) ok_X11_ahead rfl) ⟨?_, ?_, by decide, by decide⟩ rfl
            · first | (exfalso; omega) | exact ⟨g3, rfl, fun f q j z => (fr3 f q j z).trans (ax_u3_n (fun y => z (by unfold TY; omega))), Or.inl ⟨rfl, (by first | exact ⟨Or.inl (by omega), by omega⟩ | exact ⟨Or.inr (Or.inl (by omega)), by omega⟩ | exact ⟨Or.inr (Or.inr ⟨by assumption, by omega⟩), by omega⟩), by rw [if_neg (show ¬ t = 40 by omega), if_neg (show ¬ t = 40 by omega), if_neg (show ¬ t = 40 by omega)]; (first | rw [if_pos (show t = 10 by omega)] | rw [if_neg (show ¬ t = 10 by omega)]); exact hM3⟩⟩
            · exact Or.inr rfl
        · replace c4 := bI_n0 c4
          refine aj_run (C := True) (pc' := 72) (la' := [some (.inr (.inr (some (50, 0)))), some (.inl (bI (mn = true))), some (.inl 1)]) (st' := [.inl 30, .inr (.inr (some (50, 0)))]) (M' := (P, ax_u3 g 50 0 22 ((g 50 0 22) + 1), r0, n)) ok_X11_ahead true 2 rfl trivial ?_
          refine aj_callV (av := [.inl 30]) (st := []) (f := 50) (o := 0) (ci := 11) cal_X11_await lk_11_124 ins_X11_await rfl sel_X11_await rfl (fun c9 h9 _ => by simpa [ax_ok] using h9) (sp_await 30 row w em (o + 1) nst c _ _ _ _ hn hr (by rw [m6]; exact yM_o hM) (by omega)) ⟨by decide, by decide, by decide, by decide⟩ (Nat.le_of_ble_eq_true rfl) (ax_dec2 (i := .invokevirtual 124) (n := 3) ok_X11_ahead rfl) (fun r M' hq => ?_)
          obtain ⟨rfl, g3, rfl, fr3, hM3⟩ := hq
          change ax_J _ _ _ _ _ _ _ _ _ 75 [some (.inr (.inr (some (50, 0)))), some (.inl (bI (mn = true))), some (.inl 1)] [] (P, g3, r0, n)
          have f23 : g3 50 0 23 = nst := hM3.2.2.2.1
          refine aj_run (C := (-2147483648 ≤ (g3 50 0 23) + 1 ∧ (g3 50 0 23) + 1 ≤ 2147483647) ∧ ((0 ≤ (g3 50 0 23) + 1 ∧ (g3 50 0 23) + 1 < n 124 0) ∧ (0 = 0 ∨ 0 = 1)) ∧ True) (pc' := 118) (la' := [some (.inr (.inr (some (50, 0)))), some (.inl (bI (mn = true))), some (.inl 1)]) (st' := [.inl 1]) (M' := (P, ax_u3 (ax_u3 g3 50 0 23 ((g3 50 0 23) + 1)) 124 0 ((g3 50 0 23) + 1) 0, r0, n)) ok_X11_ahead true 14 rfl (by refine ⟨?_, ?_, trivial⟩ <;> (omega)) ?_
          refine aj_ret (r := some (.inl 1)) (ax_dec2 (i := .ireturn) (n := 1) ok_X11_ahead rfl) ⟨?_, ?_, by decide, by decide⟩ rfl
          · first | (exfalso; omega) | exact ⟨_, rfl, fun f q j z => by rw [ax_u3_n (fun y => z (by unfold TY; omega)), ax_u3_n (fun y => z (by unfold TY; omega))]; exact (fr3 f q j z).trans (ax_u3_n (fun y => z (by unfold TY; omega))), Or.inl ⟨rfl, (by first | exact ⟨Or.inl (by omega), by omega⟩ | exact ⟨Or.inr (Or.inl (by omega)), by omega⟩ | exact ⟨Or.inr (Or.inr ⟨by assumption, by omega⟩), by omega⟩), by rw [f23, if_pos (show t = 40 by omega), if_pos (show t = 40 by omega), if_pos (show t = 40 by omega)]; exact yM_c (yM_n hM3)⟩⟩
          · exact Or.inr rfl
      · refine aj_run (C := True) (pc' := 49) (la' := [some (.inr (.inr (some (50, 0)))), some (.inl (bI (mn = true))), some (.inl 1)]) (st' := [.inl 0]) (M' := (P, g, r0, n)) ok_X11_ahead true 1 rfl trivial ?_
        refine aj_ret (r := some (.inl 0)) (ax_dec2 (i := .ireturn) (n := 1) ok_X11_ahead rfl) ⟨?_, ?_, by decide, by decide⟩ rfl
        · exact ⟨g, rfl, fun _ _ _ _ => rfl, Or.inr ⟨rfl, by (first | omega | (cases mn <;> simp_all [bI] <;> omega)), rfl⟩⟩
        · exact Or.inl rfl
  · replace c1 := bI_e0 c1
    refine aj_run (C := True) (pc' := 12) (la' := [some (.inr (.inr (some (50, 0)))), some (.inl (bI (mn = true))), none]) (st' := [.inl 45, .inr (.inr (some (50, 0)))]) (M' := (P, g, r0, n)) ok_X11_ahead true 2 rfl trivial ?_
    refine aj_callV (av := [.inl 45]) (st := []) (f := 50) (o := 0) (ci := 11) cal_X11_isSign lk_11_108 ins_X11_isSign rfl sel_X11_isSign rfl (fun c9 h9 _ => by simpa [ax_ok] using h9) (sp_isSign 45 _ _ _ _) ⟨by decide, by decide, by decide, by decide⟩ (Nat.le_of_ble_eq_true rfl) (ax_dec2 (i := .invokevirtual 108) (n := 3) ok_X11_ahead rfl) (fun r M' hq => ?_)
    obtain ⟨rfl, rfl⟩ := hq
    change ax_J _ _ _ _ _ _ _ _ _ 15 [some (.inr (.inr (some (50, 0)))), some (.inl (bI (mn = true))), none] [.inl (bI (g 50 0 15 = 4 ∧ g 50 0 16 = 45))] (P, g, r0, n)
    rw [yT_sg (h := g) hk (by decide)]
    change ax_J _ _ _ _ _ _ _ _ _ 15 [some (.inr (.inr (some (50, 0)))), some (.inl (bI (mn = true))), none] [.inl (bI (t = 45))] (P, g, r0, n)
    refine aj_if_ne (tgt := 30) (ax_dec2 (i := .ifCond .ne 15) (n := 3) ok_X11_ahead rfl) (by decide) (fun c6 => ?_) (fun c6 => ?_)
    · replace c6 := bI_n0 c6
      refine aj_run (C := True) (pc' := 37) (la' := [some (.inr (.inr (some (50, 0)))), some (.inl (bI (mn = true))), some (.inl 1)]) (st' := [.inl 1]) (M' := (P, g, r0, n)) ok_X11_ahead true 4 rfl trivial ?_
      refine aj_if_eq (tgt := 48) (ax_dec2 (i := .ifCond .eq 11) (n := 3) ok_X11_ahead rfl) (by decide) (fun c7 => ?_) (fun c7 => ?_)
      · exact absurd c7 (by omega)
      · refine aj_run (C := True) (pc' := 45) (la' := [some (.inr (.inr (some (50, 0)))), some (.inl (bI (mn = true))), some (.inl 1)]) (st' := [.inl 5, .inl (g 50 0 22)]) (M' := (P, g, r0, n)) ok_X11_ahead true 3 rfl trivial ?_
        refine aj_icmp_ne (tgt := 50) (ax_dec2 (i := .if_icmp .ne 5) (n := 3) ok_X11_ahead rfl) (by decide) (fun c8 => ?_) (fun c8 => ?_)
        · refine aj_run (C := (-2147483648 ≤ (g 50 0 22) + 1 ∧ (g 50 0 22) + 1 ≤ 2147483647) ∧ True) (pc' := 63) (la' := [some (.inr (.inr (some (50, 0)))), some (.inl (bI (mn = true))), some (.inl 1)]) (st' := [.inl 40, .inr (.inr (some (50, 0)))]) (M' := (P, ax_u3 g 50 0 22 ((g 50 0 22) + 1), r0, n)) ok_X11_ahead true 8 rfl (by refine ⟨?_, trivial⟩ <;> (omega)) ?_
          refine aj_callV (av := [.inl 40]) (st := []) (f := 50) (o := 0) (ci := 11) cal_X11_isSign lk_11_108 ins_X11_isSign rfl sel_X11_isSign rfl (fun c9 h9 _ => by simpa [ax_ok] using h9) (sp_isSign 40 _ _ _ _) ⟨by decide, by decide, by decide, by decide⟩ (Nat.le_of_ble_eq_true rfl) (ax_dec2 (i := .invokevirtual 108) (n := 3) ok_X11_ahead rfl) (fun r M' hq => ?_)
          obtain ⟨rfl, rfl⟩ := hq
          change ax_J _ _ _ _ _ _ _ _ _ 66 [some (.inr (.inr (some (50, 0)))), some (.inl (bI (mn = true))), some (.inl 1)] [.inl (bI ((ax_u3 g 50 0 22 ((g 50 0 22) + 1)) 50 0 15 = 4 ∧ (ax_u3 g 50 0 22 ((g 50 0 22) + 1)) 50 0 16 = 40))] (P, ax_u3 g 50 0 22 ((g 50 0 22) + 1), r0, n)
          rw [yT_sg (h := (ax_u3 g 50 0 22 ((g 50 0 22) + 1))) hk (by decide)]
          change ax_J _ _ _ _ _ _ _ _ _ 66 [some (.inr (.inr (some (50, 0)))), some (.inl (bI (mn = true))), some (.inl 1)] [.inl (bI (t = 40))] (P, ax_u3 g 50 0 22 ((g 50 0 22) + 1), r0, n)
          refine aj_if_eq (tgt := 98) (ax_dec2 (i := .ifCond .eq 32) (n := 3) ok_X11_ahead rfl) (by decide) (fun c9 => ?_) (fun c9 => ?_)
          · replace c9 := bI_e0 c9
            have h15 := (yT_15 hk).1
            refine aj_run (C := True) (pc' := 104) (la' := [some (.inr (.inr (some (50, 0)))), some (.inl (bI (mn = true))), some (.inl 1)]) (st' := [.inl 3, .inl (g 50 0 15), .inr (.inr (some (50, 0)))]) (M' := (P, ax_u3 g 50 0 22 ((g 50 0 22) + 1), r0, n)) ok_X11_ahead true 4 rfl trivial ?_
            refine aj_icmp_ne (tgt := 112) (ax_dec2 (i := .if_icmp .ne 8) (n := 3) ok_X11_ahead rfl) (by decide) (fun c10 => ?_) (fun c10 => ?_)
            · refine aj_run (C := True) (pc' := 114) (la' := [some (.inr (.inr (some (50, 0)))), some (.inl (bI (mn = true))), some (.inl 1)]) (st' := [.inl 18, .inr (.inr (some (50, 0)))]) (M' := (P, ax_u3 g 50 0 22 ((g 50 0 22) + 1), r0, n)) ok_X11_ahead true 1 rfl trivial ?_
              refine aj_callV (av := [.inl 18]) (st := []) (f := 50) (o := 0) (ci := 11) cal_X11_await lk_11_124 ins_X11_await rfl sel_X11_await rfl (fun c9 h9 _ => by simpa [ax_ok] using h9) (sp_await 18 row w em (o + 1) nst c _ _ _ _ hn hr (by rw [m6]; exact yM_o hM) (by omega)) ⟨by decide, by decide, by decide, by decide⟩ (Nat.le_of_ble_eq_true rfl) (ax_dec2 (i := .invokevirtual 124) (n := 3) ok_X11_ahead rfl) (fun r M' hq => ?_)
              obtain ⟨rfl, g3, rfl, fr3, hM3⟩ := hq
              change ax_J _ _ _ _ _ _ _ _ _ 117 [some (.inr (.inr (some (50, 0)))), some (.inl (bI (mn = true))), some (.inl 1)] [] (P, g3, r0, n)
              refine aj_run (C := True) (pc' := 118) (la' := [some (.inr (.inr (some (50, 0)))), some (.inl (bI (mn = true))), some (.inl 1)]) (st' := [.inl 1]) (M' := (P, g3, r0, n)) ok_X11_ahead true 1 rfl trivial ?_
              refine aj_ret (r := some (.inl 1)) (ax_dec2 (i := .ireturn) (n := 1) ok_X11_ahead rfl) ⟨?_, ?_, by decide, by decide⟩ rfl
              · first | (exfalso; omega) | exact ⟨g3, rfl, fun f q j z => (fr3 f q j z).trans (ax_u3_n (fun y => z (by unfold TY; omega))), Or.inl ⟨rfl, (by first | exact ⟨Or.inl (by omega), by omega⟩ | exact ⟨Or.inr (Or.inl (by omega)), by omega⟩ | exact ⟨Or.inr (Or.inr ⟨by assumption, by omega⟩), by omega⟩), by rw [if_neg (show ¬ t = 40 by omega), if_neg (show ¬ t = 40 by omega), if_neg (show ¬ t = 40 by omega)]; (first | rw [if_pos (show t = 10 by omega)] | rw [if_neg (show ¬ t = 10 by omega)]); exact hM3⟩⟩
              · exact Or.inr rfl
            · refine aj_run (C := True) (pc' := 114) (la' := [some (.inr (.inr (some (50, 0)))), some (.inl (bI (mn = true))), some (.inl 1)]) (st' := [.inl 12, .inr (.inr (some (50, 0)))]) (M' := (P, ax_u3 g 50 0 22 ((g 50 0 22) + 1), r0, n)) ok_X11_ahead true 2 rfl trivial ?_
              refine aj_callV (av := [.inl 12]) (st := []) (f := 50) (o := 0) (ci := 11) cal_X11_await lk_11_124 ins_X11_await rfl sel_X11_await rfl (fun c9 h9 _ => by simpa [ax_ok] using h9) (sp_await 12 row w em (o + 1) nst c _ _ _ _ hn hr (by rw [m6]; exact yM_o hM) (by omega)) ⟨by decide, by decide, by decide, by decide⟩ (Nat.le_of_ble_eq_true rfl) (ax_dec2 (i := .invokevirtual 124) (n := 3) ok_X11_ahead rfl) (fun r M' hq => ?_)
              obtain ⟨rfl, g3, rfl, fr3, hM3⟩ := hq
              change ax_J _ _ _ _ _ _ _ _ _ 117 [some (.inr (.inr (some (50, 0)))), some (.inl (bI (mn = true))), some (.inl 1)] [] (P, g3, r0, n)
              refine aj_run (C := True) (pc' := 118) (la' := [some (.inr (.inr (some (50, 0)))), some (.inl (bI (mn = true))), some (.inl 1)]) (st' := [.inl 1]) (M' := (P, g3, r0, n)) ok_X11_ahead true 1 rfl trivial ?_
              refine aj_ret (r := some (.inl 1)) (ax_dec2 (i := .ireturn) (n := 1) ok_X11_ahead rfl) ⟨?_, ?_, by decide, by decide⟩ rfl
              · first | (exfalso; omega) | exact ⟨g3, rfl, fun f q j z => (fr3 f q j z).trans (ax_u3_n (fun y => z (by unfold TY; omega))), Or.inl ⟨rfl, (by first | exact ⟨Or.inl (by omega), by omega⟩ | exact ⟨Or.inr (Or.inl (by omega)), by omega⟩ | exact ⟨Or.inr (Or.inr ⟨by assumption, by omega⟩), by omega⟩), by rw [if_neg (show ¬ t = 40 by omega), if_neg (show ¬ t = 40 by omega), if_neg (show ¬ t = 40 by omega)]; (first | rw [if_pos (show t = 10 by omega)] | rw [if_neg (show ¬ t = 10 by omega)]); exact hM3⟩⟩
              · exact Or.inr rfl
          · replace c9 := bI_n0 c9
            refine aj_run (C := True) (pc' := 72) (la' := [some (.inr (.inr (some (50, 0)))), some (.inl (bI (mn = true))), some (.inl 1)]) (st' := [.inl 30, .inr (.inr (some (50, 0)))]) (M' := (P, ax_u3 g 50 0 22 ((g 50 0 22) + 1), r0, n)) ok_X11_ahead true 2 rfl trivial ?_
            refine aj_callV (av := [.inl 30]) (st := []) (f := 50) (o := 0) (ci := 11) cal_X11_await lk_11_124 ins_X11_await rfl sel_X11_await rfl (fun c9 h9 _ => by simpa [ax_ok] using h9) (sp_await 30 row w em (o + 1) nst c _ _ _ _ hn hr (by rw [m6]; exact yM_o hM) (by omega)) ⟨by decide, by decide, by decide, by decide⟩ (Nat.le_of_ble_eq_true rfl) (ax_dec2 (i := .invokevirtual 124) (n := 3) ok_X11_ahead rfl) (fun r M' hq => ?_)
            obtain ⟨rfl, g3, rfl, fr3, hM3⟩ := hq
            change ax_J _ _ _ _ _ _ _ _ _ 75 [some (.inr (.inr (some (50, 0)))), some (.inl (bI (mn = true))), some (.inl 1)] [] (P, g3, r0, n)
            have f23 : g3 50 0 23 = nst := hM3.2.2.2.1
            refine aj_run (C := (-2147483648 ≤ (g3 50 0 23) + 1 ∧ (g3 50 0 23) + 1 ≤ 2147483647) ∧ ((0 ≤ (g3 50 0 23) + 1 ∧ (g3 50 0 23) + 1 < n 124 0) ∧ (0 = 0 ∨ 0 = 1)) ∧ True) (pc' := 118) (la' := [some (.inr (.inr (some (50, 0)))), some (.inl (bI (mn = true))), some (.inl 1)]) (st' := [.inl 1]) (M' := (P, ax_u3 (ax_u3 g3 50 0 23 ((g3 50 0 23) + 1)) 124 0 ((g3 50 0 23) + 1) 0, r0, n)) ok_X11_ahead true 14 rfl (by refine ⟨?_, ?_, trivial⟩ <;> (omega)) ?_
            refine aj_ret (r := some (.inl 1)) (ax_dec2 (i := .ireturn) (n := 1) ok_X11_ahead rfl) ⟨?_, ?_, by decide, by decide⟩ rfl
            · first | (exfalso; omega) | exact ⟨_, rfl, fun f q j z => by rw [ax_u3_n (fun y => z (by unfold TY; omega)), ax_u3_n (fun y => z (by unfold TY; omega))]; exact (fr3 f q j z).trans (ax_u3_n (fun y => z (by unfold TY; omega))), Or.inl ⟨rfl, (by first | exact ⟨Or.inl (by omega), by omega⟩ | exact ⟨Or.inr (Or.inl (by omega)), by omega⟩ | exact ⟨Or.inr (Or.inr ⟨by assumption, by omega⟩), by omega⟩), by rw [f23, if_pos (show t = 40 by omega), if_pos (show t = 40 by omega), if_pos (show t = 40 by omega)]; exact yM_c (yM_n hM3)⟩⟩
            · exact Or.inr rfl
        · refine aj_run (C := True) (pc' := 49) (la' := [some (.inr (.inr (some (50, 0)))), some (.inl (bI (mn = true))), some (.inl 1)]) (st' := [.inl 0]) (M' := (P, g, r0, n)) ok_X11_ahead true 1 rfl trivial ?_
          refine aj_ret (r := some (.inl 0)) (ax_dec2 (i := .ireturn) (n := 1) ok_X11_ahead rfl) ⟨?_, ?_, by decide, by decide⟩ rfl
          · exact ⟨g, rfl, fun _ _ _ _ => rfl, Or.inr ⟨rfl, by (first | omega | (cases mn <;> simp_all [bI] <;> omega)), rfl⟩⟩
          · exact Or.inl rfl
    · replace c6 := bI_e0 c6
      refine aj_run (C := True) (pc' := 19) (la' := [some (.inr (.inr (some (50, 0)))), some (.inl (bI (mn = true))), none]) (st' := [.inl (bI (mn = true))]) (M' := (P, g, r0, n)) ok_X11_ahead true 1 rfl trivial ?_
      refine aj_if_eq (tgt := 34) (ax_dec2 (i := .ifCond .eq 15) (n := 3) ok_X11_ahead rfl) (by decide) (fun c11 => ?_) (fun c11 => ?_)
      · replace c11 := bI_e0 c11
        refine aj_run (C := True) (pc' := 37) (la' := [some (.inr (.inr (some (50, 0)))), some (.inl (bI (mn = true))), some (.inl 0)]) (st' := [.inl 0]) (M' := (P, g, r0, n)) ok_X11_ahead true 3 rfl trivial ?_
        refine aj_if_eq (tgt := 48) (ax_dec2 (i := .ifCond .eq 11) (n := 3) ok_X11_ahead rfl) (by decide) (fun c12 => ?_) (fun c12 => ?_)
        · refine aj_run (C := True) (pc' := 49) (la' := [some (.inr (.inr (some (50, 0)))), some (.inl (bI (mn = true))), some (.inl 0)]) (st' := [.inl 0]) (M' := (P, g, r0, n)) ok_X11_ahead true 1 rfl trivial ?_
          refine aj_ret (r := some (.inl 0)) (ax_dec2 (i := .ireturn) (n := 1) ok_X11_ahead rfl) ⟨?_, ?_, by decide, by decide⟩ rfl
          · exact ⟨g, rfl, fun _ _ _ _ => rfl, Or.inr ⟨rfl, by (first | omega | (cases mn <;> simp_all [bI] <;> omega)), rfl⟩⟩
          · exact Or.inl rfl
        · exact absurd c12 (by omega)
      · replace c11 := bI_n0 c11
        refine aj_run (C := True) (pc' := 24) (la' := [some (.inr (.inr (some (50, 0)))), some (.inl (bI (mn = true))), none]) (st' := [.inl 5, .inr (.inr (some (50, 0)))]) (M' := (P, g, r0, n)) ok_X11_ahead true 2 rfl trivial ?_
        refine aj_callV (av := [.inl 5]) (st := []) (f := 50) (o := 0) (ci := 11) cal_X11_isKey lk_11_111 ins_X11_isKey rfl sel_X11_isKey rfl (fun c9 h9 _ => by simpa [ax_ok] using h9) (sp_isKey 5 _ _ _ _) ⟨by decide, by decide, by decide, by decide⟩ (Nat.le_of_ble_eq_true rfl) (ax_dec2 (i := .invokevirtual 111) (n := 3) ok_X11_ahead rfl) (fun r M' hq => ?_)
        obtain ⟨rfl, rfl⟩ := hq
        change ax_J _ _ _ _ _ _ _ _ _ 27 [some (.inr (.inr (some (50, 0)))), some (.inl (bI (mn = true))), none] [.inl (bI (g 50 0 15 = 3 ∧ g 50 0 16 = 5))] (P, g, r0, n)
        rw [yT_ky (h := g) hk (by decide)]
        change ax_J _ _ _ _ _ _ _ _ _ 27 [some (.inr (.inr (some (50, 0)))), some (.inl (bI (mn = true))), none] [.inl (bI (t = 10))] (P, g, r0, n)
        refine aj_if_eq (tgt := 34) (ax_dec2 (i := .ifCond .eq 7) (n := 3) ok_X11_ahead rfl) (by decide) (fun c13 => ?_) (fun c13 => ?_)
        · replace c13 := bI_e0 c13
          refine aj_run (C := True) (pc' := 37) (la' := [some (.inr (.inr (some (50, 0)))), some (.inl (bI (mn = true))), some (.inl 0)]) (st' := [.inl 0]) (M' := (P, g, r0, n)) ok_X11_ahead true 3 rfl trivial ?_
          refine aj_if_eq (tgt := 48) (ax_dec2 (i := .ifCond .eq 11) (n := 3) ok_X11_ahead rfl) (by decide) (fun c14 => ?_) (fun c14 => ?_)
          · refine aj_run (C := True) (pc' := 49) (la' := [some (.inr (.inr (some (50, 0)))), some (.inl (bI (mn = true))), some (.inl 0)]) (st' := [.inl 0]) (M' := (P, g, r0, n)) ok_X11_ahead true 1 rfl trivial ?_
            refine aj_ret (r := some (.inl 0)) (ax_dec2 (i := .ireturn) (n := 1) ok_X11_ahead rfl) ⟨?_, ?_, by decide, by decide⟩ rfl
            · exact ⟨g, rfl, fun _ _ _ _ => rfl, Or.inr ⟨rfl, by (first | omega | (cases mn <;> simp_all [bI] <;> omega)), rfl⟩⟩
            · exact Or.inl rfl
          · exact absurd c14 (by omega)
        · replace c13 := bI_n0 c13
          refine aj_run (C := True) (pc' := 37) (la' := [some (.inr (.inr (some (50, 0)))), some (.inl (bI (mn = true))), some (.inl 1)]) (st' := [.inl 1]) (M' := (P, g, r0, n)) ok_X11_ahead true 4 rfl trivial ?_
          refine aj_if_eq (tgt := 48) (ax_dec2 (i := .ifCond .eq 11) (n := 3) ok_X11_ahead rfl) (by decide) (fun c15 => ?_) (fun c15 => ?_)
          · exact absurd c15 (by omega)
          · refine aj_run (C := True) (pc' := 45) (la' := [some (.inr (.inr (some (50, 0)))), some (.inl (bI (mn = true))), some (.inl 1)]) (st' := [.inl 5, .inl (g 50 0 22)]) (M' := (P, g, r0, n)) ok_X11_ahead true 3 rfl trivial ?_
            refine aj_icmp_ne (tgt := 50) (ax_dec2 (i := .if_icmp .ne 5) (n := 3) ok_X11_ahead rfl) (by decide) (fun c16 => ?_) (fun c16 => ?_)
            · refine aj_run (C := (-2147483648 ≤ (g 50 0 22) + 1 ∧ (g 50 0 22) + 1 ≤ 2147483647) ∧ True) (pc' := 63) (la' := [some (.inr (.inr (some (50, 0)))), some (.inl (bI (mn = true))), some (.inl 1)]) (st' := [.inl 40, .inr (.inr (some (50, 0)))]) (M' := (P, ax_u3 g 50 0 22 ((g 50 0 22) + 1), r0, n)) ok_X11_ahead true 8 rfl (by refine ⟨?_, trivial⟩ <;> (omega)) ?_
              refine aj_callV (av := [.inl 40]) (st := []) (f := 50) (o := 0) (ci := 11) cal_X11_isSign lk_11_108 ins_X11_isSign rfl sel_X11_isSign rfl (fun c9 h9 _ => by simpa [ax_ok] using h9) (sp_isSign 40 _ _ _ _) ⟨by decide, by decide, by decide, by decide⟩ (Nat.le_of_ble_eq_true rfl) (ax_dec2 (i := .invokevirtual 108) (n := 3) ok_X11_ahead rfl) (fun r M' hq => ?_)
              obtain ⟨rfl, rfl⟩ := hq
              change ax_J _ _ _ _ _ _ _ _ _ 66 [some (.inr (.inr (some (50, 0)))), some (.inl (bI (mn = true))), some (.inl 1)] [.inl (bI ((ax_u3 g 50 0 22 ((g 50 0 22) + 1)) 50 0 15 = 4 ∧ (ax_u3 g 50 0 22 ((g 50 0 22) + 1)) 50 0 16 = 40))] (P, ax_u3 g 50 0 22 ((g 50 0 22) + 1), r0, n)
              rw [yT_sg (h := (ax_u3 g 50 0 22 ((g 50 0 22) + 1))) hk (by decide)]
              change ax_J _ _ _ _ _ _ _ _ _ 66 [some (.inr (.inr (some (50, 0)))), some (.inl (bI (mn = true))), some (.inl 1)] [.inl (bI (t = 40))] (P, ax_u3 g 50 0 22 ((g 50 0 22) + 1), r0, n)
              refine aj_if_eq (tgt := 98) (ax_dec2 (i := .ifCond .eq 32) (n := 3) ok_X11_ahead rfl) (by decide) (fun c17 => ?_) (fun c17 => ?_)
              · replace c17 := bI_e0 c17
                have h15 := (yT_15 hk).1
                refine aj_run (C := True) (pc' := 104) (la' := [some (.inr (.inr (some (50, 0)))), some (.inl (bI (mn = true))), some (.inl 1)]) (st' := [.inl 3, .inl (g 50 0 15), .inr (.inr (some (50, 0)))]) (M' := (P, ax_u3 g 50 0 22 ((g 50 0 22) + 1), r0, n)) ok_X11_ahead true 4 rfl trivial ?_
                refine aj_icmp_ne (tgt := 112) (ax_dec2 (i := .if_icmp .ne 8) (n := 3) ok_X11_ahead rfl) (by decide) (fun c18 => ?_) (fun c18 => ?_)
                · refine aj_run (C := True) (pc' := 114) (la' := [some (.inr (.inr (some (50, 0)))), some (.inl (bI (mn = true))), some (.inl 1)]) (st' := [.inl 18, .inr (.inr (some (50, 0)))]) (M' := (P, ax_u3 g 50 0 22 ((g 50 0 22) + 1), r0, n)) ok_X11_ahead true 1 rfl trivial ?_
                  refine aj_callV (av := [.inl 18]) (st := []) (f := 50) (o := 0) (ci := 11) cal_X11_await lk_11_124 ins_X11_await rfl sel_X11_await rfl (fun c9 h9 _ => by simpa [ax_ok] using h9) (sp_await 18 row w em (o + 1) nst c _ _ _ _ hn hr (by rw [m6]; exact yM_o hM) (by omega)) ⟨by decide, by decide, by decide, by decide⟩ (Nat.le_of_ble_eq_true rfl) (ax_dec2 (i := .invokevirtual 124) (n := 3) ok_X11_ahead rfl) (fun r M' hq => ?_)
                  obtain ⟨rfl, g3, rfl, fr3, hM3⟩ := hq
                  change ax_J _ _ _ _ _ _ _ _ _ 117 [some (.inr (.inr (some (50, 0)))), some (.inl (bI (mn = true))), some (.inl 1)] [] (P, g3, r0, n)
                  refine aj_run (C := True) (pc' := 118) (la' := [some (.inr (.inr (some (50, 0)))), some (.inl (bI (mn = true))), some (.inl 1)]) (st' := [.inl 1]) (M' := (P, g3, r0, n)) ok_X11_ahead true 1 rfl trivial ?_
                  refine aj_ret (r := some (.inl 1)) (ax_dec2 (i := .ireturn) (n := 1) ok_X11_ahead rfl) ⟨?_, ?_, by decide, by decide⟩ rfl
                  · first | (exfalso; omega) | exact ⟨g3, rfl, fun f q j z => (fr3 f q j z).trans (ax_u3_n (fun y => z (by unfold TY; omega))), Or.inl ⟨rfl, (by first | exact ⟨Or.inl (by omega), by omega⟩ | exact ⟨Or.inr (Or.inl (by omega)), by omega⟩ | exact ⟨Or.inr (Or.inr ⟨by assumption, by omega⟩), by omega⟩), by rw [if_neg (show ¬ t = 40 by omega), if_neg (show ¬ t = 40 by omega), if_neg (show ¬ t = 40 by omega)]; (first | rw [if_pos (show t = 10 by omega)] | rw [if_neg (show ¬ t = 10 by omega)]); exact hM3⟩⟩
                  · exact Or.inr rfl
                · refine aj_run (C := True) (pc' := 114) (la' := [some (.inr (.inr (some (50, 0)))), some (.inl (bI (mn = true))), some (.inl 1)]) (st' := [.inl 12, .inr (.inr (some (50, 0)))]) (M' := (P, ax_u3 g 50 0 22 ((g 50 0 22) + 1), r0, n)) ok_X11_ahead true 2 rfl trivial ?_
                  refine aj_callV (av := [.inl 12]) (st := []) (f := 50) (o := 0) (ci := 11) cal_X11_await lk_11_124 ins_X11_await rfl sel_X11_await rfl (fun c9 h9 _ => by simpa [ax_ok] using h9) (sp_await 12 row w em (o + 1) nst c _ _ _ _ hn hr (by rw [m6]; exact yM_o hM) (by omega)) ⟨by decide, by decide, by decide, by decide⟩ (Nat.le_of_ble_eq_true rfl) (ax_dec2 (i := .invokevirtual 124) (n := 3) ok_X11_ahead rfl) (fun r M' hq => ?_)
                  obtain ⟨rfl, g3, rfl, fr3, hM3⟩ := hq
                  change ax_J _ _ _ _ _ _ _ _ _ 117 [some (.inr (.inr (some (50, 0)))), some (.inl (bI (mn = true))), some (.inl 1)] [] (P, g3, r0, n)
                  refine aj_run (C := True) (pc' := 118) (la' := [some (.inr (.inr (some (50, 0)))), some (.inl (bI (mn = true))), some (.inl 1)]) (st' := [.inl 1]) (M' := (P, g3, r0, n)) ok_X11_ahead true 1 rfl trivial ?_
                  refine aj_ret (r := some (.inl 1)) (ax_dec2 (i := .ireturn) (n := 1) ok_X11_ahead rfl) ⟨?_, ?_, by decide, by decide⟩ rfl
                  · first | (exfalso; omega) | exact ⟨g3, rfl, fun f q j z => (fr3 f q j z).trans (ax_u3_n (fun y => z (by unfold TY; omega))), Or.inl ⟨rfl, (by first | exact ⟨Or.inl (by omega), by omega⟩ | exact ⟨Or.inr (Or.inl (by omega)), by omega⟩ | exact ⟨Or.inr (Or.inr ⟨by assumption, by omega⟩), by omega⟩), by rw [if_neg (show ¬ t = 40 by omega), if_neg (show ¬ t = 40 by omega), if_neg (show ¬ t = 40 by omega)]; (first | rw [if_pos (show t = 10 by omega)] | rw [if_neg (show ¬ t = 10 by omega)]); exact hM3⟩⟩
                  · exact Or.inr rfl
              · replace c17 := bI_n0 c17
                refine aj_run (C := True) (pc' := 72) (la' := [some (.inr (.inr (some (50, 0)))), some (.inl (bI (mn = true))), some (.inl 1)]) (st' := [.inl 30, .inr (.inr (some (50, 0)))]) (M' := (P, ax_u3 g 50 0 22 ((g 50 0 22) + 1), r0, n)) ok_X11_ahead true 2 rfl trivial ?_
                refine aj_callV (av := [.inl 30]) (st := []) (f := 50) (o := 0) (ci := 11) cal_X11_await lk_11_124 ins_X11_await rfl sel_X11_await rfl (fun c9 h9 _ => by simpa [ax_ok] using h9) (sp_await 30 row w em (o + 1) nst c _ _ _ _ hn hr (by rw [m6]; exact yM_o hM) (by omega)) ⟨by decide, by decide, by decide, by decide⟩ (Nat.le_of_ble_eq_true rfl) (ax_dec2 (i := .invokevirtual 124) (n := 3) ok_X11_ahead rfl) (fun r M' hq => ?_)
                obtain ⟨rfl, g3, rfl, fr3, hM3⟩ := hq
                change ax_J _ _ _ _ _ _ _ _ _ 75 [some (.inr (.inr (some (50, 0)))), some (.inl (bI (mn = true))), some (.inl 1)] [] (P, g3, r0, n)
                have f23 : g3 50 0 23 = nst := hM3.2.2.2.1
                refine aj_run (C := (-2147483648 ≤ (g3 50 0 23) + 1 ∧ (g3 50 0 23) + 1 ≤ 2147483647) ∧ ((0 ≤ (g3 50 0 23) + 1 ∧ (g3 50 0 23) + 1 < n 124 0) ∧ (0 = 0 ∨ 0 = 1)) ∧ True) (pc' := 118) (la' := [some (.inr (.inr (some (50, 0)))), some (.inl (bI (mn = true))), some (.inl 1)]) (st' := [.inl 1]) (M' := (P, ax_u3 (ax_u3 g3 50 0 23 ((g3 50 0 23) + 1)) 124 0 ((g3 50 0 23) + 1) 0, r0, n)) ok_X11_ahead true 14 rfl (by refine ⟨?_, ?_, trivial⟩ <;> (omega)) ?_
                refine aj_ret (r := some (.inl 1)) (ax_dec2 (i := .ireturn) (n := 1) ok_X11_ahead rfl) ⟨?_, ?_, by decide, by decide⟩ rfl
                · first | (exfalso; omega) | exact ⟨_, rfl, fun f q j z => by rw [ax_u3_n (fun y => z (by unfold TY; omega)), ax_u3_n (fun y => z (by unfold TY; omega))]; exact (fr3 f q j z).trans (ax_u3_n (fun y => z (by unfold TY; omega))), Or.inl ⟨rfl, (by first | exact ⟨Or.inl (by omega), by omega⟩ | exact ⟨Or.inr (Or.inl (by omega)), by omega⟩ | exact ⟨Or.inr (Or.inr ⟨by assumption, by omega⟩), by omega⟩), by rw [f23, if_pos (show t = 40 by omega), if_pos (show t = 40 by omega), if_pos (show t = 40 by omega)]; exact yM_c (yM_n hM3)⟩⟩
                · exact Or.inr rfl
            · refine aj_run (C := True) (pc' := 49) (la' := [some (.inr (.inr (some (50, 0)))), some (.inl (bI (mn = true))), some (.inl 1)]) (st' := [.inl 0]) (M' := (P, g, r0, n)) ok_X11_ahead true 1 rfl trivial ?_
              refine aj_ret (r := some (.inl 0)) (ax_dec2 (i := .ireturn) (n := 1) ok_X11_ahead rfl) ⟨?_, ?_, by decide, by decide⟩ rfl
              · exact ⟨g, rfl, fun _ _ _ _ => rfl, Or.inr ⟨rfl, by (first | omega | (cases mn <;> simp_all [bI] <;> omega)), rfl⟩⟩
              · exact Or.inl rfl

