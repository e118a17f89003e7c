/-! ===== the class splits its tape ===== -/
/-- the tokens below j stand in the memory -/
def cTok (g : Nat → Int → Int → Int) (B : Int → Int) (m j : Int) : Prop := ∀ i, 0 ≤ i → i < j → g 303 0 i = tT B m i ∧ g 304 0 i = tkP B m i ∧ (tT B m i = 2 ∨ tT B m i = 3 → g 305 0 i = tV B m i)
theorem cTok_a {g : Nat → Int → Int → Int} {B : Int → Int} {m j tok f v : Int} (h6 : g 3 0 6 = j) (h : cTok g B m j) (h1 : tok = tT B m j) (h2 : f = tkP B m j) (h3 : tT B m j = 2 ∨ tT B m j = 3 → v = tV B m j) : cTok (aT g tok f v) B m (j + 1) := fun i z1 z2 => by
  obtain ⟨a1, a2, a3⟩ := aT_a (g := g) (tok := tok) (f := f) (v := v)
  by_cases c : i = j
  · rw [c, ← h6, a1, a2, a3, h6]
    exact ⟨h1, h2, h3⟩
  · rw [aT_o (by omega) (by decide), aT_o (by omega) (by decide), aT_o (by omega) (by decide)]
    exact h i z1 (by omega)
theorem tkN_eq {B : Int → Int} {m j : Int} (hm : 0 ≤ m) (hj : 0 ≤ j) (h1 : tkP B m j = m) (h2 : ∀ i, 0 ≤ i → i < j → tkP B m i < m) : j = tkN B m := by
  obtain ⟨⟨a1, a2⟩, a3, a4⟩ := tkN_in (B := B) hm
  by_cases c : j < tkN B m
  · have := a4 j hj c
    omega
  · by_cases c2 : tkN B m < j
    · have := h2 _ a1 c2
      omega
    · omega
set_option maxRecDepth 100000 in
set_option maxHeartbeats 4000000 in
theorem cp_splitOff (f : Int) (P : Nat → Int → Prop) (g : Nat → Int → Int → Int) (r0 : Nat → Int → Int → Option (Nat × Int)) (n : Nat → Int → Int) (hn : cTL n) (hz : 0 ≤ g 3 0 0 ∧ g 3 0 0 ≤ 160) (hS : cStr P) (hf : 0 ≤ f ∧ f < g 3 0 0) (h6 : 0 ≤ g 3 0 6 ∧ g 3 0 6 < 161) : ax_S yX8_splitOff cX8_splitOff 4 (some FieldType.int) 6 0 0 [.inr (.inr (some (3, 0))), .inl f] (P, g, r0, n) (fun r M' => r = some (.inl (tkE (g 302 0) (g 3 0 0) f)) ∧ ∃ v, M' = (P, aT g (tkT (g 302 0) (g 3 0 0) f) f v, r0, n) ∧ (tkT (g 302 0) (g 3 0 0) f = 2 ∨ tkT (g 302 0) (g 3 0 0) f = 3 → v = tkV (g 302 0) (g 3 0 0) f)) := by
  obtain ⟨n302, -⟩ := id hn
  refine ax_S_of (own := 8) (by decide) rfl (fun h => absurd h (by decide)) rfl (Nat.le_of_ble_eq_true rfl) ?_
  change ax_J _ _ _ _ _ _ _ _ _ _ [some (.inr (.inr (some (3, 0)))), some (.inl f), none, none] _ _
  refine aj_run (C := (0 ≤ f ∧ f < n 302 0) ∧ True) (pc' := 10) (la' := [some (.inr (.inr (some (3, 0)))), some (.inl f), some (.inl (g 302 0 f)), none]) (st' := [.inl 97, .inl (g 302 0 f)]) (M' := (P, g, r0, n)) ok_X8_splitOff true 7 rfl (by refine ⟨?_, trivial⟩ <;> (omega)) ?_
  refine aj_icmp_lt (tgt := 37) (ax_dec2 (i := .if_icmp .lt 27) (n := 3) ok_X8_splitOff rfl) (by decide) (fun c1 => ?_) (fun c1 => ?_)
  · refine aj_run (C := True) (pc' := 40) (la' := [some (.inr (.inr (some (3, 0)))), some (.inl f), some (.inl (g 302 0 f)), none]) (st' := [.inl 48, .inl (g 302 0 f)]) (M' := (P, g, r0, n)) ok_X8_splitOff true 2 rfl trivial ?_
    refine aj_icmp_lt (tgt := 67) (ax_dec2 (i := .if_icmp .lt 27) (n := 3) ok_X8_splitOff rfl) (by decide) (fun c2 => ?_) (fun c2 => ?_)
    · refine aj_run (C := True) (pc' := 69) (la' := [some (.inr (.inr (some (3, 0)))), some (.inl f), some (.inl (g 302 0 f)), none]) (st' := [.inl (g 302 0 f), .inr (.inr (some (3, 0)))]) (M' := (P, g, r0, n)) ok_X8_splitOff true 2 rfl trivial ?_
      refine aj_callS (av := [.inl (g 302 0 f)]) (st := [.inr (.inr (some (3, 0)))]) cal_X8_isSign lk_8_86 stc_X8_isSign (cp_isSgn (g 302 0 f) _ _ _ _) ⟨by decide, by decide, by decide, by decide⟩ (Nat.le_of_ble_eq_true rfl) (ax_dec2 (i := .invokestatic 86) (n := 3) ok_X8_splitOff rfl) (fun r M' hq => ?_)
      obtain ⟨rfl, rfl⟩ := hq
      change ax_J _ _ _ _ _ _ _ _ _ 72 [some (.inr (.inr (some (3, 0)))), some (.inl f), some (.inl (g 302 0 f)), none] [.inl (bI (isSgB (g 302 0 f) = true)), .inr (.inr (some (3, 0)))] (P, g, r0, n)
      refine aj_if_eq (tgt := 79) (ax_dec2 (i := .ifCond .eq 7) (n := 3) ok_X8_splitOff rfl) (by decide) (fun c3 => ?_) (fun c3 => ?_)
      · replace c3 := bI_e0 c3
        refine aj_run (C := True) (pc' := 82) (la' := [some (.inr (.inr (some (3, 0)))), some (.inl f), some (.inl (g 302 0 f)), none]) (st' := [.inl 0, .inl f, .inl 1, .inr (.inr (some (3, 0)))]) (M' := (P, g, r0, n)) ok_X8_splitOff true 3 rfl trivial ?_
        refine aj_callV (av := [.inl 1, .inl f, .inl 0]) (st := []) (f := 3) (o := 0) (ci := 8) cal_X8_addToken lk_8_72 ins_X8_addToken rfl sel_X8_addToken rfl (fun c9 h9 _ => by simpa [ax_ok] using h9) (cp_addTok 1 f 0 _ _ _ _ hn h6) ⟨by decide, by decide, by decide, by decide⟩ (Nat.le_of_ble_eq_true rfl) (ax_dec2 (i := .invokevirtual 72) (n := 3) ok_X8_splitOff rfl) (fun r M' hq => ?_)
        obtain ⟨rfl, rfl⟩ := hq
        change ax_J _ _ _ _ _ _ _ _ _ 85 [some (.inr (.inr (some (3, 0)))), some (.inl f), some (.inl (g 302 0 f)), none] [] (P, aT g 1 f 0, r0, n)
        refine aj_run (C := (-2147483648 ≤ f + 1 ∧ f + 1 ≤ 2147483647) ∧ True) (pc' := 88) (la' := [some (.inr (.inr (some (3, 0)))), some (.inl f), some (.inl (g 302 0 f)), none]) (st' := [.inl (f + 1)]) (M' := (P, aT g 1 f 0, r0, n)) ok_X8_splitOff true 3 rfl (by refine ⟨?_, trivial⟩ <;> (omega)) ?_
        refine aj_ret (r := some (.inl (f + 1))) (ax_dec2 (i := .ireturn) (n := 1) ok_X8_splitOff rfl) ⟨?_, ?_, by decide, by decide⟩ rfl
        · (have hnl : bLet (g 302 0) (g 3 0 0) f = false := decide_eq_false (by omega); have hnd : bDig (g 302 0) (g 3 0 0) f = false := decide_eq_false (by omega); have et : tkE (g 302 0) (g 3 0 0) f = f + 1 := (by unfold tkE; rw [if_neg (by rw [hnl]; decide), if_neg (by rw [hnd]; decide)]); have e2 : tkT (g 302 0) (g 3 0 0) f = if isSgB (g 302 0 f) = true then g 302 0 f else 1 := (by unfold tkT; rw [if_neg (by rw [hnl]; decide), if_neg (by rw [hnd]; decide)]); exact ⟨ax_si et.symm, 0, by rw [e2]; first | rw [if_pos (by assumption)] | rw [if_neg (by assumption)], fun z => by rw [e2] at z; exfalso; first | (rw [if_pos (by assumption)] at z; have := isSg_b.mp (show isSgB (g 302 0 f) = true by assumption); unfold isSg at this; omega) | (rw [if_neg (by assumption)] at z; omega)⟩)
        · exact ax_ro_i
      · replace c3 := bI_n0 c3
        refine aj_run (C := True) (pc' := 82) (la' := [some (.inr (.inr (some (3, 0)))), some (.inl f), some (.inl (g 302 0 f)), none]) (st' := [.inl 0, .inl f, .inl (g 302 0 f), .inr (.inr (some (3, 0)))]) (M' := (P, g, r0, n)) ok_X8_splitOff true 4 rfl trivial ?_
        refine aj_callV (av := [.inl (g 302 0 f), .inl f, .inl 0]) (st := []) (f := 3) (o := 0) (ci := 8) cal_X8_addToken lk_8_72 ins_X8_addToken rfl sel_X8_addToken rfl (fun c9 h9 _ => by simpa [ax_ok] using h9) (cp_addTok (g 302 0 f) f 0 _ _ _ _ hn h6) ⟨by decide, by decide, by decide, by decide⟩ (Nat.le_of_ble_eq_true rfl) (ax_dec2 (i := .invokevirtual 72) (n := 3) ok_X8_splitOff rfl) (fun r M' hq => ?_)
        obtain ⟨rfl, rfl⟩ := hq
        change ax_J _ _ _ _ _ _ _ _ _ 85 [some (.inr (.inr (some (3, 0)))), some (.inl f), some (.inl (g 302 0 f)), none] [] (P, aT g (g 302 0 f) f 0, r0, n)
        refine aj_run (C := (-2147483648 ≤ f + 1 ∧ f + 1 ≤ 2147483647) ∧ True) (pc' := 88) (la' := [some (.inr (.inr (some (3, 0)))), some (.inl f), some (.inl (g 302 0 f)), none]) (st' := [.inl (f + 1)]) (M' := (P, aT g (g 302 0 f) f 0, r0, n)) ok_X8_splitOff true 3 rfl (by refine ⟨?_, trivial⟩ <;> (omega)) ?_
        refine aj_ret (r := some (.inl (f + 1))) (ax_dec2 (i := .ireturn) (n := 1) ok_X8_splitOff rfl) ⟨?_, ?_, by decide, by decide⟩ rfl
        · (have hnl : bLet (g 302 0) (g 3 0 0) f = false := decide_eq_false (by omega); have hnd : bDig (g 302 0) (g 3 0 0) f = false := decide_eq_false (by omega); have et : tkE (g 302 0) (g 3 0 0) f = f + 1 := (by unfold tkE; rw [if_neg (by rw [hnl]; decide), if_neg (by rw [hnd]; decide)]); have e2 : tkT (g 302 0) (g 3 0 0) f = if isSgB (g 302 0 f) = true then g 302 0 f else 1 := (by unfold tkT; rw [if_neg (by rw [hnl]; decide), if_neg (by rw [hnd]; decide)]); exact ⟨ax_si et.symm, 0, by rw [e2]; first | rw [if_pos (by assumption)] | rw [if_neg (by assumption)], fun z => by rw [e2] at z; exfalso; first | (rw [if_pos (by assumption)] at z; have := isSg_b.mp (show isSgB (g 302 0 f) = true by assumption); unfold isSg at this; omega) | (rw [if_neg (by assumption)] at z; omega)⟩)
        · exact ax_ro_i
    · refine aj_run (C := True) (pc' := 46) (la' := [some (.inr (.inr (some (3, 0)))), some (.inl f), some (.inl (g 302 0 f)), none]) (st' := [.inl 57, .inl (g 302 0 f)]) (M' := (P, g, r0, n)) ok_X8_splitOff true 2 rfl trivial ?_
      refine aj_icmp_gt (tgt := 67) (ax_dec2 (i := .if_icmp .gt 21) (n := 3) ok_X8_splitOff rfl) (by decide) (fun c4 => ?_) (fun c4 => ?_)
      · refine aj_run (C := True) (pc' := 69) (la' := [some (.inr (.inr (some (3, 0)))), some (.inl f), some (.inl (g 302 0 f)), none]) (st' := [.inl (g 302 0 f), .inr (.inr (some (3, 0)))]) (M' := (P, g, r0, n)) ok_X8_splitOff true 2 rfl trivial ?_
        refine aj_callS (av := [.inl (g 302 0 f)]) (st := [.inr (.inr (some (3, 0)))]) cal_X8_isSign lk_8_86 stc_X8_isSign (cp_isSgn (g 302 0 f) _ _ _ _) ⟨by decide, by decide, by decide, by decide⟩ (Nat.le_of_ble_eq_true rfl) (ax_dec2 (i := .invokestatic 86) (n := 3) ok_X8_splitOff rfl) (fun r M' hq => ?_)
        obtain ⟨rfl, rfl⟩ := hq
        change ax_J _ _ _ _ _ _ _ _ _ 72 [some (.inr (.inr (some (3, 0)))), some (.inl f), some (.inl (g 302 0 f)), none] [.inl (bI (isSgB (g 302 0 f) = true)), .inr (.inr (some (3, 0)))] (P, g, r0, n)
        refine aj_if_eq (tgt := 79) (ax_dec2 (i := .ifCond .eq 7) (n := 3) ok_X8_splitOff rfl) (by decide) (fun c5 => ?_) (fun c5 => ?_)
        · replace c5 := bI_e0 c5
          refine aj_run (C := True) (pc' := 82) (la' := [some (.inr (.inr (some (3, 0)))), some (.inl f), some (.inl (g 302 0 f)), none]) (st' := [.inl 0, .inl f, .inl 1, .inr (.inr (some (3, 0)))]) (M' := (P, g, r0, n)) ok_X8_splitOff true 3 rfl trivial ?_
          refine aj_callV (av := [.inl 1, .inl f, .inl 0]) (st := []) (f := 3) (o := 0) (ci := 8) cal_X8_addToken lk_8_72 ins_X8_addToken rfl sel_X8_addToken rfl (fun c9 h9 _ => by simpa [ax_ok] using h9) (cp_addTok 1 f 0 _ _ _ _ hn h6) ⟨by decide, by decide, by decide, by decide⟩ (Nat.le_of_ble_eq_true rfl) (ax_dec2 (i := .invokevirtual 72) (n := 3) ok_X8_splitOff rfl) (fun r M' hq => ?_)
          obtain ⟨rfl, rfl⟩ := hq
          change ax_J _ _ _ _ _ _ _ _ _ 85 [some (.inr (.inr (some (3, 0)))), some (.inl f), some (.inl (g 302 0 f)), none] [] (P, aT g 1 f 0, r0, n)
          refine aj_run (C := (-2147483648 ≤ f + 1 ∧ f + 1 ≤ 2147483647) ∧ True) (pc' := 88) (la' := [some (.inr (.inr (some (3, 0)))), some (.inl f), some (.inl (g 302 0 f)), none]) (st' := [.inl (f + 1)]) (M' := (P, aT g 1 f 0, r0, n)) ok_X8_splitOff true 3 rfl (by refine ⟨?_, trivial⟩ <;> (omega)) ?_
          refine aj_ret (r := some (.inl (f + 1))) (ax_dec2 (i := .ireturn) (n := 1) ok_X8_splitOff rfl) ⟨?_, ?_, by decide, by decide⟩ rfl
          · (have hnl : bLet (g 302 0) (g 3 0 0) f = false := decide_eq_false (by omega); have hnd : bDig (g 302 0) (g 3 0 0) f = false := decide_eq_false (by omega); have et : tkE (g 302 0) (g 3 0 0) f = f + 1 := (by unfold tkE; rw [if_neg (by rw [hnl]; decide), if_neg (by rw [hnd]; decide)]); have e2 : tkT (g 302 0) (g 3 0 0) f = if isSgB (g 302 0 f) = true then g 302 0 f else 1 := (by unfold tkT; rw [if_neg (by rw [hnl]; decide), if_neg (by rw [hnd]; decide)]); exact ⟨ax_si et.symm, 0, by rw [e2]; first | rw [if_pos (by assumption)] | rw [if_neg (by assumption)], fun z => by rw [e2] at z; exfalso; first | (rw [if_pos (by assumption)] at z; have := isSg_b.mp (show isSgB (g 302 0 f) = true by assumption); unfold isSg at this; omega) | (rw [if_neg (by assumption)] at z; omega)⟩)
          · exact ax_ro_i
        · replace c5 := bI_n0 c5
          refine aj_run (C := True) (pc' := 82) (la' := [some (.inr (.inr (some (3, 0)))), some (.inl f), some (.inl (g 302 0 f)), none]) (st' := [.inl 0, .inl f, .inl (g 302 0 f), .inr (.inr (some (3, 0)))]) (M' := (P, g, r0, n)) ok_X8_splitOff true 4 rfl trivial ?_
          refine aj_callV (av := [.inl (g 302 0 f), .inl f, .inl 0]) (st := []) (f := 3) (o := 0) (ci := 8) cal_X8_addToken lk_8_72 ins_X8_addToken rfl sel_X8_addToken rfl (fun c9 h9 _ => by simpa [ax_ok] using h9) (cp_addTok (g 302 0 f) f 0 _ _ _ _ hn h6) ⟨by decide, by decide, by decide, by decide⟩ (Nat.le_of_ble_eq_true rfl) (ax_dec2 (i := .invokevirtual 72) (n := 3) ok_X8_splitOff rfl) (fun r M' hq => ?_)
          obtain ⟨rfl, rfl⟩ := hq
          change ax_J _ _ _ _ _ _ _ _ _ 85 [some (.inr (.inr (some (3, 0)))), some (.inl f), some (.inl (g 302 0 f)), none] [] (P, aT g (g 302 0 f) f 0, r0, n)
          refine aj_run (C := (-2147483648 ≤ f + 1 ∧ f + 1 ≤ 2147483647) ∧ True) (pc' := 88) (la' := [some (.inr (.inr (some (3, 0)))), some (.inl f), some (.inl (g 302 0 f)), none]) (st' := [.inl (f + 1)]) (M' := (P, aT g (g 302 0 f) f 0, r0, n)) ok_X8_splitOff true 3 rfl (by refine ⟨?_, trivial⟩ <;> (omega)) ?_
          refine aj_ret (r := some (.inl (f + 1))) (ax_dec2 (i := .ireturn) (n := 1) ok_X8_splitOff rfl) ⟨?_, ?_, by decide, by decide⟩ rfl
          · (have hnl : bLet (g 302 0) (g 3 0 0) f = false := decide_eq_false (by omega); have hnd : bDig (g 302 0) (g 3 0 0) f = false := decide_eq_false (by omega); have et : tkE (g 302 0) (g 3 0 0) f = f + 1 := (by unfold tkE; rw [if_neg (by rw [hnl]; decide), if_neg (by rw [hnd]; decide)]); have e2 : tkT (g 302 0) (g 3 0 0) f = if isSgB (g 302 0 f) = true then g 302 0 f else 1 := (by unfold tkT; rw [if_neg (by rw [hnl]; decide), if_neg (by rw [hnd]; decide)]); exact ⟨ax_si et.symm, 0, by rw [e2]; first | rw [if_pos (by assumption)] | rw [if_neg (by assumption)], fun z => by rw [e2] at z; exfalso; first | (rw [if_pos (by assumption)] at z; have := isSg_b.mp (show isSgB (g 302 0 f) = true by assumption); unfold isSg at this; omega) | (rw [if_neg (by assumption)] at z; omega)⟩)
          · exact ax_ro_i
      · refine aj_run (C := True) (pc' := 55) (la' := [some (.inr (.inr (some (3, 0)))), some (.inl f), some (.inl (g 302 0 f)), none]) (st' := [.inl 57, .inl 48, .inl f, .inr (.inr (some (3, 0)))]) (M' := (P, g, r0, n)) ok_X8_splitOff true 4 rfl trivial ?_
        have hlet : bDig (g 302 0) (g 3 0 0) f = true := decide_eq_true (by omega)
        have hnl : bLet (g 302 0) (g 3 0 0) f = false := decide_eq_false (by omega)
        refine aj_callV (av := [.inl f, .inl 48, .inl 57]) (st := []) (f := 3) (o := 0) (ci := 8) cal_X8_behind lk_8_76 ins_X8_behind rfl sel_X8_behind rfl (fun c9 h9 _ => by simpa [ax_ok] using h9) (cp_behind f 48 57 _ _ _ _ hn hz (by omega)) ⟨by decide, by decide, by decide, by decide⟩ (Nat.le_of_ble_eq_true rfl) (ax_dec2 (i := .invokevirtual 76) (n := 3) ok_X8_splitOff rfl) (fun r M' hq => ?_)
        obtain ⟨rfl, rfl⟩ := hq
        change ax_J _ _ _ _ _ _ _ _ _ 58 [some (.inr (.inr (some (3, 0)))), some (.inl f), some (.inl (g 302 0 f)), none] [.inl (lx (bDig (g 302 0) (g 3 0 0)) (g 3 0 0) f)] (P, g, r0, n)
        have hte : tkE (g 302 0) (g 3 0 0) f = lx (bDig (g 302 0) (g 3 0 0)) (g 3 0 0) f := by unfold tkE; rw [if_neg (by rw [hnl]; decide), if_pos hlet]
        rw [← hte]
        have hin := tkE_in (B := g 302 0) (m := g 3 0 0) (k := f) (by omega)
        change ax_J _ _ _ _ _ _ _ _ _ 58 [some (.inr (.inr (some (3, 0)))), some (.inl f), some (.inl (g 302 0 f)), none] [.inl (tkE (g 302 0) (g 3 0 0) f)] (P, g, r0, n)
        refine aj_run (C := True) (pc' := 62) (la' := [some (.inr (.inr (some (3, 0)))), some (.inl f), some (.inl (g 302 0 f)), some (.inl (tkE (g 302 0) (g 3 0 0) f))]) (st' := [.inl (tkE (g 302 0) (g 3 0 0) f), .inl f, .inr (.inr (some (3, 0)))]) (M' := (P, g, r0, n)) ok_X8_splitOff true 4 rfl trivial ?_
        refine aj_callV (av := [.inl f, .inl (tkE (g 302 0) (g 3 0 0) f)]) (st := []) (f := 3) (o := 0) (ci := 8) cal_X8_addNumber lk_8_83 ins_X8_addNumber rfl sel_X8_addNumber rfl (fun c9 h9 _ => by simpa [ax_ok] using h9) (cp_addNum f (tkE (g 302 0) (g 3 0 0) f) _ _ _ _ hn hz (by omega) (fun j z1 z2 => (of_decide_eq_true (lx_a (bDig_m (B := g 302 0) (m := g 3 0 0)) z1 (by rw [← hte]; exact z2))).2) h6) ⟨by decide, by decide, by decide, by decide⟩ (Nat.le_of_ble_eq_true rfl) (ax_dec2 (i := .invokevirtual 83) (n := 3) ok_X8_splitOff rfl) (fun r M' hq => ?_)
        obtain ⟨rfl, v, rfl, hv⟩ := hq
        change ax_J _ _ _ _ _ _ _ _ _ 65 [some (.inr (.inr (some (3, 0)))), some (.inl f), some (.inl (g 302 0 f)), some (.inl (tkE (g 302 0) (g 3 0 0) f))] [] (P, aT g (if 4 < tkE (g 302 0) (g 3 0 0) f - f then 1 else 2) f v, r0, n)
        refine aj_run (C := True) (pc' := 66) (la' := [some (.inr (.inr (some (3, 0)))), some (.inl f), some (.inl (g 302 0 f)), some (.inl (tkE (g 302 0) (g 3 0 0) f))]) (st' := [.inl (tkE (g 302 0) (g 3 0 0) f)]) (M' := (P, aT g (if 4 < tkE (g 302 0) (g 3 0 0) f - f then 1 else 2) f v, r0, n)) ok_X8_splitOff true 1 rfl trivial ?_
        refine aj_ret (r := some (.inl (tkE (g 302 0) (g 3 0 0) f))) (ax_dec2 (i := .ireturn) (n := 1) ok_X8_splitOff rfl) ⟨?_, ?_, by decide, by decide⟩ rfl
        · (have et : tkT (g 302 0) (g 3 0 0) f = (if 4 < tkE (g 302 0) (g 3 0 0) f - f then 1 else 2) := (by unfold tkT; rw [if_neg (by rw [hnl]; decide), if_pos hlet]); exact ⟨rfl, v, by rw [et], fun z => by unfold tkV; rw [if_neg (by rw [hnl]; decide)]; rw [et] at z; refine hv ?_; by_cases c : 4 < tkE (g 302 0) (g 3 0 0) f - f; (rw [if_pos c] at z; omega); omega⟩)
        · exact ax_ro_i
  · refine aj_run (C := True) (pc' := 16) (la' := [some (.inr (.inr (some (3, 0)))), some (.inl f), some (.inl (g 302 0 f)), none]) (st' := [.inl 122, .inl (g 302 0 f)]) (M' := (P, g, r0, n)) ok_X8_splitOff true 2 rfl trivial ?_
    refine aj_icmp_gt (tgt := 37) (ax_dec2 (i := .if_icmp .gt 21) (n := 3) ok_X8_splitOff rfl) (by decide) (fun c6 => ?_) (fun c6 => ?_)
    · refine aj_run (C := True) (pc' := 40) (la' := [some (.inr (.inr (some (3, 0)))), some (.inl f), some (.inl (g 302 0 f)), none]) (st' := [.inl 48, .inl (g 302 0 f)]) (M' := (P, g, r0, n)) ok_X8_splitOff true 2 rfl trivial ?_
      refine aj_icmp_lt (tgt := 67) (ax_dec2 (i := .if_icmp .lt 27) (n := 3) ok_X8_splitOff rfl) (by decide) (fun c7 => ?_) (fun c7 => ?_)
      · exact absurd c7 (by omega)
      · refine aj_run (C := True) (pc' := 46) (la' := [some (.inr (.inr (some (3, 0)))), some (.inl f), some (.inl (g 302 0 f)), none]) (st' := [.inl 57, .inl (g 302 0 f)]) (M' := (P, g, r0, n)) ok_X8_splitOff true 2 rfl trivial ?_
        refine aj_icmp_gt (tgt := 67) (ax_dec2 (i := .if_icmp .gt 21) (n := 3) ok_X8_splitOff rfl) (by decide) (fun c8 => ?_) (fun c8 => ?_)
        · refine aj_run (C := True) (pc' := 69) (la' := [some (.inr (.inr (some (3, 0)))), some (.inl f), some (.inl (g 302 0 f)), none]) (st' := [.inl (g 302 0 f), .inr (.inr (some (3, 0)))]) (M' := (P, g, r0, n)) ok_X8_splitOff true 2 rfl trivial ?_
          refine aj_callS (av := [.inl (g 302 0 f)]) (st := [.inr (.inr (some (3, 0)))]) cal_X8_isSign lk_8_86 stc_X8_isSign (cp_isSgn (g 302 0 f) _ _ _ _) ⟨by decide, by decide, by decide, by decide⟩ (Nat.le_of_ble_eq_true rfl) (ax_dec2 (i := .invokestatic 86) (n := 3) ok_X8_splitOff rfl) (fun r M' hq => ?_)
          obtain ⟨rfl, rfl⟩ := hq
          change ax_J _ _ _ _ _ _ _ _ _ 72 [some (.inr (.inr (some (3, 0)))), some (.inl f), some (.inl (g 302 0 f)), none] [.inl (bI (isSgB (g 302 0 f) = true)), .inr (.inr (some (3, 0)))] (P, g, r0, n)
          refine aj_if_eq (tgt := 79) (ax_dec2 (i := .ifCond .eq 7) (n := 3) ok_X8_splitOff rfl) (by decide) (fun c9 => ?_) (fun c9 => ?_)
          · replace c9 := bI_e0 c9
            refine aj_run (C := True) (pc' := 82) (la' := [some (.inr (.inr (some (3, 0)))), some (.inl f), some (.inl (g 302 0 f)), none]) (st' := [.inl 0, .inl f, .inl 1, .inr (.inr (some (3, 0)))]) (M' := (P, g, r0, n)) ok_X8_splitOff true 3 rfl trivial ?_
            refine aj_callV (av := [.inl 1, .inl f, .inl 0]) (st := []) (f := 3) (o := 0) (ci := 8) cal_X8_addToken lk_8_72 ins_X8_addToken rfl sel_X8_addToken rfl (fun c9 h9 _ => by simpa [ax_ok] using h9) (cp_addTok 1 f 0 _ _ _ _ hn h6) ⟨by decide, by decide, by decide, by decide⟩ (Nat.le_of_ble_eq_true rfl) (ax_dec2 (i := .invokevirtual 72) (n := 3) ok_X8_splitOff rfl) (fun r M' hq => ?_)
            obtain ⟨rfl, rfl⟩ := hq
            change ax_J _ _ _ _ _ _ _ _ _ 85 [some (.inr (.inr (some (3, 0)))), some (.inl f), some (.inl (g 302 0 f)), none] [] (P, aT g 1 f 0, r0, n)
            refine aj_run (C := (-2147483648 ≤ f + 1 ∧ f + 1 ≤ 2147483647) ∧ True) (pc' := 88) (la' := [some (.inr (.inr (some (3, 0)))), some (.inl f), some (.inl (g 302 0 f)), none]) (st' := [.inl (f + 1)]) (M' := (P, aT g 1 f 0, r0, n)) ok_X8_splitOff true 3 rfl (by refine ⟨?_, trivial⟩ <;> (omega)) ?_
            refine aj_ret (r := some (.inl (f + 1))) (ax_dec2 (i := .ireturn) (n := 1) ok_X8_splitOff rfl) ⟨?_, ?_, by decide, by decide⟩ rfl
            · (have hnl : bLet (g 302 0) (g 3 0 0) f = false := decide_eq_false (by omega); have hnd : bDig (g 302 0) (g 3 0 0) f = false := decide_eq_false (by omega); have et : tkE (g 302 0) (g 3 0 0) f = f + 1 := (by unfold tkE; rw [if_neg (by rw [hnl]; decide), if_neg (by rw [hnd]; decide)]); have e2 : tkT (g 302 0) (g 3 0 0) f = if isSgB (g 302 0 f) = true then g 302 0 f else 1 := (by unfold tkT; rw [if_neg (by rw [hnl]; decide), if_neg (by rw [hnd]; decide)]); exact ⟨ax_si et.symm, 0, by rw [e2]; first | rw [if_pos (by assumption)] | rw [if_neg (by assumption)], fun z => by rw [e2] at z; exfalso; first | (rw [if_pos (by assumption)] at z; have := isSg_b.mp (show isSgB (g 302 0 f) = true by assumption); unfold isSg at this; omega) | (rw [if_neg (by assumption)] at z; omega)⟩)
            · exact ax_ro_i
          · replace c9 := bI_n0 c9
            refine aj_run (C := True) (pc' := 82) (la' := [some (.inr (.inr (some (3, 0)))), some (.inl f), some (.inl (g 302 0 f)), none]) (st' := [.inl 0, .inl f, .inl (g 302 0 f), .inr (.inr (some (3, 0)))]) (M' := (P, g, r0, n)) ok_X8_splitOff true 4 rfl trivial ?_
            refine aj_callV (av := [.inl (g 302 0 f), .inl f, .inl 0]) (st := []) (f := 3) (o := 0) (ci := 8) cal_X8_addToken lk_8_72 ins_X8_addToken rfl sel_X8_addToken rfl (fun c9 h9 _ => by simpa [ax_ok] using h9) (cp_addTok (g 302 0 f) f 0 _ _ _ _ hn h6) ⟨by decide, by decide, by decide, by decide⟩ (Nat.le_of_ble_eq_true rfl) (ax_dec2 (i := .invokevirtual 72) (n := 3) ok_X8_splitOff rfl) (fun r M' hq => ?_)
            obtain ⟨rfl, rfl⟩ := hq
            change ax_J _ _ _ _ _ _ _ _ _ 85 [some (.inr (.inr (some (3, 0)))), some (.inl f), some (.inl (g 302 0 f)), none] [] (P, aT g (g 302 0 f) f 0, r0, n)
            refine aj_run (C := (-2147483648 ≤ f + 1 ∧ f + 1 ≤ 2147483647) ∧ True) (pc' := 88) (la' := [some (.inr (.inr (some (3, 0)))), some (.inl f), some (.inl (g 302 0 f)), none]) (st' := [.inl (f + 1)]) (M' := (P, aT g (g 302 0 f) f 0, r0, n)) ok_X8_splitOff true 3 rfl (by refine ⟨?_, trivial⟩ <;> (omega)) ?_
            refine aj_ret (r := some (.inl (f + 1))) (ax_dec2 (i := .ireturn) (n := 1) ok_X8_splitOff rfl) ⟨?_, ?_, by decide, by decide⟩ rfl
            · (have hnl : bLet (g 302 0) (g 3 0 0) f = false := decide_eq_false (by omega); have hnd : bDig (g 302 0) (g 3 0 0) f = false := decide_eq_false (by omega); have et : tkE (g 302 0) (g 3 0 0) f = f + 1 := (by unfold tkE; rw [if_neg (by rw [hnl]; decide), if_neg (by rw [hnd]; decide)]); have e2 : tkT (g 302 0) (g 3 0 0) f = if isSgB (g 302 0 f) = true then g 302 0 f else 1 := (by unfold tkT; rw [if_neg (by rw [hnl]; decide), if_neg (by rw [hnd]; decide)]); exact ⟨ax_si et.symm, 0, by rw [e2]; first | rw [if_pos (by assumption)] | rw [if_neg (by assumption)], fun z => by rw [e2] at z; exfalso; first | (rw [if_pos (by assumption)] at z; have := isSg_b.mp (show isSgB (g 302 0 f) = true by assumption); unfold isSg at this; omega) | (rw [if_neg (by assumption)] at z; omega)⟩)
            · exact ax_ro_i
        · exact absurd c8 (by omega)
    · refine aj_run (C := True) (pc' := 25) (la' := [some (.inr (.inr (some (3, 0)))), some (.inl f), some (.inl (g 302 0 f)), none]) (st' := [.inl 122, .inl 97, .inl f, .inr (.inr (some (3, 0)))]) (M' := (P, g, r0, n)) ok_X8_splitOff true 4 rfl trivial ?_
      have hlet : bLet (g 302 0) (g 3 0 0) f = true := decide_eq_true (by omega)
      refine aj_callV (av := [.inl f, .inl 97, .inl 122]) (st := []) (f := 3) (o := 0) (ci := 8) cal_X8_behind lk_8_76 ins_X8_behind rfl sel_X8_behind rfl (fun c9 h9 _ => by simpa [ax_ok] using h9) (cp_behind f 97 122 _ _ _ _ hn hz (by omega)) ⟨by decide, by decide, by decide, by decide⟩ (Nat.le_of_ble_eq_true rfl) (ax_dec2 (i := .invokevirtual 76) (n := 3) ok_X8_splitOff rfl) (fun r M' hq => ?_)
      obtain ⟨rfl, rfl⟩ := hq
      change ax_J _ _ _ _ _ _ _ _ _ 28 [some (.inr (.inr (some (3, 0)))), some (.inl f), some (.inl (g 302 0 f)), none] [.inl (lx (bLet (g 302 0) (g 3 0 0)) (g 3 0 0) f)] (P, g, r0, n)
      have hte : tkE (g 302 0) (g 3 0 0) f = lx (bLet (g 302 0) (g 3 0 0)) (g 3 0 0) f := if_pos hlet
      rw [← hte]
      have hin := tkE_in (B := g 302 0) (m := g 3 0 0) (k := f) (by omega)
      change ax_J _ _ _ _ _ _ _ _ _ 28 [some (.inr (.inr (some (3, 0)))), some (.inl f), some (.inl (g 302 0 f)), none] [.inl (tkE (g 302 0) (g 3 0 0) f)] (P, g, r0, n)
      refine aj_run (C := True) (pc' := 32) (la' := [some (.inr (.inr (some (3, 0)))), some (.inl f), some (.inl (g 302 0 f)), some (.inl (tkE (g 302 0) (g 3 0 0) f))]) (st' := [.inl (tkE (g 302 0) (g 3 0 0) f), .inl f, .inr (.inr (some (3, 0)))]) (M' := (P, g, r0, n)) ok_X8_splitOff true 4 rfl trivial ?_
      refine aj_callV (av := [.inl f, .inl (tkE (g 302 0) (g 3 0 0) f)]) (st := []) (f := 3) (o := 0) (ci := 8) cal_X8_addWord lk_8_80 ins_X8_addWord rfl sel_X8_addWord rfl (fun c9 h9 _ => by simpa [ax_ok] using h9) (cp_addWord f (tkE (g 302 0) (g 3 0 0) f) _ _ _ _ hn hz hS (by omega) h6) ⟨by decide, by decide, by decide, by decide⟩ (Nat.le_of_ble_eq_true rfl) (ax_dec2 (i := .invokevirtual 80) (n := 3) ok_X8_splitOff rfl) (fun r M' hq => ?_)
      obtain ⟨rfl, v, rfl, hv⟩ := hq
      change ax_J _ _ _ _ _ _ _ _ _ 35 [some (.inr (.inr (some (3, 0)))), some (.inl f), some (.inl (g 302 0 f)), some (.inl (tkE (g 302 0) (g 3 0 0) f))] [] (P, aT g (if tkW (g 302 0) f (tkE (g 302 0) (g 3 0 0) f) < 6 then 5 + tkW (g 302 0) f (tkE (g 302 0) (g 3 0 0) f) else if tkW (g 302 0) f (tkE (g 302 0) (g 3 0 0) f) < 12 then 3 else 1) f v, r0, n)
      refine aj_run (C := True) (pc' := 36) (la' := [some (.inr (.inr (some (3, 0)))), some (.inl f), some (.inl (g 302 0 f)), some (.inl (tkE (g 302 0) (g 3 0 0) f))]) (st' := [.inl (tkE (g 302 0) (g 3 0 0) f)]) (M' := (P, aT g (if tkW (g 302 0) f (tkE (g 302 0) (g 3 0 0) f) < 6 then 5 + tkW (g 302 0) f (tkE (g 302 0) (g 3 0 0) f) else if tkW (g 302 0) f (tkE (g 302 0) (g 3 0 0) f) < 12 then 3 else 1) f v, r0, n)) ok_X8_splitOff true 1 rfl trivial ?_
      refine aj_ret (r := some (.inl (tkE (g 302 0) (g 3 0 0) f))) (ax_dec2 (i := .ireturn) (n := 1) ok_X8_splitOff rfl) ⟨?_, ?_, by decide, by decide⟩ rfl
      · (have et : tkT (g 302 0) (g 3 0 0) f = (if tkW (g 302 0) f (tkE (g 302 0) (g 3 0 0) f) < 6 then 5 + tkW (g 302 0) f (tkE (g 302 0) (g 3 0 0) f) else if tkW (g 302 0) f (tkE (g 302 0) (g 3 0 0) f) < 12 then 3 else 1) := (by unfold tkT; rw [if_pos hlet]); exact ⟨rfl, v, by rw [et], fun z => by unfold tkV; rw [if_pos hlet]; rw [et] at z; have hw := tkW_in (B := g 302 0) (f := f) (t := tkE (g 302 0) (g 3 0 0) f); refine hv ?_; by_cases c : tkW (g 302 0) f (tkE (g 302 0) (g 3 0 0) f) < 12; exact c; (rw [if_neg (by omega), if_neg c] at z; omega)⟩)
      · exact ax_ro_i

set_option maxRecDepth 100000 in
set_option maxHeartbeats 4000000 in
theorem cp_split (P : Nat → Int → Prop) (g : Nat → Int → Int → Int) (r0 : Nat → Int → Int → Option (Nat × Int)) (n : Nat → Int → Int) (hn : cTL n) (hz : 0 ≤ g 3 0 0 ∧ g 3 0 0 ≤ 160) (hS : cStr P) : ax_S yX8_split cX8_split 3 none 7 0 0 [.inr (.inr (some (3, 0)))] (P, g, r0, n) (fun r M' => r = none ∧ ∃ g', M' = (P, g', r0, n) ∧ cFr TLx g' g ∧ g' 3 0 6 = tkN (g 302 0) (g 3 0 0) + 1 ∧ cTok g' (g 302 0) (g 3 0 0) (tkN (g 302 0) (g 3 0 0) + 1)) := by
  obtain ⟨n302, -⟩ := id hn
  refine ax_S_of (own := 8) (by decide) rfl (fun h => absurd h (by decide)) rfl (Nat.le_of_ble_eq_true rfl) ?_
  change ax_J _ _ _ _ _ _ _ _ _ _ [some (.inr (.inr (some (3, 0)))), none, none] _ _
  refine aj_run (C := True) (pc' := 9) (la' := [some (.inr (.inr (some (3, 0)))), some (.inl 0), some (.inl 0)]) (st' := []) (M' := (P, ax_u3 g 3 0 6 0, r0, n)) ok_X8_split true 7 rfl trivial ?_
  refine aj_loop (σ := (Int) × (Int) × (Nat → Int → Int → Int)) (fun xL => 0 ≤ xL.1 ∧ xL.1 ≤ xL.2.1 ∧ xL.2.1 ≤ g 3 0 0 ∧ cFr TLx xL.2.2 g ∧ ∃ j, (0 ≤ j ∧ j ≤ xL.2.1) ∧ xL.2.2 3 0 6 = j ∧ cTok xL.2.2 (g 302 0) (g 3 0 0) j ∧ lx (bSp (g 302 0) (g 3 0 0)) (g 3 0 0) xL.2.1 = tkP (g 302 0) (g 3 0 0) j ∧ ∀ q, 0 ≤ q → q < j → tkP (g 302 0) (g 3 0 0) q < g 3 0 0) (fun xL => (g 3 0 0 - xL.1).toNat) (fun xL => [some (.inr (.inr (some (3, 0)))), some (.inl xL.2.1), some (.inl xL.1)]) (fun xL => []) (fun xL => (P, xL.2.2, r0, n)) ?_ (0, 0, ax_u3 g 3 0 6 0) ?_
  rotate_left
  · (try dsimp only); exact ⟨by omega, by omega, by omega, fun f o q z => ax_u3_n (by unfold TLx at z; omega), 0, by omega, ax_u3_s, fun q z1 z2 => by omega, rfl, fun q z1 z2 => by omega⟩
  rintro ⟨k, i, g1⟩ hI ih9
  try dsimp only at hI ih9
  obtain ⟨i1, i2, i3, i4, j, j1, j2, j3, j4, j5⟩ := hI
  change ax_J _ _ _ _ _ _ _ _ _ 9 [some (.inr (.inr (some (3, 0)))), some (.inl i), some (.inl k)] [] (P, g1, r0, n)
  have hs0 : g1 3 0 0 = g 3 0 0 := i4 3 0 0 (by unfold TLx; omega)
  have hb0 : g1 302 0 = g 302 0 := funext fun q => i4 302 0 q (by unfold TLx; omega)
  have hbi : g1 302 0 i = g 302 0 i := congrFun hb0 i
  refine aj_run (C := True) (pc' := 14) (la' := [some (.inr (.inr (some (3, 0)))), some (.inl i), some (.inl k)]) (st' := [.inl (g1 3 0 0), .inl k]) (M' := (P, g1, r0, n)) ok_X8_split true 3 rfl trivial ?_
  refine aj_icmp_ge (tgt := 65) (ax_dec2 (i := .if_icmp .ge 51) (n := 3) ok_X8_split rfl) (by decide) (fun c1 => ?_) (fun c1 => ?_)
  · have him : i = g 3 0 0 := by omega
    have hpj : tkP (g 302 0) (g 3 0 0) j = g 3 0 0 := by rw [← j4, him, lx_n (decide_eq_false (by omega))]
    have hjN := tkN_eq (B := g 302 0) (m := g 3 0 0) hz.1 j1.1 hpj j5
    have h6 : 0 ≤ g1 3 0 6 ∧ g1 3 0 6 < 161 := by omega
    refine aj_run (C := True) (pc' := 72) (la' := [some (.inr (.inr (some (3, 0)))), some (.inl i), some (.inl k)]) (st' := [.inl 0, .inl (g1 3 0 0), .inl 0, .inr (.inr (some (3, 0)))]) (M' := (P, g1, r0, n)) ok_X8_split true 5 rfl trivial ?_
    refine aj_callV (av := [.inl 0, .inl (g1 3 0 0), .inl 0]) (st := []) (f := 3) (o := 0) (ci := 8) cal_X8_addToken lk_8_72 ins_X8_addToken rfl sel_X8_addToken rfl (fun c9 h9 _ => by simpa [ax_ok] using h9) (cp_addTok 0 (g1 3 0 0) 0 _ _ _ _ hn h6) ⟨by decide, by decide, by decide, by decide⟩ (Nat.le_of_ble_eq_true rfl) (ax_dec2 (i := .invokevirtual 72) (n := 3) ok_X8_split rfl) (fun r M' hq => ?_)
    obtain ⟨rfl, rfl⟩ := hq
    change ax_J _ _ _ _ _ _ _ _ _ 75 [some (.inr (.inr (some (3, 0)))), some (.inl i), some (.inl k)] [] (P, aT g1 0 (g1 3 0 0) 0, r0, n)
    refine aj_ret (r := none) (ax_dec2 (i := .return_) (n := 1) ok_X8_split rfl) ⟨?_, ?_, by decide, by decide⟩ rfl
    · exact ⟨rfl, _, rfl, fun f o q z => (aT_fr f o q z).trans (i4 f o q z), by rw [aT_6, j2, hjN], by rw [← hjN]; exact cTok_a j2 j3 (by unfold tT; rw [hpj, if_neg (Int.lt_irrefl _)]) (by rw [hs0, hpj]) (fun z => by unfold tT at z; rw [hpj, if_neg (Int.lt_irrefl _)] at z; omega)⟩
    · exact trivial
  · refine aj_run (C := True) (pc' := 22) (la' := [some (.inr (.inr (some (3, 0)))), some (.inl i), some (.inl k)]) (st' := [.inl (g1 3 0 0), .inl i]) (M' := (P, g1, r0, n)) ok_X8_split true 3 rfl trivial ?_
    refine aj_icmp_ge (tgt := 65) (ax_dec2 (i := .if_icmp .ge 43) (n := 3) ok_X8_split rfl) (by decide) (fun c2 => ?_) (fun c2 => ?_)
    · have him : i = g 3 0 0 := by omega
      have hpj : tkP (g 302 0) (g 3 0 0) j = g 3 0 0 := by rw [← j4, him, lx_n (decide_eq_false (by omega))]
      have hjN := tkN_eq (B := g 302 0) (m := g 3 0 0) hz.1 j1.1 hpj j5
      have h6 : 0 ≤ g1 3 0 6 ∧ g1 3 0 6 < 161 := by omega
      refine aj_run (C := True) (pc' := 72) (la' := [some (.inr (.inr (some (3, 0)))), some (.inl i), some (.inl k)]) (st' := [.inl 0, .inl (g1 3 0 0), .inl 0, .inr (.inr (some (3, 0)))]) (M' := (P, g1, r0, n)) ok_X8_split true 5 rfl trivial ?_
      refine aj_callV (av := [.inl 0, .inl (g1 3 0 0), .inl 0]) (st := []) (f := 3) (o := 0) (ci := 8) cal_X8_addToken lk_8_72 ins_X8_addToken rfl sel_X8_addToken rfl (fun c9 h9 _ => by simpa [ax_ok] using h9) (cp_addTok 0 (g1 3 0 0) 0 _ _ _ _ hn h6) ⟨by decide, by decide, by decide, by decide⟩ (Nat.le_of_ble_eq_true rfl) (ax_dec2 (i := .invokevirtual 72) (n := 3) ok_X8_split rfl) (fun r M' hq => ?_)
      obtain ⟨rfl, rfl⟩ := hq
      change ax_J _ _ _ _ _ _ _ _ _ 75 [some (.inr (.inr (some (3, 0)))), some (.inl i), some (.inl k)] [] (P, aT g1 0 (g1 3 0 0) 0, r0, n)
      refine aj_ret (r := none) (ax_dec2 (i := .return_) (n := 1) ok_X8_split rfl) ⟨?_, ?_, by decide, by decide⟩ rfl
      · exact ⟨rfl, _, rfl, fun f o q z => (aT_fr f o q z).trans (i4 f o q z), by rw [aT_6, j2, hjN], by rw [← hjN]; exact cTok_a j2 j3 (by unfold tT; rw [hpj, if_neg (Int.lt_irrefl _)]) (by rw [hs0, hpj]) (fun z => by unfold tT at z; rw [hpj, if_neg (Int.lt_irrefl _)] at z; omega)⟩
      · exact trivial
    · refine aj_run (C := (0 ≤ i ∧ i < n 302 0) ∧ True) (pc' := 33) (la' := [some (.inr (.inr (some (3, 0)))), some (.inl i), some (.inl k)]) (st' := [.inl 32, .inl (g1 302 0 i)]) (M' := (P, g1, r0, n)) ok_X8_split true 5 rfl (by refine ⟨?_, trivial⟩ <;> (omega)) ?_
      refine aj_icmp_eq (tgt := 47) (ax_dec2 (i := .if_icmp .eq 14) (n := 3) ok_X8_split rfl) (by decide) (fun c3 => ?_) (fun c3 => ?_)
      · refine aj_run (C := (-2147483648 ≤ i + 1 ∧ i + 1 ≤ 2147483647) ∧ (-2147483648 ≤ k + 1 ∧ k + 1 ≤ 2147483647) ∧ True) (pc' := 9) (la' := [some (.inr (.inr (some (3, 0)))), some (.inl (i + 1)), some (.inl (k + 1))]) (st' := []) (M' := (P, g1, r0, n)) ok_X8_split true 4 rfl (by refine ⟨?_, ?_, trivial⟩ <;> (omega)) ?_
        refine ih9 (k + 1, i + 1, g1) ?_ ?_
        · (try dsimp only); exact ⟨by omega, by omega, by omega, i4, j, by omega, j2, j3, by rw [← j4, lx_y (k := i) (decide_eq_true (by omega)) (by omega)], j5⟩
        · omega
      · refine aj_run (C := (0 ≤ i ∧ i < n 302 0) ∧ True) (pc' := 44) (la' := [some (.inr (.inr (some (3, 0)))), some (.inl i), some (.inl k)]) (st' := [.inl 10, .inl (g1 302 0 i)]) (M' := (P, g1, r0, n)) ok_X8_split true 5 rfl (by refine ⟨?_, trivial⟩ <;> (omega)) ?_
        refine aj_icmp_ne (tgt := 53) (ax_dec2 (i := .if_icmp .ne 9) (n := 3) ok_X8_split rfl) (by decide) (fun c4 => ?_) (fun c4 => ?_)
        · have hi9 : i = tkP (g 302 0) (g 3 0 0) j := by rw [← j4, lx_n (k := i) (decide_eq_false (by omega))]
          have hin := tkE_in (B := g 302 0) (m := g 3 0 0) (k := i) (by omega)
          refine aj_run (C := True) (pc' := 55) (la' := [some (.inr (.inr (some (3, 0)))), some (.inl i), some (.inl k)]) (st' := [.inl i, .inr (.inr (some (3, 0)))]) (M' := (P, g1, r0, n)) ok_X8_split true 2 rfl trivial ?_
          refine aj_callV (av := [.inl i]) (st := []) (f := 3) (o := 0) (ci := 8) cal_X8_splitOff lk_8_68 ins_X8_splitOff rfl sel_X8_splitOff rfl (fun c9 h9 _ => by simpa [ax_ok] using h9) (cp_splitOff i _ _ _ _ hn (by omega) hS (by omega) (by omega)) ⟨by decide, by decide, by decide, by decide⟩ (Nat.le_of_ble_eq_true rfl) (ax_dec2 (i := .invokevirtual 68) (n := 3) ok_X8_split rfl) (fun r M' hq => ?_)
          obtain ⟨rfl, v9, rfl, hv9⟩ := hq
          rw [hb0, hs0] at hv9 ⊢
          change ax_J _ _ _ _ _ _ _ _ _ 58 [some (.inr (.inr (some (3, 0)))), some (.inl i), some (.inl k)] [.inl (tkE (g 302 0) (g 3 0 0) i)] (P, aT g1 (tkT (g 302 0) (g 3 0 0) i) i v9, r0, n)
          refine aj_run (C := (-2147483648 ≤ k + 1 ∧ k + 1 ≤ 2147483647) ∧ True) (pc' := 9) (la' := [some (.inr (.inr (some (3, 0)))), some (.inl (tkE (g 302 0) (g 3 0 0) i)), some (.inl (k + 1))]) (st' := []) (M' := (P, aT g1 (tkT (g 302 0) (g 3 0 0) i) i v9, r0, n)) ok_X8_split true 3 rfl (by refine ⟨?_, trivial⟩ <;> (omega)) ?_
          refine ih9 (k + 1, tkE (g 302 0) (g 3 0 0) i, aT g1 (tkT (g 302 0) (g 3 0 0) i) i v9) ?_ ?_
          · (try dsimp only); exact ⟨by omega, by omega, by omega, fun f o q z => (aT_fr f o q z).trans (i4 f o q z), j + 1, by omega, by rw [aT_6, j2], cTok_a j2 j3 (by unfold tT; rw [← hi9, if_pos (by omega)]) hi9 (fun z => by unfold tV; rw [← hi9]; refine hv9 ?_; unfold tT at z; rw [← hi9, if_pos (by omega)] at z; exact z), by rw [tkP_s (by omega), ← hi9, if_pos (by omega)], fun q z1 z2 => (by by_cases c : q = j; (rw [c, ← hi9]; omega); exact j5 q z1 (by omega))⟩
          · omega
        · refine aj_run (C := (-2147483648 ≤ i + 1 ∧ i + 1 ≤ 2147483647) ∧ (-2147483648 ≤ k + 1 ∧ k + 1 ≤ 2147483647) ∧ True) (pc' := 9) (la' := [some (.inr (.inr (some (3, 0)))), some (.inl (i + 1)), some (.inl (k + 1))]) (st' := []) (M' := (P, g1, r0, n)) ok_X8_split true 4 rfl (by refine ⟨?_, ?_, trivial⟩ <;> (omega)) ?_
          refine ih9 (k + 1, i + 1, g1) ?_ ?_
          · (try dsimp only); exact ⟨by omega, by omega, by omega, i4, j, by omega, j2, j3, by rw [← j4, lx_y (k := i) (decide_eq_true (by omega)) (by omega)], j5⟩
          · omega

