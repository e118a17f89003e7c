noncomputable def gLa (g : Nat → Int → Int → Int) (w : Int) : Int := wLast (gA g w 135 0) (g 50 0 2)
def fOf (g : Nat → Int → Int → Int) (a w : Int) : Int := if (0 ≤ a ∧ a < g 50 0 2) ∧ 0 ≤ w ∧ w ≤ 4 then (if w = 0 then gA g (gAs g) 135 0 a else if w = 1 then gA g (gAs g) 136 0 a else if w = 2 then gA g (gAs g) 131 0 a else if w = 3 then gA g (gAs g) 132 0 a else gA g (gAs g) 134 0 a) else -100000
def fAt (g : Nat → Int → Int → Int) (a b w : Int) : Int := if (0 ≤ a ∧ a < g 50 0 2) ∧ (0 ≤ b ∧ b ≤ 200) ∧ 0 ≤ w ∧ w ≤ 1 then (if w = 0 ∨ gT g b 129 0 a < 0 then gT g b 129 0 a else gT g b 130 0 a) else -2
noncomputable def fLast (g : Nat → Int → Int → Int) (w : Int) : Int := if 0 ≤ w ∧ w ≤ 1 then (if gLa g (gAs g) = -1 ∨ w = 0 then gLa g (gAs g) else gA g (gAs g) 135 0 (gLa g (gAs g))) else -2
def wOrdI (G : Nat → Int → Int → Int) (p m d : Int) : Int := wFI (fun a d => if G 129 0 a = p then Int.bmod (Int.bmod (Int.bmod (10 * d) 4294967296 + a) 4294967296 + 1) 4294967296 else d) d m
theorem wOrdI_s {G : Nat → Int → Int → Int} {p m d : Int} (h : 0 ≤ m) : wOrdI G p (m + 1) d = if G 129 0 m = p then Int.bmod (Int.bmod (Int.bmod (10 * wOrdI G p m d) 4294967296 + m) 4294967296 + 1) 4294967296 else wOrdI G p m d := wFI_s h
def wOrdO (G : Nat → Int → Int → Int) (m q : Int) : Int := wFI (fun p d => wOrdI G p m d) 0 q
theorem wOrdO_s {G : Nat → Int → Int → Int} {m q : Int} (h : 0 ≤ q) : wOrdO G m (q + 1) = wOrdI G q m (wOrdO G m q) := wFI_s h
theorem wOrdO_e {g' g : Nat → Int → Int → Int} {m q : Int} (h : wEq g' g) : wOrdO g' m q = wOrdO g m q := by
  unfold wOrdO wOrdI
  rw [h 129 rfl]
def fOrd (g : Nat → Int → Int → Int) (b : Int) : Int := if 0 ≤ b ∧ b ≤ 200 then wOrdO (gT g b) (g 50 0 2) (2 * g 50 0 0 + 1) else -2
def wTil (G : Nat → Int → Int → Int) (m : Int) : Int := wFI (fun a t => if 0 ≤ G 129 0 a then Int.bmod (t + (if G 129 0 a < G 50 0 0 then wWeighs (G 103 0 a) (G 107 0 a) else if G 50 0 0 < G 129 0 a then Int.bmod (-wWeighs (G 103 0 a) (G 107 0 a)) 4294967296 else 0)) 4294967296 else t) 0 m
theorem wTil_s {G : Nat → Int → Int → Int} {m : Int} (h : 0 ≤ m) : wTil G (m + 1) = if 0 ≤ G 129 0 m then Int.bmod (wTil G m + (if G 129 0 m < G 50 0 0 then wWeighs (G 103 0 m) (G 107 0 m) else if G 50 0 0 < G 129 0 m then Int.bmod (-wWeighs (G 103 0 m) (G 107 0 m)) 4294967296 else 0)) 4294967296 else wTil G m := wFI_s h
theorem wTil_e {g' g : Nat → Int → Int → Int} {m : Int} (h : wEq g' g) : wTil g' m = wTil g m := by
  unfold wTil
  rw [h 129 rfl, h 50 rfl, h 103 rfl, h 107 rfl]
def fTil (g : Nat → Int → Int → Int) (b : Int) : Int := if 0 ≤ b ∧ b ≤ 200 then wTil (gT g b) (g 50 0 2) else -100000
def wCnt (row : Int → Int) (m v : Int) : Int := wFI (fun a c => c + bI (row a = v)) 0 m
theorem wCnt_s {row : Int → Int} {m v : Int} (h : 0 ≤ m) : wCnt row (m + 1) v = wCnt row m v + bI (row m = v) := wFI_s h
theorem wCnt_in {row : Int → Int} {m v : Int} (h : 0 ≤ m) : 0 ≤ wCnt row m v ∧ wCnt row m v ≤ m := by
  suffices H : ∀ k : Nat, 0 ≤ wCnt row k v ∧ wCnt row k v ≤ k by
    have := H m.toNat
    rw [show ((m.toNat : Nat) : Int) = m by omega] at this
    exact this
  intro k
  induction k with
  | zero => exact ⟨Int.le_refl _, Int.le_refl _⟩
  | succ k ih =>
    rw [show ((k + 1 : Nat) : Int) = (k : Int) + 1 by omega, wCnt_s (by omega)]
    have := bI_01 (p := row k = v)
    omega
theorem wCnt_c {row row' : Int → Int} {m v : Int} (h : ∀ a, 0 ≤ a → a < m → row' a = row a) : wCnt row' m v = wCnt row m v := by
  unfold wCnt
  exact wFI_c fun a t z1 z2 => by rw [h a z1 z2]
/-- as often off in each beat as if they went through -/
def wLik (r1 r2 : Int → Int) (m k : Int) : Int := wFI (fun a l => if l ≠ 0 ∧ wCnt r2 m (r2 a) = wCnt r1 m (r2 a) then 1 else 0) 1 k
theorem wLik_s {r1 r2 : Int → Int} {m k : Int} (h : 0 ≤ k) : wLik r1 r2 m (k + 1) = if wLik r1 r2 m k ≠ 0 ∧ wCnt r2 m (r2 k) = wCnt r1 m (r2 k) then 1 else 0 := wFI_s h
theorem wLik_c {r1 r2 r1' r2' : Int → Int} {m k : Int} (hk : k ≤ m) (h1 : ∀ a, 0 ≤ a → a < m → r1' a = r1 a) (h2 : ∀ a, 0 ≤ a → a < m → r2' a = r2 a) : wLik r1' r2' m k = wLik r1 r2 m k := by
  unfold wLik
  refine wFI_c fun a t z1 z2 => ?_
  rw [wCnt_c h1, wCnt_c h2, h2 a z1 (by omega)]
theorem wLik_01 {r1 r2 : Int → Int} {m k : Int} : wLik r1 r2 m k = 0 ∨ wLik r1 r2 m k = 1 := by
  unfold wLik wFI
  generalize k.toNat = q
  cases q with
  | zero => exact Or.inr rfl
  | succ q =>
    unfold wF
    split
    · exact Or.inr rfl
    · exact Or.inl rfl
def fThr (g : Nat → Int → Int → Int) (a w : Int) : Int := if (0 ≤ w ∧ w ≤ 2) ∧ (w = 0 → 0 ≤ a ∧ a < g 50 0 2) then (if w = 0 then gTh g 135 0 a else if w = 1 then gTh g 50 0 40 else wLik (gA g (gAs g) 135 0) (gTh g 135 0) (g 50 0 2) (g 50 0 2)) else -2
set_option maxRecDepth 100000 in
set_option maxHeartbeats 4000000 in
theorem sp_of (a w : Int) (P : Nat → Int → Prop) (g : Nat → Int → Int → Int) (r0 : Nat → Int → Int → Option (Nat × Int)) (n : Nat → Int → Int) (hn : mLen n) (hs : wOs g) : ax_S yX11_of cX11_of 3 (some FieldType.int) 7 0 0 [.inr (.inr (some (50, 0))), .inl a, .inl w] (P, g, r0, n) (fun r M' => r = some (.inl (fOf g a w)) ∧ ∃ g', M' = (P, g', r0, n) ∧ wKp g' g) := by
  have n135 : n 135 0 = 7 := hn (135, 7) (by decide)
  have n136 : n 136 0 = 7 := hn (136, 7) (by decide)
  have n131 : n 131 0 = 7 := hn (131, 7) (by decide)
  have n132 : n 132 0 = 7 := hn (132, 7) (by decide)
  have n134 : n 134 0 = 7 := hn (134, 7) (by decide)
  have h2 := hs.2.2.1
  refine ax_S_of (own := 11) (by decide) rfl (fun h => absurd h (by decide)) rfl (Nat.le_of_ble_eq_true rfl) ?_
  change ax_J _ _ _ _ _ _ _ _ _ _ [some (.inr (.inr (some (50, 0)))), some (.inl a), some (.inl w)] _ _
  refine aj_run (C := True) (pc' := 2) (la' := [some (.inr (.inr (some (50, 0)))), some (.inl a), some (.inl w)]) (st' := [.inl a, .inr (.inr (some (50, 0)))]) (M' := (P, g, r0, n)) ok_X11_of true 2 rfl trivial ?_
  refine aj_callV (av := [.inl a]) (st := []) (f := 50) (o := 0) (ci := 11) cal_X11_isAnt lk_11_33 ins_X11_isAnt rfl sel_X11_isAnt rfl (fun c9 h9 _ => by simpa [ax_ok] using h9) (sp_isAnt a _ _ _ _ hs.2.2.1) ⟨by decide, by decide, by decide, by decide⟩ (Nat.le_of_ble_eq_true rfl) (ax_dec2 (i := .invokevirtual 33) (n := 3) ok_X11_of rfl) (fun r M' hq => ?_)
  obtain ⟨rfl, rfl⟩ := hq
  change ax_J _ _ _ _ _ _ _ _ _ 5 [some (.inr (.inr (some (50, 0)))), some (.inl a), some (.inl w)] [.inl (bI (0 ≤ a ∧ a < g 50 0 2))] (P, g, r0, n)
  refine aj_if_eq (tgt := 17) (ax_dec2 (i := .ifCond .eq 12) (n := 3) ok_X11_of rfl) (by decide) (fun c1 => ?_) (fun c1 => ?_)
  · replace c1 := bI_e0 c1
    refine aj_run (C := True) (pc' := 20) (la' := [some (.inr (.inr (some (50, 0)))), some (.inl a), some (.inl w)]) (st' := [.inl (-100000)]) (M' := (P, g, r0, n)) ok_X11_of true 1 rfl trivial ?_
    refine aj_ret (r := some (.inl (-100000))) (ax_dec2 (i := .ireturn) (n := 1) ok_X11_of rfl) ⟨?_, ?_, by decide, by decide⟩ rfl
    · first | (exfalso; omega) | exact ⟨ax_si (by unfold fOf; (repeat first | rw [if_pos (by omega)] | rw [if_neg (by omega)] | rw [bI_t (by omega)] | rw [bI_f (by omega)])), _, rfl, wKp.rf⟩
    · exact ax_ro_i
  · replace c1 := bI_n0 c1
    refine aj_run (C := True) (pc' := 11) (la' := [some (.inr (.inr (some (50, 0)))), some (.inl a), some (.inl w)]) (st' := [.inl 4, .inl 0, .inl w]) (M' := (P, g, r0, n)) ok_X11_of true 3 rfl trivial ?_
    refine aj_callS (av := [.inl w, .inl 0, .inl 4]) (st := []) cal_X11_isIn lk_11_7 stc_X11_isIn (sp_isIn w 0 4 _ _ _ _) ⟨by decide, by decide, by decide, by decide⟩ (Nat.le_of_ble_eq_true rfl) (ax_dec2 (i := .invokestatic 7) (n := 3) ok_X11_of rfl) (fun r M' hq => ?_)
    obtain ⟨rfl, rfl⟩ := hq
    change ax_J _ _ _ _ _ _ _ _ _ 14 [some (.inr (.inr (some (50, 0)))), some (.inl a), some (.inl w)] [.inl (bI (0 ≤ w ∧ w ≤ 4))] (P, g, r0, n)
    refine aj_if_ne (tgt := 21) (ax_dec2 (i := .ifCond .ne 7) (n := 3) ok_X11_of rfl) (by decide) (fun c2 => ?_) (fun c2 => ?_)
    · replace c2 := bI_n0 c2
      refine aj_run (C := True) (pc' := 23) (la' := [some (.inr (.inr (some (50, 0)))), some (.inl a), some (.inl w)]) (st' := [.inr (.inr (some (50, 0))), .inr (.inr (some (50, 0)))]) (M' := (P, g, r0, n)) ok_X11_of true 2 rfl trivial ?_
      refine aj_callV (av := []) (st := [.inr (.inr (some (50, 0)))]) (f := 50) (o := 0) (ci := 11) cal_X11_asSet lk_11_277 ins_X11_asSet rfl sel_X11_asSet rfl (fun c9 h9 _ => by simpa [ax_ok] using h9) (sp_asSet _ _ _ _ hn hs.2.2.1) ⟨by decide, by decide, by decide, by decide⟩ (Nat.le_of_ble_eq_true rfl) (ax_dec2 (i := .invokevirtual 277) (n := 3) ok_X11_of rfl) (fun r M' hq => ?_)
      obtain ⟨rfl, rfl⟩ := hq
      change ax_J _ _ _ _ _ _ _ _ _ 26 [some (.inr (.inr (some (50, 0)))), some (.inl a), some (.inl w)] [.inl (wSet (g 105 0) (g 50 0 2)), .inr (.inr (some (50, 0)))] (P, g, r0, n)
      refine aj_callV (av := [.inl (wSet (g 105 0) (g 50 0 2))]) (st := []) (f := 50) (o := 0) (ci := 11) cal_X11_goAll lk_11_282 ins_X11_goAll rfl sel_X11_goAll rfl (fun c9 h9 _ => by simpa [ax_ok] using h9) (sp_goAll (wSet (g 105 0) (g 50 0 2)) _ _ _ _ hn hs) ⟨by decide, by decide, by decide, by decide⟩ (Nat.le_of_ble_eq_true rfl) (ax_dec2 (i := .invokevirtual 282) (n := 3) ok_X11_of rfl) (fun r M' hq => ?_)
      obtain ⟨rfl, g2, rfl, hg2, kpg2⟩ := hq
      have hG2 : wEq g2 (gA g (gAs g)) := hg2
      have zs2 : g2 50 0 2 = g 50 0 2 := kpg2.2 0 2 (by omega)
      change ax_J _ _ _ _ _ _ _ _ _ 29 [some (.inr (.inr (some (50, 0)))), some (.inl a), some (.inl w)] [] (P, g2, r0, n)
      refine aj_run (C := True) (pc' := 30) (la' := [some (.inr (.inr (some (50, 0)))), some (.inl a), some (.inl w)]) (st' := [.inl w]) (M' := (P, g2, r0, n)) ok_X11_of true 1 rfl trivial ?_
      refine aj_if_ne (tgt := 42) (ax_dec2 (i := .ifCond .ne 12) (n := 3) ok_X11_of rfl) (by decide) (fun c3 => ?_) (fun c3 => ?_)
      · refine aj_run (C := True) (pc' := 44) (la' := [some (.inr (.inr (some (50, 0)))), some (.inl a), some (.inl w)]) (st' := [.inl 1, .inl w]) (M' := (P, g2, r0, n)) ok_X11_of true 2 rfl trivial ?_
        refine aj_icmp_ne (tgt := 56) (ax_dec2 (i := .if_icmp .ne 12) (n := 3) ok_X11_of rfl) (by decide) (fun c4 => ?_) (fun c4 => ?_)
        · refine aj_run (C := True) (pc' := 58) (la' := [some (.inr (.inr (some (50, 0)))), some (.inl a), some (.inl w)]) (st' := [.inl 2, .inl w]) (M' := (P, g2, r0, n)) ok_X11_of true 2 rfl trivial ?_
          refine aj_icmp_ne (tgt := 70) (ax_dec2 (i := .if_icmp .ne 12) (n := 3) ok_X11_of rfl) (by decide) (fun c5 => ?_) (fun c5 => ?_)
          · refine aj_run (C := True) (pc' := 72) (la' := [some (.inr (.inr (some (50, 0)))), some (.inl a), some (.inl w)]) (st' := [.inl 3, .inl w]) (M' := (P, g2, r0, n)) ok_X11_of true 2 rfl trivial ?_
            refine aj_icmp_ne (tgt := 84) (ax_dec2 (i := .if_icmp .ne 12) (n := 3) ok_X11_of rfl) (by decide) (fun c6 => ?_) (fun c6 => ?_)
            · refine aj_run (C := (0 ≤ a ∧ a < n 134 0) ∧ True) (pc' := 90) (la' := [some (.inr (.inr (some (50, 0)))), some (.inl a), some (.inl w)]) (st' := [.inl (g2 134 0 a)]) (M' := (P, g2, r0, n)) ok_X11_of true 4 rfl (by refine ⟨?_, trivial⟩ <;> (omega)) ?_
              refine aj_ret (r := some (.inl (g2 134 0 a))) (ax_dec2 (i := .ireturn) (n := 1) ok_X11_of rfl) ⟨?_, ?_, by decide, by decide⟩ rfl
              · first | (exfalso; omega) | exact ⟨ax_si (by unfold fOf; (repeat first | rw [if_pos (by omega)] | rw [if_neg (by omega)] | rw [bI_t (by omega)] | rw [bI_f (by omega)]); exact congrFun (congrFun (hG2 _ rfl) _) _), _, rfl, kpg2⟩
              · exact ax_ro_i
            · refine aj_run (C := (0 ≤ a ∧ a < n 132 0) ∧ True) (pc' := 90) (la' := [some (.inr (.inr (some (50, 0)))), some (.inl a), some (.inl w)]) (st' := [.inl (g2 132 0 a)]) (M' := (P, g2, r0, n)) ok_X11_of true 5 rfl (by refine ⟨?_, trivial⟩ <;> (omega)) ?_
              refine aj_ret (r := some (.inl (g2 132 0 a))) (ax_dec2 (i := .ireturn) (n := 1) ok_X11_of rfl) ⟨?_, ?_, by decide, by decide⟩ rfl
              · first | (exfalso; omega) | exact ⟨ax_si (by unfold fOf; (repeat first | rw [if_pos (by omega)] | rw [if_neg (by omega)] | rw [bI_t (by omega)] | rw [bI_f (by omega)]); exact congrFun (congrFun (hG2 _ rfl) _) _), _, rfl, kpg2⟩
              · exact ax_ro_i
          · refine aj_run (C := (0 ≤ a ∧ a < n 131 0) ∧ True) (pc' := 90) (la' := [some (.inr (.inr (some (50, 0)))), some (.inl a), some (.inl w)]) (st' := [.inl (g2 131 0 a)]) (M' := (P, g2, r0, n)) ok_X11_of true 5 rfl (by refine ⟨?_, trivial⟩ <;> (omega)) ?_
            refine aj_ret (r := some (.inl (g2 131 0 a))) (ax_dec2 (i := .ireturn) (n := 1) ok_X11_of rfl) ⟨?_, ?_, by decide, by decide⟩ rfl
            · first | (exfalso; omega) | exact ⟨ax_si (by unfold fOf; (repeat first | rw [if_pos (by omega)] | rw [if_neg (by omega)] | rw [bI_t (by omega)] | rw [bI_f (by omega)]); exact congrFun (congrFun (hG2 _ rfl) _) _), _, rfl, kpg2⟩
            · exact ax_ro_i
        · refine aj_run (C := (0 ≤ a ∧ a < n 136 0) ∧ True) (pc' := 90) (la' := [some (.inr (.inr (some (50, 0)))), some (.inl a), some (.inl w)]) (st' := [.inl (g2 136 0 a)]) (M' := (P, g2, r0, n)) ok_X11_of true 5 rfl (by refine ⟨?_, trivial⟩ <;> (omega)) ?_
          refine aj_ret (r := some (.inl (g2 136 0 a))) (ax_dec2 (i := .ireturn) (n := 1) ok_X11_of rfl) ⟨?_, ?_, by decide, by decide⟩ rfl
          · first | (exfalso; omega) | exact ⟨ax_si (by unfold fOf; (repeat first | rw [if_pos (by omega)] | rw [if_neg (by omega)] | rw [bI_t (by omega)] | rw [bI_f (by omega)]); exact congrFun (congrFun (hG2 _ rfl) _) _), _, rfl, kpg2⟩
          · exact ax_ro_i
      · refine aj_run (C := (0 ≤ a ∧ a < n 135 0) ∧ True) (pc' := 90) (la' := [some (.inr (.inr (some (50, 0)))), some (.inl a), some (.inl w)]) (st' := [.inl (g2 135 0 a)]) (M' := (P, g2, r0, n)) ok_X11_of true 5 rfl (by refine ⟨?_, trivial⟩ <;> (omega)) ?_
        refine aj_ret (r := some (.inl (g2 135 0 a))) (ax_dec2 (i := .ireturn) (n := 1) ok_X11_of rfl) ⟨?_, ?_, by decide, by decide⟩ rfl
        · first | (exfalso; omega) | exact ⟨ax_si (by unfold fOf; (repeat first | rw [if_pos (by omega)] | rw [if_neg (by omega)] | rw [bI_t (by omega)] | rw [bI_f (by omega)]); exact congrFun (congrFun (hG2 _ rfl) _) _), _, rfl, kpg2⟩
        · exact ax_ro_i
    · replace c2 := bI_e0 c2
      refine aj_run (C := True) (pc' := 20) (la' := [some (.inr (.inr (some (50, 0)))), some (.inl a), some (.inl w)]) (st' := [.inl (-100000)]) (M' := (P, g, r0, n)) ok_X11_of true 1 rfl trivial ?_
      refine aj_ret (r := some (.inl (-100000))) (ax_dec2 (i := .ireturn) (n := 1) ok_X11_of rfl) ⟨?_, ?_, by decide, by decide⟩ rfl
      · first | (exfalso; omega) | exact ⟨ax_si (by unfold fOf; (repeat first | rw [if_pos (by omega)] | rw [if_neg (by omega)] | rw [bI_t (by omega)] | rw [bI_f (by omega)])), _, rfl, wKp.rf⟩
      · exact ax_ro_i

set_option maxRecDepth 100000 in
set_option maxHeartbeats 4000000 in
theorem sp_at (a beat w : Int) (P : Nat → Int → Prop) (g : Nat → Int → Int → Int) (r0 : Nat → Int → Int → Option (Nat × Int)) (n : Nat → Int → Int) (hn : mLen n) (hs : wOs g) : ax_S yX11_at cX11_at 4 (some FieldType.int) 7 0 0 [.inr (.inr (some (50, 0))), .inl a, .inl beat, .inl w] (P, g, r0, n) (fun r M' => r = some (.inl (fAt g a beat w)) ∧ ∃ g', M' = (P, g', r0, n) ∧ wKp g' g) := by
  have n129 : n 129 0 = 7 := hn (129, 7) (by decide)
  have n130 : n 130 0 = 7 := hn (130, 7) (by decide)
  have h2 := hs.2.2.1
  refine ax_S_of (own := 11) (by decide) rfl (fun h => absurd h (by decide)) rfl (Nat.le_of_ble_eq_true rfl) ?_
  change ax_J _ _ _ _ _ _ _ _ _ _ [some (.inr (.inr (some (50, 0)))), some (.inl a), some (.inl beat), some (.inl w)] _ _
  refine aj_run (C := True) (pc' := 2) (la' := [some (.inr (.inr (some (50, 0)))), some (.inl a), some (.inl beat), some (.inl w)]) (st' := [.inl a, .inr (.inr (some (50, 0)))]) (M' := (P, g, r0, n)) ok_X11_at true 2 rfl trivial ?_
  refine aj_callV (av := [.inl a]) (st := []) (f := 50) (o := 0) (ci := 11) cal_X11_isAnt lk_11_33 ins_X11_isAnt rfl sel_X11_isAnt rfl (fun c9 h9 _ => by simpa [ax_ok] using h9) (sp_isAnt a _ _ _ _ hs.2.2.1) ⟨by decide, by decide, by decide, by decide⟩ (Nat.le_of_ble_eq_true rfl) (ax_dec2 (i := .invokevirtual 33) (n := 3) ok_X11_at rfl) (fun r M' hq => ?_)
  obtain ⟨rfl, rfl⟩ := hq
  change ax_J _ _ _ _ _ _ _ _ _ 5 [some (.inr (.inr (some (50, 0)))), some (.inl a), some (.inl beat), some (.inl w)] [.inl (bI (0 ≤ a ∧ a < g 50 0 2))] (P, g, r0, n)
  refine aj_if_eq (tgt := 28) (ax_dec2 (i := .ifCond .eq 23) (n := 3) ok_X11_at rfl) (by decide) (fun c1 => ?_) (fun c1 => ?_)
  · replace c1 := bI_e0 c1
    refine aj_run (C := True) (pc' := 30) (la' := [some (.inr (.inr (some (50, 0)))), some (.inl a), some (.inl beat), some (.inl w)]) (st' := [.inl (-2)]) (M' := (P, g, r0, n)) ok_X11_at true 1 rfl trivial ?_
    refine aj_ret (r := some (.inl (-2))) (ax_dec2 (i := .ireturn) (n := 1) ok_X11_at rfl) ⟨?_, ?_, by decide, by decide⟩ rfl
    · first | (exfalso; omega) | exact ⟨ax_si (by unfold fAt; (repeat first | rw [if_pos (by omega)] | rw [if_neg (by omega)] | rw [bI_t (by omega)] | rw [bI_f (by omega)])), _, rfl, wKp.rf⟩
    · exact ax_ro_i
  · replace c1 := bI_n0 c1
    refine aj_run (C := True) (pc' := 13) (la' := [some (.inr (.inr (some (50, 0)))), some (.inl a), some (.inl beat), some (.inl w)]) (st' := [.inl 200, .inl 0, .inl beat]) (M' := (P, g, r0, n)) ok_X11_at true 3 rfl trivial ?_
    refine aj_callS (av := [.inl beat, .inl 0, .inl 200]) (st := []) cal_X11_isIn lk_11_7 stc_X11_isIn (sp_isIn beat 0 200 _ _ _ _) ⟨by decide, by decide, by decide, by decide⟩ (Nat.le_of_ble_eq_true rfl) (ax_dec2 (i := .invokestatic 7) (n := 3) ok_X11_at rfl) (fun r M' hq => ?_)
    obtain ⟨rfl, rfl⟩ := hq
    change ax_J _ _ _ _ _ _ _ _ _ 16 [some (.inr (.inr (some (50, 0)))), some (.inl a), some (.inl beat), some (.inl w)] [.inl (bI (0 ≤ beat ∧ beat ≤ 200))] (P, g, r0, n)
    refine aj_if_eq (tgt := 28) (ax_dec2 (i := .ifCond .eq 12) (n := 3) ok_X11_at rfl) (by decide) (fun c2 => ?_) (fun c2 => ?_)
    · replace c2 := bI_e0 c2
      refine aj_run (C := True) (pc' := 30) (la' := [some (.inr (.inr (some (50, 0)))), some (.inl a), some (.inl beat), some (.inl w)]) (st' := [.inl (-2)]) (M' := (P, g, r0, n)) ok_X11_at true 1 rfl trivial ?_
      refine aj_ret (r := some (.inl (-2))) (ax_dec2 (i := .ireturn) (n := 1) ok_X11_at rfl) ⟨?_, ?_, by decide, by decide⟩ rfl
      · first | (exfalso; omega) | exact ⟨ax_si (by unfold fAt; (repeat first | rw [if_pos (by omega)] | rw [if_neg (by omega)] | rw [bI_t (by omega)] | rw [bI_f (by omega)])), _, rfl, wKp.rf⟩
      · exact ax_ro_i
    · replace c2 := bI_n0 c2
      refine aj_run (C := True) (pc' := 22) (la' := [some (.inr (.inr (some (50, 0)))), some (.inl a), some (.inl beat), some (.inl w)]) (st' := [.inl 1, .inl 0, .inl w]) (M' := (P, g, r0, n)) ok_X11_at true 3 rfl trivial ?_
      refine aj_callS (av := [.inl w, .inl 0, .inl 1]) (st := []) cal_X11_isIn lk_11_7 stc_X11_isIn (sp_isIn w 0 1 _ _ _ _) ⟨by decide, by decide, by decide, by decide⟩ (Nat.le_of_ble_eq_true rfl) (ax_dec2 (i := .invokestatic 7) (n := 3) ok_X11_at rfl) (fun r M' hq => ?_)
      obtain ⟨rfl, rfl⟩ := hq
      change ax_J _ _ _ _ _ _ _ _ _ 25 [some (.inr (.inr (some (50, 0)))), some (.inl a), some (.inl beat), some (.inl w)] [.inl (bI (0 ≤ w ∧ w ≤ 1))] (P, g, r0, n)
      refine aj_if_ne (tgt := 31) (ax_dec2 (i := .ifCond .ne 6) (n := 3) ok_X11_at rfl) (by decide) (fun c3 => ?_) (fun c3 => ?_)
      · replace c3 := bI_n0 c3
        refine aj_run (C := True) (pc' := 33) (la' := [some (.inr (.inr (some (50, 0)))), some (.inl a), some (.inl beat), some (.inl w)]) (st' := [.inl beat, .inr (.inr (some (50, 0)))]) (M' := (P, g, r0, n)) ok_X11_at true 2 rfl trivial ?_
        refine aj_callV (av := [.inl beat]) (st := []) (f := 50) (o := 0) (ci := 11) cal_X11_goTo lk_11_285 ins_X11_goTo rfl sel_X11_goTo rfl (fun c9 h9 _ => by simpa [ax_ok] using h9) (sp_goTo beat _ _ _ _ hn hs (by omega)) ⟨by decide, by decide, by decide, by decide⟩ (Nat.le_of_ble_eq_true rfl) (ax_dec2 (i := .invokevirtual 285) (n := 3) ok_X11_at rfl) (fun r M' hq => ?_)
        obtain ⟨rfl, g2, rfl, hg2, kpg2⟩ := hq
        have hG2 : wEq g2 (gT g beat) := hg2
        have zs2 : g2 50 0 2 = g 50 0 2 := kpg2.2 0 2 (by omega)
        change ax_J _ _ _ _ _ _ _ _ _ 36 [some (.inr (.inr (some (50, 0)))), some (.inl a), some (.inl beat), some (.inl w)] [] (P, g2, r0, n)
        refine aj_run (C := True) (pc' := 37) (la' := [some (.inr (.inr (some (50, 0)))), some (.inl a), some (.inl beat), some (.inl w)]) (st' := [.inl w]) (M' := (P, g2, r0, n)) ok_X11_at true 1 rfl trivial ?_
        refine aj_if_eq (tgt := 49) (ax_dec2 (i := .ifCond .eq 12) (n := 3) ok_X11_at rfl) (by decide) (fun c4 => ?_) (fun c4 => ?_)
        · refine aj_run (C := (0 ≤ a ∧ a < n 129 0) ∧ True) (pc' := 64) (la' := [some (.inr (.inr (some (50, 0)))), some (.inl a), some (.inl beat), some (.inl w)]) (st' := [.inl (g2 129 0 a)]) (M' := (P, g2, r0, n)) ok_X11_at true 5 rfl (by refine ⟨?_, trivial⟩ <;> (omega)) ?_
          refine aj_ret (r := some (.inl (g2 129 0 a))) (ax_dec2 (i := .ireturn) (n := 1) ok_X11_at rfl) ⟨?_, ?_, by decide, by decide⟩ rfl
          · first | (exfalso; omega) | exact ⟨ax_si (by unfold fAt; rw [← hG2 129 rfl, ← hG2 130 rfl]; (repeat first | rw [if_pos (by omega)] | rw [if_neg (by omega)] | rw [bI_t (by omega)] | rw [bI_f (by omega)])), _, rfl, kpg2⟩
          · exact ax_ro_i
        · refine aj_run (C := (0 ≤ a ∧ a < n 129 0) ∧ True) (pc' := 46) (la' := [some (.inr (.inr (some (50, 0)))), some (.inl a), some (.inl beat), some (.inl w)]) (st' := [.inl (g2 129 0 a)]) (M' := (P, g2, r0, n)) ok_X11_at true 4 rfl (by refine ⟨?_, trivial⟩ <;> (omega)) ?_
          refine aj_if_ge (tgt := 58) (ax_dec2 (i := .ifCond .ge 12) (n := 3) ok_X11_at rfl) (by decide) (fun c5 => ?_) (fun c5 => ?_)
          · refine aj_run (C := (0 ≤ a ∧ a < n 130 0) ∧ True) (pc' := 64) (la' := [some (.inr (.inr (some (50, 0)))), some (.inl a), some (.inl beat), some (.inl w)]) (st' := [.inl (g2 130 0 a)]) (M' := (P, g2, r0, n)) ok_X11_at true 4 rfl (by refine ⟨?_, trivial⟩ <;> (omega)) ?_
            refine aj_ret (r := some (.inl (g2 130 0 a))) (ax_dec2 (i := .ireturn) (n := 1) ok_X11_at rfl) ⟨?_, ?_, by decide, by decide⟩ rfl
            · first | (exfalso; omega) | exact ⟨ax_si (by unfold fAt; rw [← hG2 129 rfl, ← hG2 130 rfl]; (repeat first | rw [if_pos (by omega)] | rw [if_neg (by omega)] | rw [bI_t (by omega)] | rw [bI_f (by omega)])), _, rfl, kpg2⟩
            · exact ax_ro_i
          · refine aj_run (C := (0 ≤ a ∧ a < n 129 0) ∧ True) (pc' := 64) (la' := [some (.inr (.inr (some (50, 0)))), some (.inl a), some (.inl beat), some (.inl w)]) (st' := [.inl (g2 129 0 a)]) (M' := (P, g2, r0, n)) ok_X11_at true 5 rfl (by refine ⟨?_, trivial⟩ <;> (omega)) ?_
            refine aj_ret (r := some (.inl (g2 129 0 a))) (ax_dec2 (i := .ireturn) (n := 1) ok_X11_at rfl) ⟨?_, ?_, by decide, by decide⟩ rfl
            · first | (exfalso; omega) | exact ⟨ax_si (by unfold fAt; rw [← hG2 129 rfl, ← hG2 130 rfl]; (repeat first | rw [if_pos (by omega)] | rw [if_neg (by omega)] | rw [bI_t (by omega)] | rw [bI_f (by omega)])), _, rfl, kpg2⟩
            · exact ax_ro_i
      · replace c3 := bI_e0 c3
        refine aj_run (C := True) (pc' := 30) (la' := [some (.inr (.inr (some (50, 0)))), some (.inl a), some (.inl beat), some (.inl w)]) (st' := [.inl (-2)]) (M' := (P, g, r0, n)) ok_X11_at true 1 rfl trivial ?_
        refine aj_ret (r := some (.inl (-2))) (ax_dec2 (i := .ireturn) (n := 1) ok_X11_at rfl) ⟨?_, ?_, by decide, by decide⟩ rfl
        · first | (exfalso; omega) | exact ⟨ax_si (by unfold fAt; (repeat first | rw [if_pos (by omega)] | rw [if_neg (by omega)] | rw [bI_t (by omega)] | rw [bI_f (by omega)])), _, rfl, wKp.rf⟩
        · exact ax_ro_i

set_option maxRecDepth 100000 in
set_option maxHeartbeats 4000000 in
theorem sp_last (w : Int) (P : Nat → Int → Prop) (g : Nat → Int → Int → Int) (r0 : Nat → Int → Int → Option (Nat × Int)) (n : Nat → Int → Int) (hn : mLen n) (hs : wOs g) : ax_S yX11_last cX11_last 3 (some FieldType.int) 7 0 0 [.inr (.inr (some (50, 0))), .inl w] (P, g, r0, n) (fun r M' => r = some (.inl (fLast g w)) ∧ ∃ g', M' = (P, g', r0, n) ∧ wKp g' g) := by
  have n135 : n 135 0 = 7 := hn (135, 7) (by decide)
  have h2 := hs.2.2.1
  refine ax_S_of (own := 11) (by decide) rfl (fun h => absurd h (by decide)) rfl (Nat.le_of_ble_eq_true rfl) ?_
  change ax_J _ _ _ _ _ _ _ _ _ _ [some (.inr (.inr (some (50, 0)))), some (.inl w), none] _ _
  refine aj_run (C := True) (pc' := 3) (la' := [some (.inr (.inr (some (50, 0)))), some (.inl w), none]) (st' := [.inl 1, .inl 0, .inl w]) (M' := (P, g, r0, n)) ok_X11_last true 3 rfl trivial ?_
  refine aj_callS (av := [.inl w, .inl 0, .inl 1]) (st := []) cal_X11_isIn lk_11_7 stc_X11_isIn (sp_isIn w 0 1 _ _ _ _) ⟨by decide, by decide, by decide, by decide⟩ (Nat.le_of_ble_eq_true rfl) (ax_dec2 (i := .invokestatic 7) (n := 3) ok_X11_last rfl) (fun r M' hq => ?_)
  obtain ⟨rfl, rfl⟩ := hq
  change ax_J _ _ _ _ _ _ _ _ _ 6 [some (.inr (.inr (some (50, 0)))), some (.inl w), none] [.inl (bI (0 ≤ w ∧ w ≤ 1))] (P, g, r0, n)
  refine aj_if_ne (tgt := 12) (ax_dec2 (i := .ifCond .ne 6) (n := 3) ok_X11_last rfl) (by decide) (fun c1 => ?_) (fun c1 => ?_)
  · replace c1 := bI_n0 c1
    refine aj_run (C := True) (pc' := 14) (la' := [some (.inr (.inr (some (50, 0)))), some (.inl w), none]) (st' := [.inr (.inr (some (50, 0))), .inr (.inr (some (50, 0)))]) (M' := (P, g, r0, n)) ok_X11_last true 2 rfl trivial ?_
    refine aj_callV (av := []) (st := [.inr (.inr (some (50, 0)))]) (f := 50) (o := 0) (ci := 11) cal_X11_asSet lk_11_277 ins_X11_asSet rfl sel_X11_asSet rfl (fun c9 h9 _ => by simpa [ax_ok] using h9) (sp_asSet _ _ _ _ hn hs.2.2.1) ⟨by decide, by decide, by decide, by decide⟩ (Nat.le_of_ble_eq_true rfl) (ax_dec2 (i := .invokevirtual 277) (n := 3) ok_X11_last rfl) (fun r M' hq => ?_)
    obtain ⟨rfl, rfl⟩ := hq
    change ax_J _ _ _ _ _ _ _ _ _ 17 [some (.inr (.inr (some (50, 0)))), some (.inl w), none] [.inl (wSet (g 105 0) (g 50 0 2)), .inr (.inr (some (50, 0)))] (P, g, r0, n)
    refine aj_callV (av := [.inl (wSet (g 105 0) (g 50 0 2))]) (st := []) (f := 50) (o := 0) (ci := 11) cal_X11_goAll lk_11_282 ins_X11_goAll rfl sel_X11_goAll rfl (fun c9 h9 _ => by simpa [ax_ok] using h9) (sp_goAll (wSet (g 105 0) (g 50 0 2)) _ _ _ _ hn hs) ⟨by decide, by decide, by decide, by decide⟩ (Nat.le_of_ble_eq_true rfl) (ax_dec2 (i := .invokevirtual 282) (n := 3) ok_X11_last rfl) (fun r M' hq => ?_)
    obtain ⟨rfl, g2, rfl, hg2, kpg2⟩ := hq
    have hG2 : wEq g2 (gA g (gAs g)) := hg2
    have zs2 : g2 50 0 2 = g 50 0 2 := kpg2.2 0 2 (by omega)
    change ax_J _ _ _ _ _ _ _ _ _ 20 [some (.inr (.inr (some (50, 0)))), some (.inl w), none] [] (P, g2, r0, n)
    refine aj_run (C := True) (pc' := 21) (la' := [some (.inr (.inr (some (50, 0)))), some (.inl w), none]) (st' := [.inr (.inr (some (50, 0)))]) (M' := (P, g2, r0, n)) ok_X11_last true 1 rfl trivial ?_
    refine aj_callV (av := []) (st := []) (f := 50) (o := 0) (ci := 11) cal_X11_lastOff lk_11_288 ins_X11_lastOff rfl sel_X11_lastOff rfl (fun c9 h9 _ => by simpa [ax_ok] using h9) (sp_lastOff _ _ _ _ hn (by rw [zs2]; exact h2)) ⟨by decide, by decide, by decide, by decide⟩ (Nat.le_of_ble_eq_true rfl) (ax_dec2 (i := .invokevirtual 288) (n := 3) ok_X11_last rfl) (fun r M' hq => ?_)
    obtain ⟨rfl, rfl⟩ := hq
    change ax_J _ _ _ _ _ _ _ _ _ 24 [some (.inr (.inr (some (50, 0)))), some (.inl w), none] [.inl (wLast (g2 135 0) (g2 50 0 2))] (P, g2, r0, n)
    have hl2 : wLast (g2 135 0) (g2 50 0 2) = gLa g (gAs g) := by unfold gLa; rw [zs2, hG2 135 rfl]
    have hl3 := wLast_in (off := gA g (gAs g) 135 0) (n := g 50 0 2) (by omega)
    change gLa g (gAs g) = -1 ∨ (0 ≤ gLa g (gAs g) ∧ gLa g (gAs g) < g 50 0 2) at hl3
    rw [hl2]
    refine aj_run (C := True) (pc' := 27) (la' := [some (.inr (.inr (some (50, 0)))), some (.inl w), some (.inl (gLa g (gAs g)))]) (st' := [.inl (-1), .inl (gLa g (gAs g))]) (M' := (P, g2, r0, n)) ok_X11_last true 3 rfl trivial ?_
    refine aj_icmp_eq (tgt := 34) (ax_dec2 (i := .if_icmp .eq 7) (n := 3) ok_X11_last rfl) (by decide) (fun c2 => ?_) (fun c2 => ?_)
    · refine aj_run (C := True) (pc' := 44) (la' := [some (.inr (.inr (some (50, 0)))), some (.inl w), some (.inl (gLa g (gAs g)))]) (st' := [.inl (gLa g (gAs g))]) (M' := (P, g2, r0, n)) ok_X11_last true 2 rfl trivial ?_
      refine aj_ret (r := some (.inl (gLa g (gAs g)))) (ax_dec2 (i := .ireturn) (n := 1) ok_X11_last rfl) ⟨?_, ?_, by decide, by decide⟩ rfl
      · first | (exfalso; omega) | exact ⟨ax_si (by unfold fLast; (repeat first | rw [if_pos (by omega)] | rw [if_neg (by omega)] | rw [bI_t (by omega)] | rw [bI_f (by omega)]); try exact congrFun (congrFun (hG2 _ rfl) _) _), _, rfl, kpg2⟩
      · exact ax_ro_i
    · refine aj_run (C := True) (pc' := 31) (la' := [some (.inr (.inr (some (50, 0)))), some (.inl w), some (.inl (gLa g (gAs g)))]) (st' := [.inl w]) (M' := (P, g2, r0, n)) ok_X11_last true 1 rfl trivial ?_
      refine aj_if_ne (tgt := 38) (ax_dec2 (i := .ifCond .ne 7) (n := 3) ok_X11_last rfl) (by decide) (fun c3 => ?_) (fun c3 => ?_)
      · refine aj_run (C := (0 ≤ gLa g (gAs g) ∧ gLa g (gAs g) < n 135 0) ∧ True) (pc' := 44) (la' := [some (.inr (.inr (some (50, 0)))), some (.inl w), some (.inl (gLa g (gAs g)))]) (st' := [.inl (g2 135 0 (gLa g (gAs g)))]) (M' := (P, g2, r0, n)) ok_X11_last true 4 rfl (by refine ⟨?_, trivial⟩ <;> (omega)) ?_
        refine aj_ret (r := some (.inl (g2 135 0 (gLa g (gAs g))))) (ax_dec2 (i := .ireturn) (n := 1) ok_X11_last rfl) ⟨?_, ?_, by decide, by decide⟩ rfl
        · first | (exfalso; omega) | exact ⟨ax_si (by unfold fLast; (repeat first | rw [if_pos (by omega)] | rw [if_neg (by omega)] | rw [bI_t (by omega)] | rw [bI_f (by omega)]); try exact congrFun (congrFun (hG2 _ rfl) _) _), _, rfl, kpg2⟩
        · exact ax_ro_i
      · refine aj_run (C := True) (pc' := 44) (la' := [some (.inr (.inr (some (50, 0)))), some (.inl w), some (.inl (gLa g (gAs g)))]) (st' := [.inl (gLa g (gAs g))]) (M' := (P, g2, r0, n)) ok_X11_last true 2 rfl trivial ?_
        refine aj_ret (r := some (.inl (gLa g (gAs g)))) (ax_dec2 (i := .ireturn) (n := 1) ok_X11_last rfl) ⟨?_, ?_, by decide, by decide⟩ rfl
        · first | (exfalso; omega) | exact ⟨ax_si (by unfold fLast; (repeat first | rw [if_pos (by omega)] | rw [if_neg (by omega)] | rw [bI_t (by omega)] | rw [bI_f (by omega)]); try exact congrFun (congrFun (hG2 _ rfl) _) _), _, rfl, kpg2⟩
        · exact ax_ro_i
  · replace c1 := bI_e0 c1
    refine aj_run (C := True) (pc' := 11) (la' := [some (.inr (.inr (some (50, 0)))), some (.inl w), none]) (st' := [.inl (-2)]) (M' := (P, g, r0, n)) ok_X11_last true 1 rfl trivial ?_
    refine aj_ret (r := some (.inl (-2))) (ax_dec2 (i := .ireturn) (n := 1) ok_X11_last rfl) ⟨?_, ?_, by decide, by decide⟩ rfl
    · first | (exfalso; omega) | exact ⟨ax_si (by unfold fLast; (repeat first | rw [if_pos (by omega)] | rw [if_neg (by omega)] | rw [bI_t (by omega)] | rw [bI_f (by omega)])), _, rfl, wKp.rf⟩
    · exact ax_ro_i

set_option maxRecDepth 100000 in
set_option maxHeartbeats 4000000 in
theorem sp_order (beat : Int) (P : Nat → Int → Prop) (g : Nat → Int → Int → Int) (r0 : Nat → Int → Int → Option (Nat × Int)) (n : Nat → Int → Int) (hn : mLen n) (hs : wOs g) : ax_S yX11_order cX11_order 5 (some FieldType.int) 7 0 0 [.inr (.inr (some (50, 0))), .inl beat] (P, g, r0, n) (fun r M' => r = some (.inl (fOrd g beat)) ∧ ∃ g', M' = (P, g', r0, n) ∧ wKp g' g) := by
  have n129 : n 129 0 = 7 := hn (129, 7) (by decide)
  have h2 := hs.2.2.1
  refine ax_S_of (own := 11) (by decide) rfl (fun h => absurd h (by decide)) rfl (Nat.le_of_ble_eq_true rfl) ?_
  change ax_J _ _ _ _ _ _ _ _ _ _ [some (.inr (.inr (some (50, 0)))), some (.inl beat), none, none, none] _ _
  refine aj_run (C := True) (pc' := 5) (la' := [some (.inr (.inr (some (50, 0)))), some (.inl beat), none, none, none]) (st' := [.inl 200, .inl 0, .inl beat]) (M' := (P, g, r0, n)) ok_X11_order true 3 rfl trivial ?_
  refine aj_callS (av := [.inl beat, .inl 0, .inl 200]) (st := []) cal_X11_isIn lk_11_7 stc_X11_isIn (sp_isIn beat 0 200 _ _ _ _) ⟨by decide, by decide, by decide, by decide⟩ (Nat.le_of_ble_eq_true rfl) (ax_dec2 (i := .invokestatic 7) (n := 3) ok_X11_order rfl) (fun r M' hq => ?_)
  obtain ⟨rfl, rfl⟩ := hq
  change ax_J _ _ _ _ _ _ _ _ _ 8 [some (.inr (.inr (some (50, 0)))), some (.inl beat), none, none, none] [.inl (bI (0 ≤ beat ∧ beat ≤ 200))] (P, g, r0, n)
  refine aj_if_ne (tgt := 14) (ax_dec2 (i := .ifCond .ne 6) (n := 3) ok_X11_order rfl) (by decide) (fun c1 => ?_) (fun c1 => ?_)
  · replace c1 := bI_n0 c1
    refine aj_run (C := True) (pc' := 16) (la' := [some (.inr (.inr (some (50, 0)))), some (.inl beat), none, none, none]) (st' := [.inl beat, .inr (.inr (some (50, 0)))]) (M' := (P, g, r0, n)) ok_X11_order true 2 rfl trivial ?_
    refine aj_callV (av := [.inl beat]) (st := []) (f := 50) (o := 0) (ci := 11) cal_X11_goTo lk_11_285 ins_X11_goTo rfl sel_X11_goTo rfl (fun c9 h9 _ => by simpa [ax_ok] using h9) (sp_goTo beat _ _ _ _ hn hs (by omega)) ⟨by decide, by decide, by decide, by decide⟩ (Nat.le_of_ble_eq_true rfl) (ax_dec2 (i := .invokevirtual 285) (n := 3) ok_X11_order rfl) (fun r M' hq => ?_)
    obtain ⟨rfl, g2, rfl, hg2, kpg2⟩ := hq
    have hG2 : wEq g2 (gT g beat) := hg2
    have zs2 : g2 50 0 2 = g 50 0 2 := kpg2.2 0 2 (by omega)
    have zk2 : g2 50 0 0 = g 50 0 0 := kpg2.2 0 0 (by omega)
    have hk1 := hs.1
    change ax_J _ _ _ _ _ _ _ _ _ 19 [some (.inr (.inr (some (50, 0)))), some (.inl beat), none, none, none] [] (P, g2, r0, n)
    refine aj_run (C := True) (pc' := 23) (la' := [some (.inr (.inr (some (50, 0)))), some (.inl beat), some (.inl 0), some (.inl 0), none]) (st' := []) (M' := (P, g2, r0, n)) ok_X11_order true 4 rfl trivial ?_
    refine aj_cast (congrArg (fun (z9 : Int) => ([some (.inr (.inr (some (50, 0)))), some (.inl beat), some (.inl z9), some (.inl 0), none] : List (Option ax_V))) (show 0 = wOrdO g2 (g2 50 0 2) 0 from by rfl)) rfl rfl ?_
    refine aj_forget (la' := [some (.inr (.inr (some (50, 0)))), some (.inl beat), some (.inl (wOrdO g2 (g2 50 0 2) 0)), some (.inl 0), none]) (by simp [ax_fg]) ?_
    refine aj_loop (σ := (Int)) (fun xL => 0 ≤ xL ∧ xL ≤ 2 * g2 50 0 0 + 1) (fun xL => (2 * g2 50 0 0 + 1 - xL).toNat) (fun xL => [some (.inr (.inr (some (50, 0)))), some (.inl beat), some (.inl (wOrdO g2 (g2 50 0 2) xL)), some (.inl xL), none]) (fun xL => []) (fun xL => (P, g2, r0, n)) ?_ (0) ?_
    rotate_left
    · omega
    rintro p hI ih23
    try dsimp only at hI ih23
    obtain ⟨i1, i2⟩ := hI
    change ax_J _ _ _ _ _ _ _ _ _ 23 [some (.inr (.inr (some (50, 0)))), some (.inl beat), some (.inl (wOrdO g2 (g2 50 0 2) p)), some (.inl p), none] [] (P, g2, r0, n)
    refine aj_run (C := (-2147483648 ≤ 2 * (g2 50 0 0) ∧ 2 * (g2 50 0 0) ≤ 2147483647) ∧ True) (pc' := 30) (la' := [some (.inr (.inr (some (50, 0)))), some (.inl beat), some (.inl (wOrdO g2 (g2 50 0 2) p)), some (.inl p), none]) (st' := [.inl (2 * (g2 50 0 0)), .inl p]) (M' := (P, g2, r0, n)) ok_X11_order true 5 rfl (by refine ⟨?_, trivial⟩ <;> (omega)) ?_
    refine aj_icmp_gt (tgt := 82) (ax_dec2 (i := .if_icmp .gt 52) (n := 3) ok_X11_order rfl) (by decide) (fun c2 => ?_) (fun c2 => ?_)
    · refine aj_run (C := True) (pc' := 83) (la' := [some (.inr (.inr (some (50, 0)))), some (.inl beat), some (.inl (wOrdO g2 (g2 50 0 2) p)), some (.inl p), none]) (st' := [.inl (wOrdO g2 (g2 50 0 2) p)]) (M' := (P, g2, r0, n)) ok_X11_order true 1 rfl trivial ?_
      refine aj_ret (r := some (.inl (wOrdO g2 (g2 50 0 2) p))) (ax_dec2 (i := .ireturn) (n := 1) ok_X11_order rfl) ⟨?_, ?_, by decide, by decide⟩ rfl
      · first | (exfalso; omega) | exact ⟨ax_si (by unfold fOrd; (repeat first | rw [if_pos (by omega)] | rw [if_neg (by omega)] | rw [bI_t (by omega)] | rw [bI_f (by omega)]); rw [← wOrdO_e hG2, ← zs2, ← zk2, show 2 * g2 50 0 0 + 1 = p by omega]), _, rfl, kpg2⟩
      · exact ax_ro_i
    · refine aj_run (C := True) (pc' := 36) (la' := [some (.inr (.inr (some (50, 0)))), some (.inl beat), some (.inl (wOrdO g2 (g2 50 0 2) p)), some (.inl p), some (.inl 0)]) (st' := []) (M' := (P, g2, r0, n)) ok_X11_order true 2 rfl trivial ?_
      refine aj_cast (congrArg (fun (z9 : Int) => ([some (.inr (.inr (some (50, 0)))), some (.inl beat), some (.inl z9), some (.inl p), some (.inl 0)] : List (Option ax_V))) (show wOrdO g2 (g2 50 0 2) p = wOrdI g2 p 0 (wOrdO g2 (g2 50 0 2) p) from by rfl)) rfl rfl ?_
      refine aj_loop (σ := (Int)) (fun xL => 0 ≤ xL ∧ xL ≤ g2 50 0 2) (fun xL => (g2 50 0 2 - xL).toNat) (fun xL => [some (.inr (.inr (some (50, 0)))), some (.inl beat), some (.inl (wOrdI g2 p xL (wOrdO g2 (g2 50 0 2) p))), some (.inl p), some (.inl xL)]) (fun xL => []) (fun xL => (P, g2, r0, n)) ?_ (0) ?_
      rotate_left
      · omega
      rintro a hI ih36
      try dsimp only at hI ih36
      obtain ⟨j1, j2⟩ := hI
      change ax_J _ _ _ _ _ _ _ _ _ 36 [some (.inr (.inr (some (50, 0)))), some (.inl beat), some (.inl (wOrdI g2 p a (wOrdO g2 (g2 50 0 2) p))), some (.inl p), some (.inl a)] [] (P, g2, r0, n)
      refine aj_run (C := True) (pc' := 42) (la' := [some (.inr (.inr (some (50, 0)))), some (.inl beat), some (.inl (wOrdI g2 p a (wOrdO g2 (g2 50 0 2) p))), some (.inl p), some (.inl a)]) (st' := [.inl (g2 50 0 2), .inl a]) (M' := (P, g2, r0, n)) ok_X11_order true 3 rfl trivial ?_
      refine aj_icmp_ge (tgt := 76) (ax_dec2 (i := .if_icmp .ge 34) (n := 3) ok_X11_order rfl) (by decide) (fun c3 => ?_) (fun c3 => ?_)
      · refine aj_run (C := (-2147483648 ≤ p + 1 ∧ p + 1 ≤ 2147483647) ∧ True) (pc' := 23) (la' := [some (.inr (.inr (some (50, 0)))), some (.inl beat), some (.inl (wOrdI g2 p a (wOrdO g2 (g2 50 0 2) p))), some (.inl (p + 1)), some (.inl a)]) (st' := []) (M' := (P, g2, r0, n)) ok_X11_order true 2 rfl (by refine ⟨?_, trivial⟩ <;> (omega)) ?_
        refine aj_cast (congrArg (fun (z9 : Int) => ([some (.inr (.inr (some (50, 0)))), some (.inl beat), some (.inl z9), some (.inl (p + 1)), some (.inl a)] : List (Option ax_V))) (show wOrdI g2 p a (wOrdO g2 (g2 50 0 2) p) = wOrdO g2 (g2 50 0 2) (p + 1) from by (rw [wOrdO_s i1, show g2 50 0 2 = a by omega]))) rfl rfl ?_
        refine aj_forget (la' := [some (.inr (.inr (some (50, 0)))), some (.inl beat), some (.inl (wOrdO g2 (g2 50 0 2) (p + 1))), some (.inl (p + 1)), none]) (by simp [ax_fg]) ?_
        refine ih23 (p + 1) ?_ ?_
        · omega
        · omega
      · refine aj_run (C := (0 ≤ a ∧ a < n 129 0) ∧ True) (pc' := 53) (la' := [some (.inr (.inr (some (50, 0)))), some (.inl beat), some (.inl (wOrdI g2 p a (wOrdO g2 (g2 50 0 2) p))), some (.inl p), some (.inl a)]) (st' := [.inl p, .inl (g2 129 0 a)]) (M' := (P, g2, r0, n)) ok_X11_order true 5 rfl (by refine ⟨?_, trivial⟩ <;> (omega)) ?_
        refine aj_icmp_ne (tgt := 68) (ax_dec2 (i := .if_icmp .ne 15) (n := 3) ok_X11_order rfl) (by decide) (fun c4 => ?_) (fun c4 => ?_)
        · refine aj_run (C := (-2147483648 ≤ a + 1 ∧ a + 1 ≤ 2147483647) ∧ True) (pc' := 36) (la' := [some (.inr (.inr (some (50, 0)))), some (.inl beat), some (.inl (wOrdI g2 p a (wOrdO g2 (g2 50 0 2) p))), some (.inl p), some (.inl (a + 1))]) (st' := []) (M' := (P, g2, r0, n)) ok_X11_order true 4 rfl (by refine ⟨?_, trivial⟩ <;> (omega)) ?_
          refine aj_cast (congrArg (fun (z9 : Int) => ([some (.inr (.inr (some (50, 0)))), some (.inl beat), some (.inl z9), some (.inl p), some (.inl (a + 1))] : List (Option ax_V))) (show wOrdI g2 p a (wOrdO g2 (g2 50 0 2) p) = wOrdI g2 p (a + 1) (wOrdO g2 (g2 50 0 2) p) from by (rw [wOrdI_s j1]; first | rw [if_pos (by omega)] | rw [if_neg (by omega)]))) rfl rfl ?_
          refine ih36 (a + 1) ?_ ?_
          · omega
          · omega
        · refine aj_run (C := True) (pc' := 59) (la' := [some (.inr (.inr (some (50, 0)))), some (.inl beat), some (.inl (wOrdI g2 p a (wOrdO g2 (g2 50 0 2) p))), some (.inl p), some (.inl a)]) (st' := [.inl (wOrdI g2 p a (wOrdO g2 (g2 50 0 2) p)), .inl 10]) (M' := (P, g2, r0, n)) ok_X11_order true 2 rfl trivial ?_
          refine aj_run (C := True) (pc' := 65) (la' := [some (.inr (.inr (some (50, 0)))), some (.inl beat), some (.inl (wOrdI g2 p a (wOrdO g2 (g2 50 0 2) p))), some (.inl p), some (.inl a)]) (st' := [.inl (Int.bmod ((Int.bmod ((Int.bmod (10 * (wOrdI g2 p a (wOrdO g2 (g2 50 0 2) p))) 4294967296) + a) 4294967296) + 1) 4294967296)]) (M' := (P, g2, r0, n)) ok_X11_order false 5 rfl trivial ?_
          refine aj_run (C := (-2147483648 ≤ a + 1 ∧ a + 1 ≤ 2147483647) ∧ True) (pc' := 36) (la' := [some (.inr (.inr (some (50, 0)))), some (.inl beat), some (.inl (Int.bmod ((Int.bmod ((Int.bmod (10 * (wOrdI g2 p a (wOrdO g2 (g2 50 0 2) p))) 4294967296) + a) 4294967296) + 1) 4294967296)), some (.inl p), some (.inl (a + 1))]) (st' := []) (M' := (P, g2, r0, n)) ok_X11_order true 4 rfl (by refine ⟨?_, trivial⟩ <;> (omega)) ?_
          refine aj_cast (congrArg (fun (z9 : Int) => ([some (.inr (.inr (some (50, 0)))), some (.inl beat), some (.inl z9), some (.inl p), some (.inl (a + 1))] : List (Option ax_V))) (show Int.bmod ((Int.bmod ((Int.bmod (10 * (wOrdI g2 p a (wOrdO g2 (g2 50 0 2) p))) 4294967296) + a) 4294967296) + 1) 4294967296 = wOrdI g2 p (a + 1) (wOrdO g2 (g2 50 0 2) p) from by (rw [wOrdI_s j1]; first | rw [if_pos (by omega)] | rw [if_neg (by omega)]))) rfl rfl ?_
          refine ih36 (a + 1) ?_ ?_
          · omega
          · omega
  · replace c1 := bI_e0 c1
    refine aj_run (C := True) (pc' := 13) (la' := [some (.inr (.inr (some (50, 0)))), some (.inl beat), none, none, none]) (st' := [.inl (-2)]) (M' := (P, g, r0, n)) ok_X11_order true 1 rfl trivial ?_
    refine aj_ret (r := some (.inl (-2))) (ax_dec2 (i := .ireturn) (n := 1) ok_X11_order rfl) ⟨?_, ?_, by decide, by decide⟩ rfl
    · first | (exfalso; omega) | exact ⟨ax_si (by unfold fOrd; (repeat first | rw [if_pos (by omega)] | rw [if_neg (by omega)] | rw [bI_t (by omega)] | rw [bI_f (by omega)])), _, rfl, wKp.rf⟩
    · exact ax_ro_i

set_option maxRecDepth 100000 in
set_option maxHeartbeats 4000000 in
theorem sp_tilt (beat : Int) (P : Nat → Int → Prop) (g : Nat → Int → Int → Int) (r0 : Nat → Int → Int → Option (Nat × Int)) (n : Nat → Int → Int) (hn : mLen n) (hs : wOs g) : ax_S yX11_tilt cX11_tilt 4 (some FieldType.int) 7 0 0 [.inr (.inr (some (50, 0))), .inl beat] (P, g, r0, n) (fun r M' => r = some (.inl (fTil g beat)) ∧ ∃ g', M' = (P, g', r0, n) ∧ wKp g' g) := by
  have n129 : n 129 0 = 7 := hn (129, 7) (by decide)
  have h2 := hs.2.2.1
  refine ax_S_of (own := 11) (by decide) rfl (fun h => absurd h (by decide)) rfl (Nat.le_of_ble_eq_true rfl) ?_
  change ax_J _ _ _ _ _ _ _ _ _ _ [some (.inr (.inr (some (50, 0)))), some (.inl beat), none, none] _ _
  refine aj_run (C := True) (pc' := 5) (la' := [some (.inr (.inr (some (50, 0)))), some (.inl beat), none, none]) (st' := [.inl 200, .inl 0, .inl beat]) (M' := (P, g, r0, n)) ok_X11_tilt true 3 rfl trivial ?_
  refine aj_callS (av := [.inl beat, .inl 0, .inl 200]) (st := []) cal_X11_isIn lk_11_7 stc_X11_isIn (sp_isIn beat 0 200 _ _ _ _) ⟨by decide, by decide, by decide, by decide⟩ (Nat.le_of_ble_eq_true rfl) (ax_dec2 (i := .invokestatic 7) (n := 3) ok_X11_tilt rfl) (fun r M' hq => ?_)
  obtain ⟨rfl, rfl⟩ := hq
  change ax_J _ _ _ _ _ _ _ _ _ 8 [some (.inr (.inr (some (50, 0)))), some (.inl beat), none, none] [.inl (bI (0 ≤ beat ∧ beat ≤ 200))] (P, g, r0, n)
  refine aj_if_ne (tgt := 15) (ax_dec2 (i := .ifCond .ne 7) (n := 3) ok_X11_tilt rfl) (by decide) (fun c1 => ?_) (fun c1 => ?_)
  · replace c1 := bI_n0 c1
    refine aj_run (C := True) (pc' := 17) (la' := [some (.inr (.inr (some (50, 0)))), some (.inl beat), none, none]) (st' := [.inl beat, .inr (.inr (some (50, 0)))]) (M' := (P, g, r0, n)) ok_X11_tilt true 2 rfl trivial ?_
    refine aj_callV (av := [.inl beat]) (st := []) (f := 50) (o := 0) (ci := 11) cal_X11_goTo lk_11_285 ins_X11_goTo rfl sel_X11_goTo rfl (fun c9 h9 _ => by simpa [ax_ok] using h9) (sp_goTo beat _ _ _ _ hn hs (by omega)) ⟨by decide, by decide, by decide, by decide⟩ (Nat.le_of_ble_eq_true rfl) (ax_dec2 (i := .invokevirtual 285) (n := 3) ok_X11_tilt rfl) (fun r M' hq => ?_)
    obtain ⟨rfl, g2, rfl, hg2, kpg2⟩ := hq
    have hG2 : wEq g2 (gT g beat) := hg2
    have zs2 : g2 50 0 2 = g 50 0 2 := kpg2.2 0 2 (by omega)
    have zk2 : g2 50 0 0 = g 50 0 0 := kpg2.2 0 0 (by omega)
    have hk1 := hs.1
    change ax_J _ _ _ _ _ _ _ _ _ 20 [some (.inr (.inr (some (50, 0)))), some (.inl beat), none, none] [] (P, g2, r0, n)
    refine aj_run (C := True) (pc' := 24) (la' := [some (.inr (.inr (some (50, 0)))), some (.inl beat), some (.inl 0), some (.inl 0)]) (st' := []) (M' := (P, g2, r0, n)) ok_X11_tilt true 4 rfl trivial ?_
    refine aj_cast (congrArg (fun (z9 : Int) => ([some (.inr (.inr (some (50, 0)))), some (.inl beat), some (.inl z9), some (.inl 0)] : List (Option ax_V))) (show 0 = wTil g2 0 from by rfl)) rfl rfl ?_
    refine aj_loop (σ := (Int)) (fun xL => 0 ≤ xL ∧ xL ≤ g2 50 0 2) (fun xL => (g2 50 0 2 - xL).toNat) (fun xL => [some (.inr (.inr (some (50, 0)))), some (.inl beat), some (.inl (wTil g2 xL)), some (.inl xL)]) (fun xL => []) (fun xL => (P, g2, r0, n)) ?_ (0) ?_
    rotate_left
    · omega
    rintro a hI ih24
    try dsimp only at hI ih24
    obtain ⟨i1, i2⟩ := hI
    change ax_J _ _ _ _ _ _ _ _ _ 24 [some (.inr (.inr (some (50, 0)))), some (.inl beat), some (.inl (wTil g2 a)), some (.inl a)] [] (P, g2, r0, n)
    refine aj_run (C := True) (pc' := 29) (la' := [some (.inr (.inr (some (50, 0)))), some (.inl beat), some (.inl (wTil g2 a)), some (.inl a)]) (st' := [.inl (g2 50 0 2), .inl a]) (M' := (P, g2, r0, n)) ok_X11_tilt true 3 rfl trivial ?_
    refine aj_icmp_ge (tgt := 94) (ax_dec2 (i := .if_icmp .ge 65) (n := 3) ok_X11_tilt rfl) (by decide) (fun c2 => ?_) (fun c2 => ?_)
    · refine aj_run (C := True) (pc' := 95) (la' := [some (.inr (.inr (some (50, 0)))), some (.inl beat), some (.inl (wTil g2 a)), some (.inl a)]) (st' := [.inl (wTil g2 a)]) (M' := (P, g2, r0, n)) ok_X11_tilt true 1 rfl trivial ?_
      refine aj_ret (r := some (.inl (wTil g2 a))) (ax_dec2 (i := .ireturn) (n := 1) ok_X11_tilt rfl) ⟨?_, ?_, by decide, by decide⟩ rfl
      · first | (exfalso; omega) | exact ⟨ax_si (by unfold fTil; (repeat first | rw [if_pos (by omega)] | rw [if_neg (by omega)] | rw [bI_t (by omega)] | rw [bI_f (by omega)]); rw [← wTil_e hG2, ← zs2, show g2 50 0 2 = a by omega]), _, rfl, kpg2⟩
      · exact ax_ro_i
    · refine aj_run (C := (0 ≤ a ∧ a < n 129 0) ∧ True) (pc' := 38) (la' := [some (.inr (.inr (some (50, 0)))), some (.inl beat), some (.inl (wTil g2 a)), some (.inl a)]) (st' := [.inl (g2 129 0 a)]) (M' := (P, g2, r0, n)) ok_X11_tilt true 4 rfl (by refine ⟨?_, trivial⟩ <;> (omega)) ?_
      refine aj_if_lt (tgt := 88) (ax_dec2 (i := .ifCond .lt 50) (n := 3) ok_X11_tilt rfl) (by decide) (fun c3 => ?_) (fun c3 => ?_)
      · refine aj_run (C := (-2147483648 ≤ a + 1 ∧ a + 1 ≤ 2147483647) ∧ True) (pc' := 24) (la' := [some (.inr (.inr (some (50, 0)))), some (.inl beat), some (.inl (wTil g2 a)), some (.inl (a + 1))]) (st' := []) (M' := (P, g2, r0, n)) ok_X11_tilt true 2 rfl (by refine ⟨?_, trivial⟩ <;> (omega)) ?_
        refine aj_cast (congrArg (fun (z9 : Int) => ([some (.inr (.inr (some (50, 0)))), some (.inl beat), some (.inl z9), some (.inl (a + 1))] : List (Option ax_V))) (show wTil g2 a = wTil g2 (a + 1) from by (rw [wTil_s i1]; (repeat first | rw [if_pos (by omega)] | rw [if_neg (by omega)] | rw [bI_t (by omega)] | rw [bI_f (by omega)])))) rfl rfl ?_
        refine ih24 (a + 1) ?_ ?_
        · omega
        · omega
      · refine aj_run (C := (0 ≤ a ∧ a < n 129 0) ∧ True) (pc' := 52) (la' := [some (.inr (.inr (some (50, 0)))), some (.inl beat), some (.inl (wTil g2 a)), some (.inl a)]) (st' := [.inl (g2 50 0 0), .inl (g2 129 0 a), .inl (wTil g2 a)]) (M' := (P, g2, r0, n)) ok_X11_tilt true 7 rfl (by refine ⟨?_, trivial⟩ <;> (omega)) ?_
        refine aj_icmp_ge (tgt := 63) (ax_dec2 (i := .if_icmp .ge 11) (n := 3) ok_X11_tilt rfl) (by decide) (fun c4 => ?_) (fun c4 => ?_)
        · refine aj_run (C := (0 ≤ a ∧ a < n 129 0) ∧ True) (pc' := 73) (la' := [some (.inr (.inr (some (50, 0)))), some (.inl beat), some (.inl (wTil g2 a)), some (.inl a)]) (st' := [.inl (g2 50 0 0), .inl (g2 129 0 a), .inl (wTil g2 a)]) (M' := (P, g2, r0, n)) ok_X11_tilt true 6 rfl (by refine ⟨?_, trivial⟩ <;> (omega)) ?_
          refine aj_icmp_le (tgt := 85) (ax_dec2 (i := .if_icmp .le 12) (n := 3) ok_X11_tilt rfl) (by decide) (fun c5 => ?_) (fun c5 => ?_)
          · refine aj_run (C := True) (pc' := 86) (la' := [some (.inr (.inr (some (50, 0)))), some (.inl beat), some (.inl (wTil g2 a)), some (.inl a)]) (st' := [.inl 0, .inl (wTil g2 a)]) (M' := (P, g2, r0, n)) ok_X11_tilt true 1 rfl trivial ?_
            refine aj_run (C := True) (pc' := 87) (la' := [some (.inr (.inr (some (50, 0)))), some (.inl beat), some (.inl (wTil g2 a)), some (.inl a)]) (st' := [.inl (Int.bmod ((wTil g2 a) + 0) 4294967296)]) (M' := (P, g2, r0, n)) ok_X11_tilt false 1 rfl trivial ?_
            refine aj_run (C := (-2147483648 ≤ a + 1 ∧ a + 1 ≤ 2147483647) ∧ True) (pc' := 24) (la' := [some (.inr (.inr (some (50, 0)))), some (.inl beat), some (.inl (Int.bmod ((wTil g2 a) + 0) 4294967296)), some (.inl (a + 1))]) (st' := []) (M' := (P, g2, r0, n)) ok_X11_tilt true 3 rfl (by refine ⟨?_, trivial⟩ <;> (omega)) ?_
            refine aj_cast (congrArg (fun (z9 : Int) => ([some (.inr (.inr (some (50, 0)))), some (.inl beat), some (.inl z9), some (.inl (a + 1))] : List (Option ax_V))) (show Int.bmod ((wTil g2 a) + 0) 4294967296 = wTil g2 (a + 1) from by (rw [wTil_s i1]; (repeat first | rw [if_pos (by omega)] | rw [if_neg (by omega)] | rw [bI_t (by omega)] | rw [bI_f (by omega)])))) rfl rfl ?_
            refine ih24 (a + 1) ?_ ?_
            · omega
            · omega
          · refine aj_run (C := True) (pc' := 78) (la' := [some (.inr (.inr (some (50, 0)))), some (.inl beat), some (.inl (wTil g2 a)), some (.inl a)]) (st' := [.inl a, .inr (.inr (some (50, 0))), .inl (wTil g2 a)]) (M' := (P, g2, r0, n)) ok_X11_tilt true 2 rfl trivial ?_
            refine aj_callV (av := [.inl a]) (st := [.inl (wTil g2 a)]) (f := 50) (o := 0) (ci := 11) cal_X11_weighs lk_11_41 ins_X11_weighs rfl sel_X11_weighs rfl (fun c9 h9 _ => by simpa [ax_ok] using h9) (sp_weighs a _ _ _ _ hn (by omega) (by rw [kpg2.1 107 (by decide) (by omega)]; exact (hs.2.2.2.2.2.2 _ (by omega) (by omega)).2.2.2.2)) ⟨by decide, by decide, by decide, by decide⟩ (Nat.le_of_ble_eq_true rfl) (ax_dec2 (i := .invokevirtual 41) (n := 3) ok_X11_tilt rfl) (fun r M' hq => ?_)
            obtain ⟨rfl, rfl⟩ := hq
            change ax_J _ _ _ _ _ _ _ _ _ 81 [some (.inr (.inr (some (50, 0)))), some (.inl beat), some (.inl (wTil g2 a)), some (.inl a)] [.inl (wWeighs (g2 103 0 a) (g2 107 0 a)), .inl (wTil g2 a)] (P, g2, r0, n)
            refine aj_run (C := True) (pc' := 82) (la' := [some (.inr (.inr (some (50, 0)))), some (.inl beat), some (.inl (wTil g2 a)), some (.inl a)]) (st' := [.inl (Int.bmod (-(wWeighs (g2 103 0 a) (g2 107 0 a))) 4294967296), .inl (wTil g2 a)]) (M' := (P, g2, r0, n)) ok_X11_tilt false 1 rfl trivial ?_
            refine aj_run (C := True) (pc' := 86) (la' := [some (.inr (.inr (some (50, 0)))), some (.inl beat), some (.inl (wTil g2 a)), some (.inl a)]) (st' := [.inl (Int.bmod (-(wWeighs (g2 103 0 a) (g2 107 0 a))) 4294967296), .inl (wTil g2 a)]) (M' := (P, g2, r0, n)) ok_X11_tilt true 1 rfl trivial ?_
            refine aj_run (C := True) (pc' := 87) (la' := [some (.inr (.inr (some (50, 0)))), some (.inl beat), some (.inl (wTil g2 a)), some (.inl a)]) (st' := [.inl (Int.bmod ((wTil g2 a) + (Int.bmod (-(wWeighs (g2 103 0 a) (g2 107 0 a))) 4294967296)) 4294967296)]) (M' := (P, g2, r0, n)) ok_X11_tilt false 1 rfl trivial ?_
            refine aj_run (C := (-2147483648 ≤ a + 1 ∧ a + 1 ≤ 2147483647) ∧ True) (pc' := 24) (la' := [some (.inr (.inr (some (50, 0)))), some (.inl beat), some (.inl (Int.bmod ((wTil g2 a) + (Int.bmod (-(wWeighs (g2 103 0 a) (g2 107 0 a))) 4294967296)) 4294967296)), some (.inl (a + 1))]) (st' := []) (M' := (P, g2, r0, n)) ok_X11_tilt true 3 rfl (by refine ⟨?_, trivial⟩ <;> (omega)) ?_
            refine aj_cast (congrArg (fun (z9 : Int) => ([some (.inr (.inr (some (50, 0)))), some (.inl beat), some (.inl z9), some (.inl (a + 1))] : List (Option ax_V))) (show Int.bmod ((wTil g2 a) + (Int.bmod (-(wWeighs (g2 103 0 a) (g2 107 0 a))) 4294967296)) 4294967296 = wTil g2 (a + 1) from by (rw [wTil_s i1]; (repeat first | rw [if_pos (by omega)] | rw [if_neg (by omega)] | rw [bI_t (by omega)] | rw [bI_f (by omega)])))) rfl rfl ?_
            refine ih24 (a + 1) ?_ ?_
            · omega
            · omega
        · refine aj_run (C := True) (pc' := 57) (la' := [some (.inr (.inr (some (50, 0)))), some (.inl beat), some (.inl (wTil g2 a)), some (.inl a)]) (st' := [.inl a, .inr (.inr (some (50, 0))), .inl (wTil g2 a)]) (M' := (P, g2, r0, n)) ok_X11_tilt true 2 rfl trivial ?_
          refine aj_callV (av := [.inl a]) (st := [.inl (wTil g2 a)]) (f := 50) (o := 0) (ci := 11) cal_X11_weighs lk_11_41 ins_X11_weighs rfl sel_X11_weighs rfl (fun c9 h9 _ => by simpa [ax_ok] using h9) (sp_weighs a _ _ _ _ hn (by omega) (by rw [kpg2.1 107 (by decide) (by omega)]; exact (hs.2.2.2.2.2.2 _ (by omega) (by omega)).2.2.2.2)) ⟨by decide, by decide, by decide, by decide⟩ (Nat.le_of_ble_eq_true rfl) (ax_dec2 (i := .invokevirtual 41) (n := 3) ok_X11_tilt rfl) (fun r M' hq => ?_)
          obtain ⟨rfl, rfl⟩ := hq
          change ax_J _ _ _ _ _ _ _ _ _ 60 [some (.inr (.inr (some (50, 0)))), some (.inl beat), some (.inl (wTil g2 a)), some (.inl a)] [.inl (wWeighs (g2 103 0 a) (g2 107 0 a)), .inl (wTil g2 a)] (P, g2, r0, n)
          refine aj_run (C := True) (pc' := 86) (la' := [some (.inr (.inr (some (50, 0)))), some (.inl beat), some (.inl (wTil g2 a)), some (.inl a)]) (st' := [.inl (wWeighs (g2 103 0 a) (g2 107 0 a)), .inl (wTil g2 a)]) (M' := (P, g2, r0, n)) ok_X11_tilt true 1 rfl trivial ?_
          refine aj_run (C := True) (pc' := 87) (la' := [some (.inr (.inr (some (50, 0)))), some (.inl beat), some (.inl (wTil g2 a)), some (.inl a)]) (st' := [.inl (Int.bmod ((wTil g2 a) + (wWeighs (g2 103 0 a) (g2 107 0 a))) 4294967296)]) (M' := (P, g2, r0, n)) ok_X11_tilt false 1 rfl trivial ?_
          refine aj_run (C := (-2147483648 ≤ a + 1 ∧ a + 1 ≤ 2147483647) ∧ True) (pc' := 24) (la' := [some (.inr (.inr (some (50, 0)))), some (.inl beat), some (.inl (Int.bmod ((wTil g2 a) + (wWeighs (g2 103 0 a) (g2 107 0 a))) 4294967296)), some (.inl (a + 1))]) (st' := []) (M' := (P, g2, r0, n)) ok_X11_tilt true 3 rfl (by refine ⟨?_, trivial⟩ <;> (omega)) ?_
          refine aj_cast (congrArg (fun (z9 : Int) => ([some (.inr (.inr (some (50, 0)))), some (.inl beat), some (.inl z9), some (.inl (a + 1))] : List (Option ax_V))) (show Int.bmod ((wTil g2 a) + (wWeighs (g2 103 0 a) (g2 107 0 a))) 4294967296 = wTil g2 (a + 1) from by (rw [wTil_s i1]; (repeat first | rw [if_pos (by omega)] | rw [if_neg (by omega)] | rw [bI_t (by omega)] | rw [bI_f (by omega)])))) rfl rfl ?_
          refine ih24 (a + 1) ?_ ?_
          · omega
          · omega
  · replace c1 := bI_e0 c1
    refine aj_run (C := True) (pc' := 14) (la' := [some (.inr (.inr (some (50, 0)))), some (.inl beat), none, none]) (st' := [.inl (-100000)]) (M' := (P, g, r0, n)) ok_X11_tilt true 1 rfl trivial ?_
    refine aj_ret (r := some (.inl (-100000))) (ax_dec2 (i := .ireturn) (n := 1) ok_X11_tilt rfl) ⟨?_, ?_, by decide, by decide⟩ rfl
    · first | (exfalso; omega) | exact ⟨ax_si (by unfold fTil; (repeat first | rw [if_pos (by omega)] | rw [if_neg (by omega)] | rw [bI_t (by omega)] | rw [bI_f (by omega)])), _, rfl, wKp.rf⟩
    · exact ax_ro_i

set_option maxRecDepth 100000 in
set_option maxHeartbeats 4000000 in
theorem sp_manyOff_135 (v : Int) (P : Nat → Int → Prop) (g : Nat → Int → Int → Int) (r0 : Nat → Int → Int → Option (Nat × Int)) (n : Nat → Int → Int) (hn : mLen n) (h2 : 0 ≤ g 50 0 2 ∧ g 50 0 2 ≤ 7) : ax_S yX11_manyOff cX11_manyOff 5 (some FieldType.int) 0 0 0 [.inr (.inr (some (50, 0))), .inr (.inr (some (135, 0))), .inl v] (P, g, r0, n) (fun r M' => r = some (.inl (wCnt (g 135 0) (g 50 0 2) v)) ∧ M' = (P, g, r0, n)) := by
  have n1 : n 135 0 = 7 := hn (135, 7) (by decide)
  refine ax_S_of (own := 11) (by decide) rfl (fun h => absurd h (by decide)) rfl (Nat.le_of_ble_eq_true rfl) ?_
  change ax_J _ _ _ _ _ _ _ _ _ _ [some (.inr (.inr (some (50, 0)))), some (.inr (.inr (some (135, 0)))), some (.inl v), none, none] _ _
  refine aj_run (C := True) (pc' := 5) (la' := [some (.inr (.inr (some (50, 0)))), some (.inr (.inr (some (135, 0)))), some (.inl v), some (.inl 0), some (.inl 0)]) (st' := []) (M' := (P, g, r0, n)) ok_X11_manyOff true 4 rfl trivial ?_
  refine aj_cast (congrArg (fun (z9 : Int) => ([some (.inr (.inr (some (50, 0)))), some (.inr (.inr (some (135, 0)))), some (.inl v), some (.inl z9), some (.inl 0)] : List (Option ax_V))) (show 0 = wCnt (g 135 0) 0 v from by rfl)) rfl rfl ?_
  refine aj_loop (σ := (Int)) (fun xL => 0 ≤ xL ∧ xL ≤ g 50 0 2) (fun xL => (g 50 0 2 - xL).toNat) (fun xL => [some (.inr (.inr (some (50, 0)))), some (.inr (.inr (some (135, 0)))), some (.inl v), some (.inl (wCnt (g 135 0) xL v)), some (.inl xL)]) (fun xL => []) (fun xL => (P, g, r0, n)) ?_ (0) ?_
  rotate_left
  · omega
  rintro a hI ih5
  try dsimp only at hI ih5
  obtain ⟨i1, i2⟩ := hI
  change ax_J _ _ _ _ _ _ _ _ _ 5 [some (.inr (.inr (some (50, 0)))), some (.inr (.inr (some (135, 0)))), some (.inl v), some (.inl (wCnt (g 135 0) a v)), some (.inl a)] [] (P, g, r0, n)
  have hc := wCnt_in (row := g 135 0) (v := v) i1
  refine aj_run (C := True) (pc' := 11) (la' := [some (.inr (.inr (some (50, 0)))), some (.inr (.inr (some (135, 0)))), some (.inl v), some (.inl (wCnt (g 135 0) a v)), some (.inl a)]) (st' := [.inl (g 50 0 2), .inl a]) (M' := (P, g, r0, n)) ok_X11_manyOff true 3 rfl trivial ?_
  refine aj_icmp_ge (tgt := 36) (ax_dec2 (i := .if_icmp .ge 25) (n := 3) ok_X11_manyOff rfl) (by decide) (fun c1 => ?_) (fun c1 => ?_)
  · refine aj_run (C := True) (pc' := 37) (la' := [some (.inr (.inr (some (50, 0)))), some (.inr (.inr (some (135, 0)))), some (.inl v), some (.inl (wCnt (g 135 0) a v)), some (.inl a)]) (st' := [.inl (wCnt (g 135 0) a v)]) (M' := (P, g, r0, n)) ok_X11_manyOff true 1 rfl trivial ?_
    refine aj_ret (r := some (.inl (wCnt (g 135 0) a v))) (ax_dec2 (i := .ireturn) (n := 1) ok_X11_manyOff rfl) ⟨?_, ?_, by decide, by decide⟩ rfl
    · exact ⟨ax_si (by rw [show g 50 0 2 = a by omega]), rfl⟩
    · exact ax_ro_i
  · refine aj_run (C := (0 ≤ a ∧ a < n 135 0) ∧ True) (pc' := 20) (la' := [some (.inr (.inr (some (50, 0)))), some (.inr (.inr (some (135, 0)))), some (.inl v), some (.inl (wCnt (g 135 0) a v)), some (.inl a)]) (st' := [.inl v, .inl (g 135 0 a), .inl (wCnt (g 135 0) a v)]) (M' := (P, g, r0, n)) ok_X11_manyOff true 5 rfl (by refine ⟨?_, trivial⟩ <;> (omega)) ?_
    refine aj_icmp_ne (tgt := 27) (ax_dec2 (i := .if_icmp .ne 7) (n := 3) ok_X11_manyOff rfl) (by decide) (fun c2 => ?_) (fun c2 => ?_)
    · refine aj_run (C := (-2147483648 ≤ (wCnt (g 135 0) a v) + 0 ∧ (wCnt (g 135 0) a v) + 0 ≤ 2147483647) ∧ (-2147483648 ≤ a + 1 ∧ a + 1 ≤ 2147483647) ∧ True) (pc' := 5) (la' := [some (.inr (.inr (some (50, 0)))), some (.inr (.inr (some (135, 0)))), some (.inl v), some (.inl ((wCnt (g 135 0) a v) + 0)), some (.inl (a + 1))]) (st' := []) (M' := (P, g, r0, n)) ok_X11_manyOff true 5 rfl (by refine ⟨?_, ?_, trivial⟩ <;> (omega)) ?_
      refine aj_cast (congrArg (fun (z9 : Int) => ([some (.inr (.inr (some (50, 0)))), some (.inr (.inr (some (135, 0)))), some (.inl v), some (.inl z9), some (.inl (a + 1))] : List (Option ax_V))) (show (wCnt (g 135 0) a v) + 0 = wCnt (g 135 0) (a + 1) v from by (rw [wCnt_s i1]; first | rw [bI_t (by omega)] | rw [bI_f (by omega)]; try omega))) rfl rfl ?_
      refine ih5 (a + 1) ?_ ?_
      · omega
      · omega
    · refine aj_run (C := (-2147483648 ≤ (wCnt (g 135 0) a v) + 1 ∧ (wCnt (g 135 0) a v) + 1 ≤ 2147483647) ∧ (-2147483648 ≤ a + 1 ∧ a + 1 ≤ 2147483647) ∧ True) (pc' := 5) (la' := [some (.inr (.inr (some (50, 0)))), some (.inr (.inr (some (135, 0)))), some (.inl v), some (.inl ((wCnt (g 135 0) a v) + 1)), some (.inl (a + 1))]) (st' := []) (M' := (P, g, r0, n)) ok_X11_manyOff true 6 rfl (by refine ⟨?_, ?_, trivial⟩ <;> (omega)) ?_
      refine aj_cast (congrArg (fun (z9 : Int) => ([some (.inr (.inr (some (50, 0)))), some (.inr (.inr (some (135, 0)))), some (.inl v), some (.inl z9), some (.inl (a + 1))] : List (Option ax_V))) (show (wCnt (g 135 0) a v) + 1 = wCnt (g 135 0) (a + 1) v from by (rw [wCnt_s i1]; first | rw [bI_t (by omega)] | rw [bI_f (by omega)]; try omega))) rfl rfl ?_
      refine ih5 (a + 1) ?_ ?_
      · omega
      · omega

set_option maxRecDepth 100000 in
set_option maxHeartbeats 4000000 in
theorem sp_manyOff_143 (v : Int) (P : Nat → Int → Prop) (g : Nat → Int → Int → Int) (r0 : Nat → Int → Int → Option (Nat × Int)) (n : Nat → Int → Int) (hn : mLen n) (h2 : 0 ≤ g 50 0 2 ∧ g 50 0 2 ≤ 7) : ax_S yX11_manyOff cX11_manyOff 5 (some FieldType.int) 0 0 0 [.inr (.inr (some (50, 0))), .inr (.inr (some (143, 0))), .inl v] (P, g, r0, n) (fun r M' => r = some (.inl (wCnt (g 143 0) (g 50 0 2) v)) ∧ M' = (P, g, r0, n)) := by
  have n1 : n 143 0 = 7 := hn (143, 7) (by decide)
  refine ax_S_of (own := 11) (by decide) rfl (fun h => absurd h (by decide)) rfl (Nat.le_of_ble_eq_true rfl) ?_
  change ax_J _ _ _ _ _ _ _ _ _ _ [some (.inr (.inr (some (50, 0)))), some (.inr (.inr (some (143, 0)))), some (.inl v), none, none] _ _
  refine aj_run (C := True) (pc' := 5) (la' := [some (.inr (.inr (some (50, 0)))), some (.inr (.inr (some (143, 0)))), some (.inl v), some (.inl 0), some (.inl 0)]) (st' := []) (M' := (P, g, r0, n)) ok_X11_manyOff true 4 rfl trivial ?_
  refine aj_cast (congrArg (fun (z9 : Int) => ([some (.inr (.inr (some (50, 0)))), some (.inr (.inr (some (143, 0)))), some (.inl v), some (.inl z9), some (.inl 0)] : List (Option ax_V))) (show 0 = wCnt (g 143 0) 0 v from by rfl)) rfl rfl ?_
  refine aj_loop (σ := (Int)) (fun xL => 0 ≤ xL ∧ xL ≤ g 50 0 2) (fun xL => (g 50 0 2 - xL).toNat) (fun xL => [some (.inr (.inr (some (50, 0)))), some (.inr (.inr (some (143, 0)))), some (.inl v), some (.inl (wCnt (g 143 0) xL v)), some (.inl xL)]) (fun xL => []) (fun xL => (P, g, r0, n)) ?_ (0) ?_
  rotate_left
  · omega
  rintro a hI ih5
  try dsimp only at hI ih5
  obtain ⟨i1, i2⟩ := hI
  change ax_J _ _ _ _ _ _ _ _ _ 5 [some (.inr (.inr (some (50, 0)))), some (.inr (.inr (some (143, 0)))), some (.inl v), some (.inl (wCnt (g 143 0) a v)), some (.inl a)] [] (P, g, r0, n)
  have hc := wCnt_in (row := g 143 0) (v := v) i1
  refine aj_run (C := True) (pc' := 11) (la' := [some (.inr (.inr (some (50, 0)))), some (.inr (.inr (some (143, 0)))), some (.inl v), some (.inl (wCnt (g 143 0) a v)), some (.inl a)]) (st' := [.inl (g 50 0 2), .inl a]) (M' := (P, g, r0, n)) ok_X11_manyOff true 3 rfl trivial ?_
  refine aj_icmp_ge (tgt := 36) (ax_dec2 (i := .if_icmp .ge 25) (n := 3) ok_X11_manyOff rfl) (by decide) (fun c1 => ?_) (fun c1 => ?_)
  · refine aj_run (C := True) (pc' := 37) (la' := [some (.inr (.inr (some (50, 0)))), some (.inr (.inr (some (143, 0)))), some (.inl v), some (.inl (wCnt (g 143 0) a v)), some (.inl a)]) (st' := [.inl (wCnt (g 143 0) a v)]) (M' := (P, g, r0, n)) ok_X11_manyOff true 1 rfl trivial ?_
    refine aj_ret (r := some (.inl (wCnt (g 143 0) a v))) (ax_dec2 (i := .ireturn) (n := 1) ok_X11_manyOff rfl) ⟨?_, ?_, by decide, by decide⟩ rfl
    · exact ⟨ax_si (by rw [show g 50 0 2 = a by omega]), rfl⟩
    · exact ax_ro_i
  · refine aj_run (C := (0 ≤ a ∧ a < n 143 0) ∧ True) (pc' := 20) (la' := [some (.inr (.inr (some (50, 0)))), some (.inr (.inr (some (143, 0)))), some (.inl v), some (.inl (wCnt (g 143 0) a v)), some (.inl a)]) (st' := [.inl v, .inl (g 143 0 a), .inl (wCnt (g 143 0) a v)]) (M' := (P, g, r0, n)) ok_X11_manyOff true 5 rfl (by refine ⟨?_, trivial⟩ <;> (omega)) ?_
    refine aj_icmp_ne (tgt := 27) (ax_dec2 (i := .if_icmp .ne 7) (n := 3) ok_X11_manyOff rfl) (by decide) (fun c2 => ?_) (fun c2 => ?_)
    · refine aj_run (C := (-2147483648 ≤ (wCnt (g 143 0) a v) + 0 ∧ (wCnt (g 143 0) a v) + 0 ≤ 2147483647) ∧ (-2147483648 ≤ a + 1 ∧ a + 1 ≤ 2147483647) ∧ True) (pc' := 5) (la' := [some (.inr (.inr (some (50, 0)))), some (.inr (.inr (some (143, 0)))), some (.inl v), some (.inl ((wCnt (g 143 0) a v) + 0)), some (.inl (a + 1))]) (st' := []) (M' := (P, g, r0, n)) ok_X11_manyOff true 5 rfl (by refine ⟨?_, ?_, trivial⟩ <;> (omega)) ?_
      refine aj_cast (congrArg (fun (z9 : Int) => ([some (.inr (.inr (some (50, 0)))), some (.inr (.inr (some (143, 0)))), some (.inl v), some (.inl z9), some (.inl (a + 1))] : List (Option ax_V))) (show (wCnt (g 143 0) a v) + 0 = wCnt (g 143 0) (a + 1) v from by (rw [wCnt_s i1]; first | rw [bI_t (by omega)] | rw [bI_f (by omega)]; try omega))) rfl rfl ?_
      refine ih5 (a + 1) ?_ ?_
      · omega
      · omega
    · refine aj_run (C := (-2147483648 ≤ (wCnt (g 143 0) a v) + 1 ∧ (wCnt (g 143 0) a v) + 1 ≤ 2147483647) ∧ (-2147483648 ≤ a + 1 ∧ a + 1 ≤ 2147483647) ∧ True) (pc' := 5) (la' := [some (.inr (.inr (some (50, 0)))), some (.inr (.inr (some (143, 0)))), some (.inl v), some (.inl ((wCnt (g 143 0) a v) + 1)), some (.inl (a + 1))]) (st' := []) (M' := (P, g, r0, n)) ok_X11_manyOff true 6 rfl (by refine ⟨?_, ?_, trivial⟩ <;> (omega)) ?_
      refine aj_cast (congrArg (fun (z9 : Int) => ([some (.inr (.inr (some (50, 0)))), some (.inr (.inr (some (143, 0)))), some (.inl v), some (.inl z9), some (.inl (a + 1))] : List (Option ax_V))) (show (wCnt (g 143 0) a v) + 1 = wCnt (g 143 0) (a + 1) v from by (rw [wCnt_s i1]; first | rw [bI_t (by omega)] | rw [bI_f (by omega)]; try omega))) rfl rfl ?_
      refine ih5 (a + 1) ?_ ?_
      · omega
      · omega

set_option maxRecDepth 100000 in
set_option maxHeartbeats 4000000 in
theorem sp_through (x w : Int) (P : Nat → Int → Prop) (g : Nat → Int → Int → Int) (r0 : Nat → Int → Int → Option (Nat × Int)) (n : Nat → Int → Int) (hn : mLen n) (hs : wOs g) : ax_S yX11_through cX11_through 5 (some FieldType.int) 7 0 0 [.inr (.inr (some (50, 0))), .inl x, .inl w] (P, g, r0, n) (fun r M' => r = some (.inl (fThr g x w)) ∧ ∃ g', M' = (P, g', r0, n) ∧ wKp g' g) := by
  have n143 : n 143 0 = 7 := hn (143, 7) (by decide)
  have n135 : n 135 0 = 7 := hn (135, 7) (by decide)
  have h2 := hs.2.2.1
  refine ax_S_of (own := 11) (by decide) rfl (fun h => absurd h (by decide)) rfl (Nat.le_of_ble_eq_true rfl) ?_
  change ax_J _ _ _ _ _ _ _ _ _ _ [some (.inr (.inr (some (50, 0)))), some (.inl x), some (.inl w), none, none] _ _
  refine aj_run (C := True) (pc' := 3) (la' := [some (.inr (.inr (some (50, 0)))), some (.inl x), some (.inl w), none, none]) (st' := [.inl 2, .inl 0, .inl w]) (M' := (P, g, r0, n)) ok_X11_through true 3 rfl trivial ?_
  refine aj_callS (av := [.inl w, .inl 0, .inl 2]) (st := []) cal_X11_isIn lk_11_7 stc_X11_isIn (sp_isIn w 0 2 _ _ _ _) ⟨by decide, by decide, by decide, by decide⟩ (Nat.le_of_ble_eq_true rfl) (ax_dec2 (i := .invokestatic 7) (n := 3) ok_X11_through rfl) (fun r M' hq => ?_)
  obtain ⟨rfl, rfl⟩ := hq
  change ax_J _ _ _ _ _ _ _ _ _ 6 [some (.inr (.inr (some (50, 0)))), some (.inl x), some (.inl w), none, none] [.inl (bI (0 ≤ w ∧ w ≤ 2))] (P, g, r0, n)
  refine aj_if_eq (tgt := 21) (ax_dec2 (i := .ifCond .eq 15) (n := 3) ok_X11_through rfl) (by decide) (fun c1 => ?_) (fun c1 => ?_)
  · replace c1 := bI_e0 c1
    refine aj_run (C := True) (pc' := 23) (la' := [some (.inr (.inr (some (50, 0)))), some (.inl x), some (.inl w), none, none]) (st' := [.inl (-2)]) (M' := (P, g, r0, n)) ok_X11_through true 1 rfl trivial ?_
    refine aj_ret (r := some (.inl (-2))) (ax_dec2 (i := .ireturn) (n := 1) ok_X11_through rfl) ⟨?_, ?_, by decide, by decide⟩ rfl
    · first | (exfalso; omega) | exact ⟨ax_si (by unfold fThr; (repeat first | rw [if_pos (by omega)] | rw [if_neg (by omega)] | rw [bI_t (by omega)] | rw [bI_f (by omega)])), _, rfl, wKp.rf⟩
    · exact ax_ro_i
  · replace c1 := bI_n0 c1
    refine aj_run (C := True) (pc' := 10) (la' := [some (.inr (.inr (some (50, 0)))), some (.inl x), some (.inl w), none, none]) (st' := [.inl w]) (M' := (P, g, r0, n)) ok_X11_through true 1 rfl trivial ?_
    refine aj_if_ne (tgt := 24) (ax_dec2 (i := .ifCond .ne 14) (n := 3) ok_X11_through rfl) (by decide) (fun c2 => ?_) (fun c2 => ?_)
    · refine aj_run (C := True) (pc' := 26) (la' := [some (.inr (.inr (some (50, 0)))), some (.inl x), some (.inl w), none, none]) (st' := [.inr (.inr (some (50, 0))), .inr (.inr (some (50, 0)))]) (M' := (P, g, r0, n)) ok_X11_through true 2 rfl trivial ?_
      refine aj_callV (av := []) (st := [.inr (.inr (some (50, 0)))]) (f := 50) (o := 0) (ci := 11) cal_X11_asSet lk_11_277 ins_X11_asSet rfl sel_X11_asSet rfl (fun c9 h9 _ => by simpa [ax_ok] using h9) (sp_asSet _ _ _ _ hn hs.2.2.1) ⟨by decide, by decide, by decide, by decide⟩ (Nat.le_of_ble_eq_true rfl) (ax_dec2 (i := .invokevirtual 277) (n := 3) ok_X11_through rfl) (fun r M' hq => ?_)
      obtain ⟨rfl, rfl⟩ := hq
      change ax_J _ _ _ _ _ _ _ _ _ 29 [some (.inr (.inr (some (50, 0)))), some (.inl x), some (.inl w), none, none] [.inl (wSet (g 105 0) (g 50 0 2)), .inr (.inr (some (50, 0)))] (P, g, r0, n)
      refine aj_callV (av := [.inl (wSet (g 105 0) (g 50 0 2))]) (st := []) (f := 50) (o := 0) (ci := 11) cal_X11_goAll lk_11_282 ins_X11_goAll rfl sel_X11_goAll rfl (fun c9 h9 _ => by simpa [ax_ok] using h9) (sp_goAll (wSet (g 105 0) (g 50 0 2)) _ _ _ _ hn hs) ⟨by decide, by decide, by decide, by decide⟩ (Nat.le_of_ble_eq_true rfl) (ax_dec2 (i := .invokevirtual 282) (n := 3) ok_X11_through rfl) (fun r M' hq => ?_)
      obtain ⟨rfl, g2, rfl, hg2, kpg2⟩ := hq
      have hG2 : wEq g2 (gA g (gAs g)) := hg2
      have zs2 : g2 50 0 2 = g 50 0 2 := kpg2.2 0 2 (by omega)
      change ax_J _ _ _ _ _ _ _ _ _ 32 [some (.inr (.inr (some (50, 0)))), some (.inl x), some (.inl w), none, none] [] (P, g2, r0, n)
      refine aj_run (C := True) (pc' := 34) (la' := [some (.inr (.inr (some (50, 0)))), some (.inl x), some (.inl w), some (.inl 0), none]) (st' := []) (M' := (P, g2, r0, n)) ok_X11_through true 2 rfl trivial ?_
      refine aj_cast rfl rfl (congrArg (fun z9 => ((P, z9, r0, n) : ax_Mm)) (show g2 = wMv g2 135 143 0 from by exact wMv_0)) ?_
      refine aj_loop (σ := (Int)) (fun xL => 0 ≤ xL ∧ xL ≤ g2 50 0 2) (fun xL => (g2 50 0 2 - xL).toNat) (fun xL => [some (.inr (.inr (some (50, 0)))), some (.inl x), some (.inl w), some (.inl xL), none]) (fun xL => []) (fun xL => (P, wMv g2 135 143 xL, r0, n)) ?_ (0) ?_
      rotate_left
      · omega
      rintro a hI ih34
      try dsimp only at hI ih34
      obtain ⟨i1, i2⟩ := hI
      change ax_J _ _ _ _ _ _ _ _ _ 34 [some (.inr (.inr (some (50, 0)))), some (.inl x), some (.inl w), some (.inl a), none] [] (P, wMv g2 135 143 a, r0, n)
      refine aj_run (C := True) (pc' := 39) (la' := [some (.inr (.inr (some (50, 0)))), some (.inl x), some (.inl w), some (.inl a), none]) (st' := [.inl (g2 50 0 2), .inl a]) (M' := (P, wMv g2 135 143 a, r0, n)) ok_X11_through true 3 rfl trivial ?_
      refine aj_icmp_ge (tgt := 60) (ax_dec2 (i := .if_icmp .ge 21) (n := 3) ok_X11_through rfl) (by decide) (fun c3 => ?_) (fun c3 => ?_)
      · have kp3 : wKp (wMv g2 135 143 a) g := wKp.tr ⟨fun f z1 z2 => funext fun o => funext fun k => by unfold wMv; rw [if_neg (by omega)], fun o k z => by unfold wMv; rw [if_neg (by omega)]⟩ kpg2
        refine aj_run (C := True) (pc' := 61) (la' := [some (.inr (.inr (some (50, 0)))), some (.inl x), some (.inl w), some (.inl a), none]) (st' := [.inr (.inr (some (50, 0)))]) (M' := (P, wMv g2 135 143 a, r0, n)) ok_X11_through true 1 rfl trivial ?_
        refine aj_callV (av := []) (st := []) (f := 50) (o := 0) (ci := 11) cal_X11_goThrough lk_11_291 ins_X11_goThrough rfl sel_X11_goThrough rfl (fun c9 h9 _ => by simpa [ax_ok] using h9) (sp_goThrough _ _ _ _ hn (wOs_k kp3 hs)) ⟨by decide, by decide, by decide, by decide⟩ (Nat.le_of_ble_eq_true rfl) (ax_dec2 (i := .invokevirtual 291) (n := 3) ok_X11_through rfl) (fun r M' hq => ?_)
        obtain ⟨rfl, g4, rfl, hg4, kpg4⟩ := hq
        have hG4 : wEd g4 (gTh g) := wEd.tr (wEd_e hg4) (gTh_k (wKr_p kp3))
        have kp4 : wKp g4 g := kpg4.tr kp3
        have zs4 : g4 50 0 2 = g 50 0 2 := kp4.2 0 2 (by omega)
        have z143 : ∀ k, 0 ≤ k → k < g 50 0 2 → g4 143 0 k = gA g (gAs g) 135 0 k := fun k z1 z2 => by rw [hg4 143 rfl, (it_ss _).1 143 (by decide) (by omega)]; change wMv g2 135 143 a 143 0 k = _; unfold wMv; rw [if_pos ⟨rfl, rfl, z1, by omega⟩, hG2 135 rfl]
        have z135 : ∀ k, 0 ≤ k → k < g 50 0 2 → g4 135 0 k = gTh g 135 0 k := fun k z1 z2 => hG4.2.2 135 k (by decide) (by decide) z1 (by rw [show gTh g 50 0 2 = g 50 0 2 from hG4.sz.symm.trans zs4]; exact z2)
        change ax_J _ _ _ _ _ _ _ _ _ 64 [some (.inr (.inr (some (50, 0)))), some (.inl x), some (.inl w), some (.inl a), none] [] (P, g4, r0, n)
        refine aj_run (C := True) (pc' := 69) (la' := [some (.inr (.inr (some (50, 0)))), some (.inl x), some (.inl w), some (.inl 1), some (.inl 0)]) (st' := []) (M' := (P, g4, r0, n)) ok_X11_through true 4 rfl trivial ?_
        refine aj_cast (congrArg (fun (z9 : Int) => ([some (.inr (.inr (some (50, 0)))), some (.inl x), some (.inl w), some (.inl z9), some (.inl 0)] : List (Option ax_V))) (show 1 = wLik (g4 143 0) (g4 135 0) (g4 50 0 2) 0 from by rfl)) rfl rfl ?_
        refine aj_loop (σ := (Int)) (fun xL => 0 ≤ xL ∧ xL ≤ g4 50 0 2) (fun xL => (g4 50 0 2 - xL).toNat) (fun xL => [some (.inr (.inr (some (50, 0)))), some (.inl x), some (.inl w), some (.inl (wLik (g4 143 0) (g4 135 0) (g4 50 0 2) xL)), some (.inl xL)]) (fun xL => []) (fun xL => (P, g4, r0, n)) ?_ (0) ?_
        rotate_left
        · omega
        rintro b hI ih69
        try dsimp only at hI ih69
        obtain ⟨j1, j2⟩ := hI
        change ax_J _ _ _ _ _ _ _ _ _ 69 [some (.inr (.inr (some (50, 0)))), some (.inl x), some (.inl w), some (.inl (wLik (g4 143 0) (g4 135 0) (g4 50 0 2) b)), some (.inl b)] [] (P, g4, r0, n)
        refine aj_run (C := True) (pc' := 75) (la' := [some (.inr (.inr (some (50, 0)))), some (.inl x), some (.inl w), some (.inl (wLik (g4 143 0) (g4 135 0) (g4 50 0 2) b)), some (.inl b)]) (st' := [.inl (g4 50 0 2), .inl b]) (M' := (P, g4, r0, n)) ok_X11_through true 3 rfl trivial ?_
        refine aj_icmp_ge (tgt := 127) (ax_dec2 (i := .if_icmp .ge 52) (n := 3) ok_X11_through rfl) (by decide) (fun c4 => ?_) (fun c4 => ?_)
        · refine aj_run (C := True) (pc' := 128) (la' := [some (.inr (.inr (some (50, 0)))), some (.inl x), some (.inl w), some (.inl (wLik (g4 143 0) (g4 135 0) (g4 50 0 2) b)), some (.inl b)]) (st' := [.inl w]) (M' := (P, g4, r0, n)) ok_X11_through true 1 rfl trivial ?_
          refine aj_if_ne (tgt := 140) (ax_dec2 (i := .ifCond .ne 12) (n := 3) ok_X11_through rfl) (by decide) (fun c5 => ?_) (fun c5 => ?_)
          · refine aj_run (C := True) (pc' := 142) (la' := [some (.inr (.inr (some (50, 0)))), some (.inl x), some (.inl w), some (.inl (wLik (g4 143 0) (g4 135 0) (g4 50 0 2) b)), some (.inl b)]) (st' := [.inl 1, .inl w]) (M' := (P, g4, r0, n)) ok_X11_through true 2 rfl trivial ?_
            refine aj_icmp_ne (tgt := 152) (ax_dec2 (i := .if_icmp .ne 10) (n := 3) ok_X11_through rfl) (by decide) (fun c6 => ?_) (fun c6 => ?_)
            · refine aj_run (C := True) (pc' := 153) (la' := [some (.inr (.inr (some (50, 0)))), some (.inl x), some (.inl w), some (.inl (wLik (g4 143 0) (g4 135 0) (g4 50 0 2) b)), some (.inl b)]) (st' := [.inl (wLik (g4 143 0) (g4 135 0) (g4 50 0 2) b)]) (M' := (P, g4, r0, n)) ok_X11_through true 1 rfl trivial ?_
              refine aj_if_eq (tgt := 160) (ax_dec2 (i := .ifCond .eq 7) (n := 3) ok_X11_through rfl) (by decide) (fun c7 => ?_) (fun c7 => ?_)
              · refine aj_run (C := True) (pc' := 161) (la' := [some (.inr (.inr (some (50, 0)))), some (.inl x), some (.inl w), some (.inl (wLik (g4 143 0) (g4 135 0) (g4 50 0 2) b)), some (.inl b)]) (st' := [.inl 0]) (M' := (P, g4, r0, n)) ok_X11_through true 1 rfl trivial ?_
                refine aj_ret (r := some (.inl 0)) (ax_dec2 (i := .ireturn) (n := 1) ok_X11_through rfl) ⟨?_, ?_, by decide, by decide⟩ rfl
                · first | (exfalso; omega) | exact ⟨ax_si (by unfold fThr; (repeat first | rw [if_pos (by omega)] | rw [if_neg (by omega)] | rw [bI_t (by omega)] | rw [bI_f (by omega)]); first | exact z135 _ (by omega) (by omega) | exact hG4.v 40 | (have e9 : b = g4 50 0 2 := (by omega); subst e9; have hk9 := wLik_c (k := g4 50 0 2) (Int.le_refl _) (fun q z1 z2 => z143 q z1 (by omega)) (fun q z1 z2 => z135 q z1 (by omega)); have hk8 := wLik_01 (r1 := g4 143 0) (r2 := g4 135 0) (m := g4 50 0 2) (k := g4 50 0 2); rw [← zs4]; omega)), _, rfl, kp4⟩
                · exact ax_ro_i
              · refine aj_run (C := True) (pc' := 161) (la' := [some (.inr (.inr (some (50, 0)))), some (.inl x), some (.inl w), some (.inl (wLik (g4 143 0) (g4 135 0) (g4 50 0 2) b)), some (.inl b)]) (st' := [.inl 1]) (M' := (P, g4, r0, n)) ok_X11_through true 2 rfl trivial ?_
                refine aj_ret (r := some (.inl 1)) (ax_dec2 (i := .ireturn) (n := 1) ok_X11_through rfl) ⟨?_, ?_, by decide, by decide⟩ rfl
                · first | (exfalso; omega) | exact ⟨ax_si (by unfold fThr; (repeat first | rw [if_pos (by omega)] | rw [if_neg (by omega)] | rw [bI_t (by omega)] | rw [bI_f (by omega)]); first | exact z135 _ (by omega) (by omega) | exact hG4.v 40 | (have e9 : b = g4 50 0 2 := (by omega); subst e9; have hk9 := wLik_c (k := g4 50 0 2) (Int.le_refl _) (fun q z1 z2 => z143 q z1 (by omega)) (fun q z1 z2 => z135 q z1 (by omega)); have hk8 := wLik_01 (r1 := g4 143 0) (r2 := g4 135 0) (m := g4 50 0 2) (k := g4 50 0 2); rw [← zs4]; omega)), _, rfl, kp4⟩
                · exact ax_ro_i
            · refine aj_run (C := True) (pc' := 161) (la' := [some (.inr (.inr (some (50, 0)))), some (.inl x), some (.inl w), some (.inl (wLik (g4 143 0) (g4 135 0) (g4 50 0 2) b)), some (.inl b)]) (st' := [.inl (g4 50 0 40)]) (M' := (P, g4, r0, n)) ok_X11_through true 3 rfl trivial ?_
              refine aj_ret (r := some (.inl (g4 50 0 40))) (ax_dec2 (i := .ireturn) (n := 1) ok_X11_through rfl) ⟨?_, ?_, by decide, by decide⟩ rfl
              · first | (exfalso; omega) | exact ⟨ax_si (by unfold fThr; (repeat first | rw [if_pos (by omega)] | rw [if_neg (by omega)] | rw [bI_t (by omega)] | rw [bI_f (by omega)]); first | exact z135 _ (by omega) (by omega) | exact hG4.v 40 | (have e9 : b = g4 50 0 2 := (by omega); subst e9; have hk9 := wLik_c (k := g4 50 0 2) (Int.le_refl _) (fun q z1 z2 => z143 q z1 (by omega)) (fun q z1 z2 => z135 q z1 (by omega)); have hk8 := wLik_01 (r1 := g4 143 0) (r2 := g4 135 0) (m := g4 50 0 2) (k := g4 50 0 2); rw [← zs4]; omega)), _, rfl, kp4⟩
              · exact ax_ro_i
          · exact absurd c5 (by omega)
        · refine aj_run (C := True) (pc' := 79) (la' := [some (.inr (.inr (some (50, 0)))), some (.inl x), some (.inl w), some (.inl (wLik (g4 143 0) (g4 135 0) (g4 50 0 2) b)), some (.inl b)]) (st' := [.inl (wLik (g4 143 0) (g4 135 0) (g4 50 0 2) b)]) (M' := (P, g4, r0, n)) ok_X11_through true 1 rfl trivial ?_
          refine aj_if_eq (tgt := 119) (ax_dec2 (i := .ifCond .eq 40) (n := 3) ok_X11_through rfl) (by decide) (fun c8 => ?_) (fun c8 => ?_)
          · refine aj_run (C := (-2147483648 ≤ b + 1 ∧ b + 1 ≤ 2147483647) ∧ True) (pc' := 69) (la' := [some (.inr (.inr (some (50, 0)))), some (.inl x), some (.inl w), some (.inl 0), some (.inl (b + 1))]) (st' := []) (M' := (P, g4, r0, n)) ok_X11_through true 4 rfl (by refine ⟨?_, trivial⟩ <;> (omega)) ?_
            refine aj_cast (congrArg (fun (z9 : Int) => ([some (.inr (.inr (some (50, 0)))), some (.inl x), some (.inl w), some (.inl z9), some (.inl (b + 1))] : List (Option ax_V))) (show 0 = wLik (g4 143 0) (g4 135 0) (g4 50 0 2) (b + 1) from by (rw [wLik_s j1]; first | rw [if_pos (by omega)] | rw [if_neg (by omega)]))) rfl rfl ?_
            refine ih69 (b + 1) ?_ ?_
            · omega
            · omega
          · refine aj_run (C := (0 ≤ b ∧ b < n 135 0) ∧ True) (pc' := 94) (la' := [some (.inr (.inr (some (50, 0)))), some (.inl x), some (.inl w), some (.inl (wLik (g4 143 0) (g4 135 0) (g4 50 0 2) b)), some (.inl b)]) (st' := [.inl (g4 135 0 b), .inr (.inr (some (135, 0))), .inr (.inr (some (50, 0)))]) (M' := (P, g4, r0, n)) ok_X11_through true 7 rfl (by refine ⟨?_, trivial⟩ <;> (omega)) ?_
            refine aj_callV (av := [.inr (.inr (some (135, 0))), .inl (g4 135 0 b)]) (st := []) (f := 50) (o := 0) (ci := 11) cal_X11_manyOff lk_11_294 ins_X11_manyOff rfl sel_X11_manyOff rfl (fun c9 h9 _ => by simpa [ax_ok] using h9) (sp_manyOff_135 (g4 135 0 b) _ _ _ _ hn (by rw [zs4]; exact h2)) ⟨by decide, by decide, by decide, by decide⟩ (Nat.le_of_ble_eq_true rfl) (ax_dec2 (i := .invokevirtual 294) (n := 3) ok_X11_through rfl) (fun r M' hq => ?_)
            obtain ⟨rfl, rfl⟩ := hq
            change ax_J _ _ _ _ _ _ _ _ _ 97 [some (.inr (.inr (some (50, 0)))), some (.inl x), some (.inl w), some (.inl (wLik (g4 143 0) (g4 135 0) (g4 50 0 2) b)), some (.inl b)] [.inl (wCnt (g4 135 0) (g4 50 0 2) (g4 135 0 b))] (P, g4, r0, n)
            refine aj_run (C := (0 ≤ b ∧ b < n 135 0) ∧ True) (pc' := 109) (la' := [some (.inr (.inr (some (50, 0)))), some (.inl x), some (.inl w), some (.inl (wLik (g4 143 0) (g4 135 0) (g4 50 0 2) b)), some (.inl b)]) (st' := [.inl (g4 135 0 b), .inr (.inr (some (143, 0))), .inr (.inr (some (50, 0))), .inl (wCnt (g4 135 0) (g4 50 0 2) (g4 135 0 b))]) (M' := (P, g4, r0, n)) ok_X11_through true 7 rfl (by refine ⟨?_, trivial⟩ <;> (omega)) ?_
            refine aj_callV (av := [.inr (.inr (some (143, 0))), .inl (g4 135 0 b)]) (st := [.inl (wCnt (g4 135 0) (g4 50 0 2) (g4 135 0 b))]) (f := 50) (o := 0) (ci := 11) cal_X11_manyOff lk_11_294 ins_X11_manyOff rfl sel_X11_manyOff rfl (fun c9 h9 _ => by simpa [ax_ok] using h9) (sp_manyOff_143 (g4 135 0 b) _ _ _ _ hn (by rw [zs4]; exact h2)) ⟨by decide, by decide, by decide, by decide⟩ (Nat.le_of_ble_eq_true rfl) (ax_dec2 (i := .invokevirtual 294) (n := 3) ok_X11_through rfl) (fun r M' hq => ?_)
            obtain ⟨rfl, rfl⟩ := hq
            change ax_J _ _ _ _ _ _ _ _ _ 112 [some (.inr (.inr (some (50, 0)))), some (.inl x), some (.inl w), some (.inl (wLik (g4 143 0) (g4 135 0) (g4 50 0 2) b)), some (.inl b)] [.inl (wCnt (g4 143 0) (g4 50 0 2) (g4 135 0 b)), .inl (wCnt (g4 135 0) (g4 50 0 2) (g4 135 0 b))] (P, g4, r0, n)
            refine aj_icmp_ne (tgt := 119) (ax_dec2 (i := .if_icmp .ne 7) (n := 3) ok_X11_through rfl) (by decide) (fun c9 => ?_) (fun c9 => ?_)
            · refine aj_run (C := (-2147483648 ≤ b + 1 ∧ b + 1 ≤ 2147483647) ∧ True) (pc' := 69) (la' := [some (.inr (.inr (some (50, 0)))), some (.inl x), some (.inl w), some (.inl 0), some (.inl (b + 1))]) (st' := []) (M' := (P, g4, r0, n)) ok_X11_through true 4 rfl (by refine ⟨?_, trivial⟩ <;> (omega)) ?_
              refine aj_cast (congrArg (fun (z9 : Int) => ([some (.inr (.inr (some (50, 0)))), some (.inl x), some (.inl w), some (.inl z9), some (.inl (b + 1))] : List (Option ax_V))) (show 0 = wLik (g4 143 0) (g4 135 0) (g4 50 0 2) (b + 1) from by (rw [wLik_s j1]; first | rw [if_pos (by omega)] | rw [if_neg (by omega)]))) rfl rfl ?_
              refine ih69 (b + 1) ?_ ?_
              · omega
              · omega
            · refine aj_run (C := (-2147483648 ≤ b + 1 ∧ b + 1 ≤ 2147483647) ∧ True) (pc' := 69) (la' := [some (.inr (.inr (some (50, 0)))), some (.inl x), some (.inl w), some (.inl 1), some (.inl (b + 1))]) (st' := []) (M' := (P, g4, r0, n)) ok_X11_through true 5 rfl (by refine ⟨?_, trivial⟩ <;> (omega)) ?_
              refine aj_cast (congrArg (fun (z9 : Int) => ([some (.inr (.inr (some (50, 0)))), some (.inl x), some (.inl w), some (.inl z9), some (.inl (b + 1))] : List (Option ax_V))) (show 1 = wLik (g4 143 0) (g4 135 0) (g4 50 0 2) (b + 1) from by (rw [wLik_s j1]; first | rw [if_pos (by omega)] | rw [if_neg (by omega)]))) rfl rfl ?_
              refine ih69 (b + 1) ?_ ?_
              · omega
              · omega
      · refine aj_run (C := (0 ≤ a ∧ a < n 135 0) ∧ (0 ≤ a ∧ a < n 143 0) ∧ (-2147483648 ≤ a + 1 ∧ a + 1 ≤ 2147483647) ∧ True) (pc' := 34) (la' := [some (.inr (.inr (some (50, 0)))), some (.inl x), some (.inl w), some (.inl (a + 1)), none]) (st' := []) (M' := (P, ax_u3 (wMv g2 135 143 a) 143 0 a (g2 135 0 a), r0, n)) ok_X11_through true 10 rfl (by refine ⟨?_, ?_, ?_, trivial⟩ <;> (omega)) ?_
        refine aj_cast rfl rfl (congrArg (fun z9 => ((P, z9, r0, n) : ax_Mm)) (show ax_u3 (wMv g2 135 143 a) 143 0 a (g2 135 0 a) = wMv g2 135 143 (a + 1) from by exact wMv_s i1)) ?_
        refine ih34 (a + 1) ?_ ?_
        · omega
        · omega
    · refine aj_run (C := True) (pc' := 15) (la' := [some (.inr (.inr (some (50, 0)))), some (.inl x), some (.inl w), none, none]) (st' := [.inl x, .inr (.inr (some (50, 0)))]) (M' := (P, g, r0, n)) ok_X11_through true 2 rfl trivial ?_
      refine aj_callV (av := [.inl x]) (st := []) (f := 50) (o := 0) (ci := 11) cal_X11_isAnt lk_11_33 ins_X11_isAnt rfl sel_X11_isAnt rfl (fun c9 h9 _ => by simpa [ax_ok] using h9) (sp_isAnt x _ _ _ _ hs.2.2.1) ⟨by decide, by decide, by decide, by decide⟩ (Nat.le_of_ble_eq_true rfl) (ax_dec2 (i := .invokevirtual 33) (n := 3) ok_X11_through rfl) (fun r M' hq => ?_)
      obtain ⟨rfl, rfl⟩ := hq
      change ax_J _ _ _ _ _ _ _ _ _ 18 [some (.inr (.inr (some (50, 0)))), some (.inl x), some (.inl w), none, none] [.inl (bI (0 ≤ x ∧ x < g 50 0 2))] (P, g, r0, n)
      refine aj_if_ne (tgt := 24) (ax_dec2 (i := .ifCond .ne 6) (n := 3) ok_X11_through rfl) (by decide) (fun c10 => ?_) (fun c10 => ?_)
      · replace c10 := bI_n0 c10
        refine aj_run (C := True) (pc' := 26) (la' := [some (.inr (.inr (some (50, 0)))), some (.inl x), some (.inl w), none, none]) (st' := [.inr (.inr (some (50, 0))), .inr (.inr (some (50, 0)))]) (M' := (P, g, r0, n)) ok_X11_through true 2 rfl trivial ?_
        refine aj_callV (av := []) (st := [.inr (.inr (some (50, 0)))]) (f := 50) (o := 0) (ci := 11) cal_X11_asSet lk_11_277 ins_X11_asSet rfl sel_X11_asSet rfl (fun c9 h9 _ => by simpa [ax_ok] using h9) (sp_asSet _ _ _ _ hn hs.2.2.1) ⟨by decide, by decide, by decide, by decide⟩ (Nat.le_of_ble_eq_true rfl) (ax_dec2 (i := .invokevirtual 277) (n := 3) ok_X11_through rfl) (fun r M' hq => ?_)
        obtain ⟨rfl, rfl⟩ := hq
        change ax_J _ _ _ _ _ _ _ _ _ 29 [some (.inr (.inr (some (50, 0)))), some (.inl x), some (.inl w), none, none] [.inl (wSet (g 105 0) (g 50 0 2)), .inr (.inr (some (50, 0)))] (P, g, r0, n)
        refine aj_callV (av := [.inl (wSet (g 105 0) (g 50 0 2))]) (st := []) (f := 50) (o := 0) (ci := 11) cal_X11_goAll lk_11_282 ins_X11_goAll rfl sel_X11_goAll rfl (fun c9 h9 _ => by simpa [ax_ok] using h9) (sp_goAll (wSet (g 105 0) (g 50 0 2)) _ _ _ _ hn hs) ⟨by decide, by decide, by decide, by decide⟩ (Nat.le_of_ble_eq_true rfl) (ax_dec2 (i := .invokevirtual 282) (n := 3) ok_X11_through rfl) (fun r M' hq => ?_)
        obtain ⟨rfl, g2, rfl, hg2, kpg2⟩ := hq
        have hG2 : wEq g2 (gA g (gAs g)) := hg2
        have zs2 : g2 50 0 2 = g 50 0 2 := kpg2.2 0 2 (by omega)
        change ax_J _ _ _ _ _ _ _ _ _ 32 [some (.inr (.inr (some (50, 0)))), some (.inl x), some (.inl w), none, none] [] (P, g2, r0, n)
        refine aj_run (C := True) (pc' := 34) (la' := [some (.inr (.inr (some (50, 0)))), some (.inl x), some (.inl w), some (.inl 0), none]) (st' := []) (M' := (P, g2, r0, n)) ok_X11_through true 2 rfl trivial ?_
        refine aj_cast rfl rfl (congrArg (fun z9 => ((P, z9, r0, n) : ax_Mm)) (show g2 = wMv g2 135 143 0 from by exact wMv_0)) ?_
        refine aj_loop (σ := (Int)) (fun xL => 0 ≤ xL ∧ xL ≤ g2 50 0 2) (fun xL => (g2 50 0 2 - xL).toNat) (fun xL => [some (.inr (.inr (some (50, 0)))), some (.inl x), some (.inl w), some (.inl xL), none]) (fun xL => []) (fun xL => (P, wMv g2 135 143 xL, r0, n)) ?_ (0) ?_
        rotate_left
        · omega
        rintro a hI ih34
        try dsimp only at hI ih34
        obtain ⟨i1, i2⟩ := hI
        change ax_J _ _ _ _ _ _ _ _ _ 34 [some (.inr (.inr (some (50, 0)))), some (.inl x), some (.inl w), some (.inl a), none] [] (P, wMv g2 135 143 a, r0, n)
        refine aj_run (C := True) (pc' := 39) (la' := [some (.inr (.inr (some (50, 0)))), some (.inl x), some (.inl w), some (.inl a), none]) (st' := [.inl (g2 50 0 2), .inl a]) (M' := (P, wMv g2 135 143 a, r0, n)) ok_X11_through true 3 rfl trivial ?_
        refine aj_icmp_ge (tgt := 60) (ax_dec2 (i := .if_icmp .ge 21) (n := 3) ok_X11_through rfl) (by decide) (fun c11 => ?_) (fun c11 => ?_)
        · have kp3 : wKp (wMv g2 135 143 a) g := wKp.tr ⟨fun f z1 z2 => funext fun o => funext fun k => by unfold wMv; rw [if_neg (by omega)], fun o k z => by unfold wMv; rw [if_neg (by omega)]⟩ kpg2
          refine aj_run (C := True) (pc' := 61) (la' := [some (.inr (.inr (some (50, 0)))), some (.inl x), some (.inl w), some (.inl a), none]) (st' := [.inr (.inr (some (50, 0)))]) (M' := (P, wMv g2 135 143 a, r0, n)) ok_X11_through true 1 rfl trivial ?_
          refine aj_callV (av := []) (st := []) (f := 50) (o := 0) (ci := 11) cal_X11_goThrough lk_11_291 ins_X11_goThrough rfl sel_X11_goThrough rfl (fun c9 h9 _ => by simpa [ax_ok] using h9) (sp_goThrough _ _ _ _ hn (wOs_k kp3 hs)) ⟨by decide, by decide, by decide, by decide⟩ (Nat.le_of_ble_eq_true rfl) (ax_dec2 (i := .invokevirtual 291) (n := 3) ok_X11_through rfl) (fun r M' hq => ?_)
          obtain ⟨rfl, g4, rfl, hg4, kpg4⟩ := hq
          have hG4 : wEd g4 (gTh g) := wEd.tr (wEd_e hg4) (gTh_k (wKr_p kp3))
          have kp4 : wKp g4 g := kpg4.tr kp3
          have zs4 : g4 50 0 2 = g 50 0 2 := kp4.2 0 2 (by omega)
          have z143 : ∀ k, 0 ≤ k → k < g 50 0 2 → g4 143 0 k = gA g (gAs g) 135 0 k := fun k z1 z2 => by rw [hg4 143 rfl, (it_ss _).1 143 (by decide) (by omega)]; change wMv g2 135 143 a 143 0 k = _; unfold wMv; rw [if_pos ⟨rfl, rfl, z1, by omega⟩, hG2 135 rfl]
          have z135 : ∀ k, 0 ≤ k → k < g 50 0 2 → g4 135 0 k = gTh g 135 0 k := fun k z1 z2 => hG4.2.2 135 k (by decide) (by decide) z1 (by rw [show gTh g 50 0 2 = g 50 0 2 from hG4.sz.symm.trans zs4]; exact z2)
          change ax_J _ _ _ _ _ _ _ _ _ 64 [some (.inr (.inr (some (50, 0)))), some (.inl x), some (.inl w), some (.inl a), none] [] (P, g4, r0, n)
          refine aj_run (C := True) (pc' := 69) (la' := [some (.inr (.inr (some (50, 0)))), some (.inl x), some (.inl w), some (.inl 1), some (.inl 0)]) (st' := []) (M' := (P, g4, r0, n)) ok_X11_through true 4 rfl trivial ?_
          refine aj_cast (congrArg (fun (z9 : Int) => ([some (.inr (.inr (some (50, 0)))), some (.inl x), some (.inl w), some (.inl z9), some (.inl 0)] : List (Option ax_V))) (show 1 = wLik (g4 143 0) (g4 135 0) (g4 50 0 2) 0 from by rfl)) rfl rfl ?_
          refine aj_loop (σ := (Int)) (fun xL => 0 ≤ xL ∧ xL ≤ g4 50 0 2) (fun xL => (g4 50 0 2 - xL).toNat) (fun xL => [some (.inr (.inr (some (50, 0)))), some (.inl x), some (.inl w), some (.inl (wLik (g4 143 0) (g4 135 0) (g4 50 0 2) xL)), some (.inl xL)]) (fun xL => []) (fun xL => (P, g4, r0, n)) ?_ (0) ?_
          rotate_left
          · omega
          rintro b hI ih69
          try dsimp only at hI ih69
          obtain ⟨j1, j2⟩ := hI
          change ax_J _ _ _ _ _ _ _ _ _ 69 [some (.inr (.inr (some (50, 0)))), some (.inl x), some (.inl w), some (.inl (wLik (g4 143 0) (g4 135 0) (g4 50 0 2) b)), some (.inl b)] [] (P, g4, r0, n)
          refine aj_run (C := True) (pc' := 75) (la' := [some (.inr (.inr (some (50, 0)))), some (.inl x), some (.inl w), some (.inl (wLik (g4 143 0) (g4 135 0) (g4 50 0 2) b)), some (.inl b)]) (st' := [.inl (g4 50 0 2), .inl b]) (M' := (P, g4, r0, n)) ok_X11_through true 3 rfl trivial ?_
          refine aj_icmp_ge (tgt := 127) (ax_dec2 (i := .if_icmp .ge 52) (n := 3) ok_X11_through rfl) (by decide) (fun c12 => ?_) (fun c12 => ?_)
          · refine aj_run (C := True) (pc' := 128) (la' := [some (.inr (.inr (some (50, 0)))), some (.inl x), some (.inl w), some (.inl (wLik (g4 143 0) (g4 135 0) (g4 50 0 2) b)), some (.inl b)]) (st' := [.inl w]) (M' := (P, g4, r0, n)) ok_X11_through true 1 rfl trivial ?_
            refine aj_if_ne (tgt := 140) (ax_dec2 (i := .ifCond .ne 12) (n := 3) ok_X11_through rfl) (by decide) (fun c13 => ?_) (fun c13 => ?_)
            · exact absurd c13 (by omega)
            · refine aj_run (C := (0 ≤ x ∧ x < n 135 0) ∧ True) (pc' := 161) (la' := [some (.inr (.inr (some (50, 0)))), some (.inl x), some (.inl w), some (.inl (wLik (g4 143 0) (g4 135 0) (g4 50 0 2) b)), some (.inl b)]) (st' := [.inl (g4 135 0 x)]) (M' := (P, g4, r0, n)) ok_X11_through true 5 rfl (by refine ⟨?_, trivial⟩ <;> (omega)) ?_
              refine aj_ret (r := some (.inl (g4 135 0 x))) (ax_dec2 (i := .ireturn) (n := 1) ok_X11_through rfl) ⟨?_, ?_, by decide, by decide⟩ rfl
              · first | (exfalso; omega) | exact ⟨ax_si (by unfold fThr; (repeat first | rw [if_pos (by omega)] | rw [if_neg (by omega)] | rw [bI_t (by omega)] | rw [bI_f (by omega)]); first | exact z135 _ (by omega) (by omega) | exact hG4.v 40 | (have e9 : b = g4 50 0 2 := (by omega); subst e9; have hk9 := wLik_c (k := g4 50 0 2) (Int.le_refl _) (fun q z1 z2 => z143 q z1 (by omega)) (fun q z1 z2 => z135 q z1 (by omega)); have hk8 := wLik_01 (r1 := g4 143 0) (r2 := g4 135 0) (m := g4 50 0 2) (k := g4 50 0 2); rw [← zs4]; omega)), _, rfl, kp4⟩
              · exact ax_ro_i
          · refine aj_run (C := True) (pc' := 79) (la' := [some (.inr (.inr (some (50, 0)))), some (.inl x), some (.inl w), some (.inl (wLik (g4 143 0) (g4 135 0) (g4 50 0 2) b)), some (.inl b)]) (st' := [.inl (wLik (g4 143 0) (g4 135 0) (g4 50 0 2) b)]) (M' := (P, g4, r0, n)) ok_X11_through true 1 rfl trivial ?_
            refine aj_if_eq (tgt := 119) (ax_dec2 (i := .ifCond .eq 40) (n := 3) ok_X11_through rfl) (by decide) (fun c14 => ?_) (fun c14 => ?_)
            · refine aj_run (C := (-2147483648 ≤ b + 1 ∧ b + 1 ≤ 2147483647) ∧ True) (pc' := 69) (la' := [some (.inr (.inr (some (50, 0)))), some (.inl x), some (.inl w), some (.inl 0), some (.inl (b + 1))]) (st' := []) (M' := (P, g4, r0, n)) ok_X11_through true 4 rfl (by refine ⟨?_, trivial⟩ <;> (omega)) ?_
              refine aj_cast (congrArg (fun (z9 : Int) => ([some (.inr (.inr (some (50, 0)))), some (.inl x), some (.inl w), some (.inl z9), some (.inl (b + 1))] : List (Option ax_V))) (show 0 = wLik (g4 143 0) (g4 135 0) (g4 50 0 2) (b + 1) from by (rw [wLik_s j1]; first | rw [if_pos (by omega)] | rw [if_neg (by omega)]))) rfl rfl ?_
              refine ih69 (b + 1) ?_ ?_
              · omega
              · omega
            · refine aj_run (C := (0 ≤ b ∧ b < n 135 0) ∧ True) (pc' := 94) (la' := [some (.inr (.inr (some (50, 0)))), some (.inl x), some (.inl w), some (.inl (wLik (g4 143 0) (g4 135 0) (g4 50 0 2) b)), some (.inl b)]) (st' := [.inl (g4 135 0 b), .inr (.inr (some (135, 0))), .inr (.inr (some (50, 0)))]) (M' := (P, g4, r0, n)) ok_X11_through true 7 rfl (by refine ⟨?_, trivial⟩ <;> (omega)) ?_
              refine aj_callV (av := [.inr (.inr (some (135, 0))), .inl (g4 135 0 b)]) (st := []) (f := 50) (o := 0) (ci := 11) cal_X11_manyOff lk_11_294 ins_X11_manyOff rfl sel_X11_manyOff rfl (fun c9 h9 _ => by simpa [ax_ok] using h9) (sp_manyOff_135 (g4 135 0 b) _ _ _ _ hn (by rw [zs4]; exact h2)) ⟨by decide, by decide, by decide, by decide⟩ (Nat.le_of_ble_eq_true rfl) (ax_dec2 (i := .invokevirtual 294) (n := 3) ok_X11_through rfl) (fun r M' hq => ?_)
              obtain ⟨rfl, rfl⟩ := hq
              change ax_J _ _ _ _ _ _ _ _ _ 97 [some (.inr (.inr (some (50, 0)))), some (.inl x), some (.inl w), some (.inl (wLik (g4 143 0) (g4 135 0) (g4 50 0 2) b)), some (.inl b)] [.inl (wCnt (g4 135 0) (g4 50 0 2) (g4 135 0 b))] (P, g4, r0, n)
              refine aj_run (C := (0 ≤ b ∧ b < n 135 0) ∧ True) (pc' := 109) (la' := [some (.inr (.inr (some (50, 0)))), some (.inl x), some (.inl w), some (.inl (wLik (g4 143 0) (g4 135 0) (g4 50 0 2) b)), some (.inl b)]) (st' := [.inl (g4 135 0 b), .inr (.inr (some (143, 0))), .inr (.inr (some (50, 0))), .inl (wCnt (g4 135 0) (g4 50 0 2) (g4 135 0 b))]) (M' := (P, g4, r0, n)) ok_X11_through true 7 rfl (by refine ⟨?_, trivial⟩ <;> (omega)) ?_
              refine aj_callV (av := [.inr (.inr (some (143, 0))), .inl (g4 135 0 b)]) (st := [.inl (wCnt (g4 135 0) (g4 50 0 2) (g4 135 0 b))]) (f := 50) (o := 0) (ci := 11) cal_X11_manyOff lk_11_294 ins_X11_manyOff rfl sel_X11_manyOff rfl (fun c9 h9 _ => by simpa [ax_ok] using h9) (sp_manyOff_143 (g4 135 0 b) _ _ _ _ hn (by rw [zs4]; exact h2)) ⟨by decide, by decide, by decide, by decide⟩ (Nat.le_of_ble_eq_true rfl) (ax_dec2 (i := .invokevirtual 294) (n := 3) ok_X11_through rfl) (fun r M' hq => ?_)
              obtain ⟨rfl, rfl⟩ := hq
              change ax_J _ _ _ _ _ _ _ _ _ 112 [some (.inr (.inr (some (50, 0)))), some (.inl x), some (.inl w), some (.inl (wLik (g4 143 0) (g4 135 0) (g4 50 0 2) b)), some (.inl b)] [.inl (wCnt (g4 143 0) (g4 50 0 2) (g4 135 0 b)), .inl (wCnt (g4 135 0) (g4 50 0 2) (g4 135 0 b))] (P, g4, r0, n)
              refine aj_icmp_ne (tgt := 119) (ax_dec2 (i := .if_icmp .ne 7) (n := 3) ok_X11_through rfl) (by decide) (fun c15 => ?_) (fun c15 => ?_)
              · refine aj_run (C := (-2147483648 ≤ b + 1 ∧ b + 1 ≤ 2147483647) ∧ True) (pc' := 69) (la' := [some (.inr (.inr (some (50, 0)))), some (.inl x), some (.inl w), some (.inl 0), some (.inl (b + 1))]) (st' := []) (M' := (P, g4, r0, n)) ok_X11_through true 4 rfl (by refine ⟨?_, trivial⟩ <;> (omega)) ?_
                refine aj_cast (congrArg (fun (z9 : Int) => ([some (.inr (.inr (some (50, 0)))), some (.inl x), some (.inl w), some (.inl z9), some (.inl (b + 1))] : List (Option ax_V))) (show 0 = wLik (g4 143 0) (g4 135 0) (g4 50 0 2) (b + 1) from by (rw [wLik_s j1]; first | rw [if_pos (by omega)] | rw [if_neg (by omega)]))) rfl rfl ?_
                refine ih69 (b + 1) ?_ ?_
                · omega
                · omega
              · refine aj_run (C := (-2147483648 ≤ b + 1 ∧ b + 1 ≤ 2147483647) ∧ True) (pc' := 69) (la' := [some (.inr (.inr (some (50, 0)))), some (.inl x), some (.inl w), some (.inl 1), some (.inl (b + 1))]) (st' := []) (M' := (P, g4, r0, n)) ok_X11_through true 5 rfl (by refine ⟨?_, trivial⟩ <;> (omega)) ?_
                refine aj_cast (congrArg (fun (z9 : Int) => ([some (.inr (.inr (some (50, 0)))), some (.inl x), some (.inl w), some (.inl z9), some (.inl (b + 1))] : List (Option ax_V))) (show 1 = wLik (g4 143 0) (g4 135 0) (g4 50 0 2) (b + 1) from by (rw [wLik_s j1]; first | rw [if_pos (by omega)] | rw [if_neg (by omega)]))) rfl rfl ?_
                refine ih69 (b + 1) ?_ ?_
                · omega
                · omega
        · refine aj_run (C := (0 ≤ a ∧ a < n 135 0) ∧ (0 ≤ a ∧ a < n 143 0) ∧ (-2147483648 ≤ a + 1 ∧ a + 1 ≤ 2147483647) ∧ True) (pc' := 34) (la' := [some (.inr (.inr (some (50, 0)))), some (.inl x), some (.inl w), some (.inl (a + 1)), none]) (st' := []) (M' := (P, ax_u3 (wMv g2 135 143 a) 143 0 a (g2 135 0 a), r0, n)) ok_X11_through true 10 rfl (by refine ⟨?_, ?_, ?_, trivial⟩ <;> (omega)) ?_
          refine aj_cast rfl rfl (congrArg (fun z9 => ((P, z9, r0, n) : ax_Mm)) (show ax_u3 (wMv g2 135 143 a) 143 0 a (g2 135 0 a) = wMv g2 135 143 (a + 1) from by exact wMv_s i1)) ?_
          refine ih34 (a + 1) ?_ ?_
          · omega
          · omega
      · replace c10 := bI_e0 c10
        refine aj_run (C := True) (pc' := 23) (la' := [some (.inr (.inr (some (50, 0)))), some (.inl x), some (.inl w), none, none]) (st' := [.inl (-2)]) (M' := (P, g, r0, n)) ok_X11_through true 1 rfl trivial ?_
        refine aj_ret (r := some (.inl (-2))) (ax_dec2 (i := .ireturn) (n := 1) ok_X11_through rfl) ⟨?_, ?_, by decide, by decide⟩ rfl
        · first | (exfalso; omega) | exact ⟨ax_si (by unfold fThr; (repeat first | rw [if_pos (by omega)] | rw [if_neg (by omega)] | rw [bI_t (by omega)] | rw [bI_f (by omega)])), _, rfl, wKp.rf⟩
        · exact ax_ro_i

