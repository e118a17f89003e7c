def wWy (g : Nat → Int → Int → Int) : Int := ax_shl 1 (g 50 0 2)
theorem wWy_in {g : Nat → Int → Int → Int} (hs : wOs g) : 1 ≤ wWy g ∧ wWy g ≤ 128 := by
  have h := hs.2.2.1
  unfold wWy
  generalize g 50 0 2 = z at h
  have e : z = 0 ∨ z = 1 ∨ z = 2 ∨ z = 3 ∨ z = 4 ∨ z = 5 ∨ z = 6 ∨ z = 7 := by omega
  rcases e with rfl | rfl | rfl | rfl | rfl | rfl | rfl | rfl <;> decide
noncomputable def gSoon (g : Nat → Int → Int → Int) (k : Int) : Int × Int := wFI (fun w s => if gLa g w ≠ -1 ∧ (s.1 = -1 ∨ gA g w 135 0 (gLa g w) < s.2) then (w, gA g w 135 0 (gLa g w)) else s) (-1, -1) k
theorem gSoon_s {g : Nat → Int → Int → Int} {k : Int} (h : 0 ≤ k) : gSoon g (k + 1) = if gLa g k ≠ -1 ∧ ((gSoon g k).1 = -1 ∨ gA g k 135 0 (gLa g k) < (gSoon g k).2) then (k, gA g k 135 0 (gLa g k)) else gSoon g k := wFI_s h
noncomputable def fSoon (g : Nat → Int → Int → Int) (w : Int) : Int := if 0 ≤ w ∧ w ≤ 1 then (if w = 0 then (gSoon g (wWy g)).1 else (gSoon g (wWy g)).2) else -2
/-- how many ways are so, and the least -/
def wCf (p : Int → Int) (k : Int) : Int × Int := wFI (fun w t => if p w ≠ 0 then (t.1 + 1, if t.1 = 0 then w else t.2) else t) (0, -1) k
theorem wCf_s {p : Int → Int} {k : Int} (h : 0 ≤ k) : wCf p (k + 1) = if p k ≠ 0 then ((wCf p k).1 + 1, if (wCf p k).1 = 0 then k else (wCf p k).2) else wCf p k := wFI_s h
theorem wCf_in {p : Int → Int} {k : Int} (h : 0 ≤ k) : 0 ≤ (wCf p k).1 ∧ (wCf p k).1 ≤ k := by
  suffices H : ∀ m : Nat, 0 ≤ (wCf p m).1 ∧ (wCf p m).1 ≤ m by
    have := H k.toNat
    rw [show ((k.toNat : Nat) : Int) = k by omega] at this
    exact this
  intro m
  induction m with
  | zero => exact ⟨Int.le_refl _, Int.le_refl _⟩
  | succ m ih =>
    rw [show ((m + 1 : Nat) : Int) = (m : Int) + 1 by omega, wCf_s (by omega)]
    split
    · dsimp only; omega
    · omega
theorem wCf_c {p p' : Int → Int} {k : Int} (h : ∀ w, 0 ≤ w → w < k → p' w = p w) : wCf p' k = wCf p k := by
  unfold wCf
  exact wFI_c fun a t z1 z2 => by rw [h a z1 z2]
noncomputable def pBeL (g : Nat → Int → Int → Int) (a w : Int) : Int := bI (gLa g w = a)
noncomputable def fBeL (g : Nat → Int → Int → Int) (a w : Int) : Int := if (0 ≤ a ∧ a < g 50 0 2) ∧ 0 ≤ w ∧ w ≤ 1 then (if w = 0 then (wCf (pBeL g a) (wWy g)).1 else (wCf (pBeL g a) (wWy g)).2) else -2
def gLon (g : Nat → Int → Int → Int) (a k : Int) : Int × Int := wFI (fun w s => if s.2 < gA g w 135 0 a then (w, gA g w 135 0 a) else s) (-1, -1) k
theorem gLon_s {g : Nat → Int → Int → Int} {a k : Int} (h : 0 ≤ k) : gLon g a (k + 1) = if (gLon g a k).2 < gA g k 135 0 a then (k, gA g k 135 0 a) else gLon g a k := wFI_s h
def fLon (g : Nat → Int → Int → Int) (a w : Int) : Int := if (0 ≤ a ∧ a < g 50 0 2) ∧ 0 ≤ w ∧ w ≤ 1 then (if w = 0 then (gLon g a (wWy g)).1 else (gLon g a (wWy g)).2) else -2
/-- whether any meet in beat k of a way -/
def gAny (g : Nat → Int → Int → Int) (w k : Int) : Int := wAny (wSt1 (wIt (wBegin g w) k.toNat)) (g 50 0 2)
def gHr (g : Nat → Int → Int → Int) (s w k : Int) : Int × Int := wFI (fun k t => if gAny g w k ≠ 0 then (if t.1 ≠ 0 ∧ t.2 < g 156 0 s ∧ g 157 0 (40 * s + t.2) = k then 1 else 0, t.2 + 1) else t) (1, 0) k
theorem gHr_s {g : Nat → Int → Int → Int} {s w k : Int} (h : 0 ≤ k) : gHr g s w (k + 1) = if gAny g w k ≠ 0 then (if (gHr g s w k).1 ≠ 0 ∧ (gHr g s w k).2 < g 156 0 s ∧ g 157 0 (40 * s + (gHr g s w k).2) = k then 1 else 0, (gHr g s w k).2 + 1) else gHr g s w k := wFI_s h
theorem gHr_in {g : Nat → Int → Int → Int} {s w k : Int} (h : 0 ≤ k) : ((gHr g s w k).1 = 0 ∨ (gHr g s w k).1 = 1) ∧ 0 ≤ (gHr g s w k).2 ∧ (gHr g s w k).2 ≤ k := by
  suffices H : ∀ m : Nat, ((gHr g s w m).1 = 0 ∨ (gHr g s w m).1 = 1) ∧ 0 ≤ (gHr g s w m).2 ∧ (gHr g s w m).2 ≤ m by
    have := H k.toNat
    rw [show ((k.toNat : Nat) : Int) = k by omega] at this
    exact this
  intro m
  induction m with
  | zero => exact ⟨Or.inr rfl, Int.le_refl _, Int.le_refl _⟩
  | succ m ih =>
    rw [show ((m + 1 : Nat) : Int) = (m : Int) + 1 by omega, gHr_s (by omega)]
    split
    · dsimp only
      refine ⟨?_, by omega, by omega⟩
      split
      · exact Or.inr rfl
      · exact Or.inl rfl
    · omega
def fHr (g : Nat → Int → Int → Int) (s w : Int) : Int := bI ((gHr g s w 201).1 ≠ 0 ∧ (gHr g s w 201).2 = g 156 0 s)
def gFi (g : Nat → Int → Int → Int) (s w k : Int) : Int := wFI (fun a l => if l ≠ 0 ∧ g 157 0 (40 * s + a) = gA g w 135 0 a then 1 else 0) 1 k
theorem gFi_s {g : Nat → Int → Int → Int} {s w k : Int} (h : 0 ≤ k) : gFi g s w (k + 1) = if gFi g s w k ≠ 0 ∧ g 157 0 (40 * s + k) = gA g w 135 0 k then 1 else 0 := wFI_s h
theorem gFi_01 {g : Nat → Int → Int → Int} {s w k : Int} : gFi g s w k = 0 ∨ gFi g s w k = 1 := by
  unfold gFi wFI
  generalize k.toNat = q
  cases q with
  | zero => exact Or.inr rfl
  | succ q =>
    unfold wF
    split
    · exact Or.inr rfl
    · exact Or.inl rfl
def fFi (g : Nat → Int → Int → Int) (s w : Int) : Int := gFi g s w (g 50 0 2)
def pFit (g : Nat → Int → Int → Int) (s t w : Int) : Int := if t = 0 then fFi g s w else fHr g s w
def fFit (g : Nat → Int → Int → Int) (s t w : Int) : Int := if (0 ≤ s ∧ s ≤ 3) ∧ (0 ≤ t ∧ t ≤ 1) ∧ 0 ≤ w ∧ w ≤ 1 then (if g 155 0 s < 0 then -11 else if t = 0 ∧ g 156 0 s ≠ g 50 0 2 then -2 else if w = 0 then (wCf (pFit g s t) (wWy g)).1 else (wCf (pFit g s t) (wWy g)).2) else -2
/-! the same out of what stands between calls -/
theorem gA_v {g' g : Nat → Int → Int → Int} (h : wKr g' g) {w a : Int} (h1 : 0 ≤ a) (h2 : a < g 50 0 2) : gA g' w 135 0 a = gA g w 135 0 a := (gA_k h).2.2 135 a (by decide) (by decide) h1 (by rw [show gA g w 50 0 2 = g 50 0 2 from ((it_ss _).2 _ _ (by omega)).trans (beg_ss.2 _ _ (by omega))]; exact h2)
theorem gLa_k {g' g : Nat → Int → Int → Int} (h : wKr g' g) {w : Int} : gLa g' w = gLa g w := by
  unfold gLa
  rw [h.2 2 (by omega)]
  exact wLast_c fun a z1 z2 => gA_v h z1 z2
theorem gAny_k {g' g : Nat → Int → Int → Int} (h : wKr g' g) {w k : Int} : gAny g' w k = gAny g w k := by
  unfold gAny
  rw [h.2 2 (by omega)]
  have e := wEd_it (wEd_beg h (ways := w)) k.toNat
  refine wAny_d (wEd_st1 e) ?_
  rw [st1_sz, (it_ss _).2 _ _ (by omega), beg_ss.2 _ _ (by omega)]
  exact Int.le_refl _
theorem gHr_k {g' g : Nat → Int → Int → Int} (h : wKr g' g) {s w k : Int} : gHr g' s w k = gHr g s w k := by
  unfold gHr
  refine wFI_c fun a t z1 z2 => ?_
  rw [gAny_k h, h.1 156 (by omega), h.1 157 (by omega)]
theorem fHr_k {g' g : Nat → Int → Int → Int} (h : wKr g' g) {s w : Int} : fHr g' s w = fHr g s w := by
  unfold fHr
  rw [gHr_k h, h.1 156 (by omega)]
theorem fFi_k {g' g : Nat → Int → Int → Int} (h : wKr g' g) {s w : Int} : fFi g' s w = fFi g s w := by
  unfold fFi gFi
  rw [h.2 2 (by omega)]
  refine wFI_c fun a t z1 z2 => ?_
  rw [h.1 157 (by omega), gA_v h z1 z2]
theorem gA_sz {g : Nat → Int → Int → Int} {w : Int} : gA g w 50 0 2 = g 50 0 2 := ((it_ss _).2 _ _ (by omega)).trans (beg_ss.2 _ _ (by omega))
set_option maxRecDepth 100000 in
set_option maxHeartbeats 4000000 in
theorem sp_soonest (v : Int) (P : Nat → Int → Prop) (g : Nat → Int → Int → Int) (r0 : Nat → Int → Int → Option (Nat × Int)) (n : Nat → Int → Int) (hn : mLen n) (hs : wOs g) : ax_S yX11_soonest cX11_soonest 6 (some FieldType.int) 7 0 0 [.inr (.inr (some (50, 0))), .inl v] (P, g, r0, n) (fun r M' => r = some (.inl (fSoon g v)) ∧ ∃ g', M' = (P, g', r0, n) ∧ wKp g' g) := by
  have n135 : n 135 0 = 7 := hn (135, 7) (by decide)
  have h2 := hs.2.2.1
  have hW0 := wWy_in hs
  refine ax_S_of (own := 11) (by decide) rfl (fun h => absurd h (by decide)) rfl (Nat.le_of_ble_eq_true rfl) ?_
  change ax_J _ _ _ _ _ _ _ _ _ _ [some (.inr (.inr (some (50, 0)))), some (.inl v), none, none, none, none] _ _
  refine aj_run (C := True) (pc' := 3) (la' := [some (.inr (.inr (some (50, 0)))), some (.inl v), none, none, none, none]) (st' := [.inl 1, .inl 0, .inl v]) (M' := (P, g, r0, n)) ok_X11_soonest true 3 rfl trivial ?_
  refine aj_callS (av := [.inl v, .inl 0, .inl 1]) (st := []) cal_X11_isIn lk_11_7 stc_X11_isIn (sp_isIn v 0 1 _ _ _ _) ⟨by decide, by decide, by decide, by decide⟩ (Nat.le_of_ble_eq_true rfl) (ax_dec2 (i := .invokestatic 7) (n := 3) ok_X11_soonest rfl) (fun r M' hq => ?_)
  obtain ⟨rfl, rfl⟩ := hq
  change ax_J _ _ _ _ _ _ _ _ _ 6 [some (.inr (.inr (some (50, 0)))), some (.inl v), none, none, none, none] [.inl (bI (0 ≤ v ∧ v ≤ 1))] (P, g, r0, n)
  refine aj_if_ne (tgt := 12) (ax_dec2 (i := .ifCond .ne 6) (n := 3) ok_X11_soonest rfl) (by decide) (fun c1 => ?_) (fun c1 => ?_)
  · replace c1 := bI_n0 c1
    refine aj_run (C := True) (pc' := 19) (la' := [some (.inr (.inr (some (50, 0)))), some (.inl v), some (.inl (-1)), some (.inl (-1)), some (.inl 0), none]) (st' := []) (M' := (P, g, r0, n)) ok_X11_soonest true 6 rfl trivial ?_
    refine aj_cast (congrArg (fun (z9 : Int) => ([some (.inr (.inr (some (50, 0)))), some (.inl v), some (.inl z9), some (.inl (-1)), some (.inl 0), none] : List (Option ax_V))) (show (-1) = (gSoon g 0).1 from by rfl)) rfl rfl ?_
    refine aj_cast (congrArg (fun (z9 : Int) => ([some (.inr (.inr (some (50, 0)))), some (.inl v), some (.inl ((gSoon g 0).1)), some (.inl z9), some (.inl 0), none] : List (Option ax_V))) (show (-1) = (gSoon g 0).2 from by rfl)) rfl rfl ?_
    refine aj_forget (la' := [some (.inr (.inr (some (50, 0)))), some (.inl v), some (.inl ((gSoon g 0).1)), some (.inl ((gSoon g 0).2)), some (.inl 0), none]) (by simp [ax_fg]) ?_
    refine aj_loop (σ := (Int) × (Nat → Int → Int → Int)) (fun xL => 0 ≤ xL.1 ∧ xL.1 ≤ wWy g ∧ wKp xL.2 g) (fun xL => (wWy g - xL.1).toNat) (fun xL => [some (.inr (.inr (some (50, 0)))), some (.inl v), some (.inl ((gSoon g xL.1).1)), some (.inl ((gSoon g xL.1).2)), some (.inl xL.1), none]) (fun xL => []) (fun xL => (P, xL.2, r0, n)) ?_ (0, g) ?_
    rotate_left
    · exact ⟨by omega, by omega, wKp.rf⟩
    rintro ⟨w, g1⟩ hI ih19
    try dsimp only at hI ih19
    obtain ⟨i1, i2, i3⟩ := hI
    change ax_J _ _ _ _ _ _ _ _ _ 19 [some (.inr (.inr (some (50, 0)))), some (.inl v), some (.inl ((gSoon g w).1)), some (.inl ((gSoon g w).2)), some (.inl w), none] [] (P, g1, r0, n)
    have zs1 : g1 50 0 2 = g 50 0 2 := i3.2 0 2 (by omega)
    have hW := wWy_in hs
    have eW : ax_shl 1 (g1 50 0 2) = wWy g := by rw [zs1]; rfl
    refine aj_run (C := True) (pc' := 27) (la' := [some (.inr (.inr (some (50, 0)))), some (.inl v), some (.inl ((gSoon g w).1)), some (.inl ((gSoon g w).2)), some (.inl w), none]) (st' := [.inl (ax_shl 1 (g1 50 0 2)), .inl w]) (M' := (P, g1, r0, n)) ok_X11_soonest true 5 rfl trivial ?_
    refine aj_icmp_ge (tgt := 81) (ax_dec2 (i := .if_icmp .ge 54) (n := 3) ok_X11_soonest rfl) (by decide) (fun c2 => ?_) (fun c2 => ?_)
    · refine aj_run (C := True) (pc' := 82) (la' := [some (.inr (.inr (some (50, 0)))), some (.inl v), some (.inl ((gSoon g w).1)), some (.inl ((gSoon g w).2)), some (.inl w), none]) (st' := [.inl v]) (M' := (P, g1, r0, n)) ok_X11_soonest true 1 rfl trivial ?_
      refine aj_if_ne (tgt := 89) (ax_dec2 (i := .ifCond .ne 7) (n := 3) ok_X11_soonest rfl) (by decide) (fun c3 => ?_) (fun c3 => ?_)
      · refine aj_run (C := True) (pc' := 90) (la' := [some (.inr (.inr (some (50, 0)))), some (.inl v), some (.inl ((gSoon g w).1)), some (.inl ((gSoon g w).2)), some (.inl w), none]) (st' := [.inl ((gSoon g w).2)]) (M' := (P, g1, r0, n)) ok_X11_soonest true 1 rfl trivial ?_
        refine aj_ret (r := some (.inl ((gSoon g w).2))) (ax_dec2 (i := .ireturn) (n := 1) ok_X11_soonest rfl) ⟨?_, ?_, by decide, by decide⟩ rfl
        · first | (exfalso; omega) | exact ⟨ax_si (by unfold fSoon; (repeat first | rw [if_pos (by omega)] | rw [if_neg (by omega)] | rw [bI_t (by omega)] | rw [bI_f (by omega)]); rw [show wWy g = w by omega]), _, rfl, i3⟩
        · exact ax_ro_i
      · refine aj_run (C := True) (pc' := 90) (la' := [some (.inr (.inr (some (50, 0)))), some (.inl v), some (.inl ((gSoon g w).1)), some (.inl ((gSoon g w).2)), some (.inl w), none]) (st' := [.inl ((gSoon g w).1)]) (M' := (P, g1, r0, n)) ok_X11_soonest true 2 rfl trivial ?_
        refine aj_ret (r := some (.inl ((gSoon g w).1))) (ax_dec2 (i := .ireturn) (n := 1) ok_X11_soonest rfl) ⟨?_, ?_, by decide, by decide⟩ rfl
        · first | (exfalso; omega) | exact ⟨ax_si (by unfold fSoon; (repeat first | rw [if_pos (by omega)] | rw [if_neg (by omega)] | rw [bI_t (by omega)] | rw [bI_f (by omega)]); rw [show wWy g = w by omega]), _, rfl, i3⟩
        · exact ax_ro_i
    · refine aj_run (C := True) (pc' := 33) (la' := [some (.inr (.inr (some (50, 0)))), some (.inl v), some (.inl ((gSoon g w).1)), some (.inl ((gSoon g w).2)), some (.inl w), none]) (st' := [.inl w, .inr (.inr (some (50, 0)))]) (M' := (P, g1, r0, n)) ok_X11_soonest true 2 rfl trivial ?_
      refine aj_callV (av := [.inl w]) (st := []) (f := 50) (o := 0) (ci := 11) cal_X11_goAll lk_11_282 ins_X11_goAll rfl sel_X11_goAll rfl (fun c9 h9 _ => by simpa [ax_ok] using h9) (sp_goAll w _ _ _ _ hn (wOs_k i3 hs)) ⟨by decide, by decide, by decide, by decide⟩ (Nat.le_of_ble_eq_true rfl) (ax_dec2 (i := .invokevirtual 282) (n := 3) ok_X11_soonest rfl) (fun r M' hq => ?_)
      obtain ⟨rfl, g2, rfl, hg2, kpg2⟩ := hq
      have kz2 : wKp g2 g := kpg2.tr i3
      have hz2 : wEd g2 (gA g w) := wEd.tr (wEd_e hg2) (gA_k (wKr_p i3))
      have zs2 : g2 50 0 2 = g 50 0 2 := kz2.2 0 2 (by omega)
      have z135 : ∀ q, 0 ≤ q → q < g 50 0 2 → g2 135 0 q = gA g w 135 0 q := fun q z1 z2 => hz2.2.2 135 q (by decide) (by decide) z1 (by rw [gA_sz]; exact z2)
      change ax_J _ _ _ _ _ _ _ _ _ 36 [some (.inr (.inr (some (50, 0)))), some (.inl v), some (.inl ((gSoon g w).1)), some (.inl ((gSoon g w).2)), some (.inl w), none] [] (P, g2, r0, n)
      refine aj_run (C := True) (pc' := 37) (la' := [some (.inr (.inr (some (50, 0)))), some (.inl v), some (.inl ((gSoon g w).1)), some (.inl ((gSoon g w).2)), some (.inl w), none]) (st' := [.inr (.inr (some (50, 0)))]) (M' := (P, g2, r0, n)) ok_X11_soonest true 1 rfl trivial ?_
      refine aj_callV (av := []) (st := []) (f := 50) (o := 0) (ci := 11) cal_X11_lastOff lk_11_288 ins_X11_lastOff rfl sel_X11_lastOff rfl (fun c9 h9 _ => by simpa [ax_ok] using h9) (sp_lastOff _ _ _ _ hn (by rw [zs2]; exact h2)) ⟨by decide, by decide, by decide, by decide⟩ (Nat.le_of_ble_eq_true rfl) (ax_dec2 (i := .invokevirtual 288) (n := 3) ok_X11_soonest rfl) (fun r M' hq => ?_)
      obtain ⟨rfl, rfl⟩ := hq
      change ax_J _ _ _ _ _ _ _ _ _ 40 [some (.inr (.inr (some (50, 0)))), some (.inl v), some (.inl ((gSoon g w).1)), some (.inl ((gSoon g w).2)), some (.inl w), none] [.inl (wLast (g2 135 0) (g2 50 0 2))] (P, g2, r0, n)
      have hl2 : wLast (g2 135 0) (g2 50 0 2) = gLa g w := by unfold gLa; rw [zs2]; exact wLast_c z135
      have hl3 := wLast_in (off := gA g w 135 0) (n := g 50 0 2) (by omega)
      change gLa g w = -1 ∨ (0 ≤ gLa g w ∧ gLa g w < g 50 0 2) at hl3
      rw [hl2]
      refine aj_run (C := True) (pc' := 45) (la' := [some (.inr (.inr (some (50, 0)))), some (.inl v), some (.inl ((gSoon g w).1)), some (.inl ((gSoon g w).2)), some (.inl w), some (.inl (gLa g w))]) (st' := [.inl (-1), .inl (gLa g w)]) (M' := (P, g2, r0, n)) ok_X11_soonest true 3 rfl trivial ?_
      refine aj_icmp_eq (tgt := 75) (ax_dec2 (i := .if_icmp .eq 30) (n := 3) ok_X11_soonest rfl) (by decide) (fun c4 => ?_) (fun c4 => ?_)
      · refine aj_run (C := (-2147483648 ≤ w + 1 ∧ w + 1 ≤ 2147483647) ∧ True) (pc' := 19) (la' := [some (.inr (.inr (some (50, 0)))), some (.inl v), some (.inl ((gSoon g w).1)), some (.inl ((gSoon g w).2)), some (.inl (w + 1)), some (.inl (gLa g w))]) (st' := []) (M' := (P, g2, r0, n)) ok_X11_soonest true 2 rfl (by refine ⟨?_, trivial⟩ <;> (first | omega | (constructor <;> omega))) ?_
        refine aj_cast (congrArg (fun (z9 : Int) => ([some (.inr (.inr (some (50, 0)))), some (.inl v), some (.inl z9), some (.inl ((gSoon g w).2)), some (.inl (w + 1)), some (.inl (gLa g w))] : List (Option ax_V))) (show (gSoon g w).1 = (gSoon g (w + 1)).1 from by (rw [gSoon_s i1]; first | rw [if_pos (by omega)] | rw [if_neg (by omega)]))) rfl rfl ?_
        refine aj_cast (congrArg (fun (z9 : Int) => ([some (.inr (.inr (some (50, 0)))), some (.inl v), some (.inl ((gSoon g (w + 1)).1)), some (.inl z9), some (.inl (w + 1)), some (.inl (gLa g w))] : List (Option ax_V))) (show (gSoon g w).2 = (gSoon g (w + 1)).2 from by (rw [gSoon_s i1]; first | rw [if_pos (by omega)] | rw [if_neg (by omega)]))) rfl rfl ?_
        refine aj_forget (la' := [some (.inr (.inr (some (50, 0)))), some (.inl v), some (.inl ((gSoon g (w + 1)).1)), some (.inl ((gSoon g (w + 1)).2)), some (.inl (w + 1)), none]) (by simp [ax_fg]) ?_
        refine ih19 (w + 1, g2) ?_ ?_
        · exact ⟨by omega, by omega, kz2⟩
        · omega
      · refine aj_run (C := True) (pc' := 50) (la' := [some (.inr (.inr (some (50, 0)))), some (.inl v), some (.inl ((gSoon g w).1)), some (.inl ((gSoon g w).2)), some (.inl w), some (.inl (gLa g w))]) (st' := [.inl (-1), .inl ((gSoon g w).1)]) (M' := (P, g2, r0, n)) ok_X11_soonest true 2 rfl trivial ?_
        refine aj_icmp_eq (tgt := 64) (ax_dec2 (i := .if_icmp .eq 14) (n := 3) ok_X11_soonest rfl) (by decide) (fun c5 => ?_) (fun c5 => ?_)
        · refine aj_run (C := (0 ≤ gLa g w ∧ gLa g w < n 135 0) ∧ True) (pc' := 74) (la' := [some (.inr (.inr (some (50, 0)))), some (.inl v), some (.inl w), some (.inl ((gSoon g w).2)), some (.inl w), some (.inl (gLa g w))]) (st' := [.inl (g2 135 0 (gLa g w))]) (M' := (P, g2, r0, n)) ok_X11_soonest true 6 rfl (by refine ⟨?_, trivial⟩ <;> (first | omega | (constructor <;> omega))) ?_
          refine aj_cast rfl (congrArg (fun (z9 : Int) => ([.inl z9] : List ax_V)) (show g2 135 0 (gLa g w) = gA g w 135 0 (gLa g w) from z135 _ (by omega) (by omega))) rfl ?_
          refine aj_run (C := (-2147483648 ≤ w + 1 ∧ w + 1 ≤ 2147483647) ∧ True) (pc' := 19) (la' := [some (.inr (.inr (some (50, 0)))), some (.inl v), some (.inl w), some (.inl (gA g w 135 0 (gLa g w))), some (.inl (w + 1)), some (.inl (gLa g w))]) (st' := []) (M' := (P, g2, r0, n)) ok_X11_soonest true 3 rfl (by refine ⟨?_, trivial⟩ <;> (first | omega | (constructor <;> omega))) ?_
          refine aj_cast (congrArg (fun (z9 : Int) => ([some (.inr (.inr (some (50, 0)))), some (.inl v), some (.inl z9), some (.inl (gA g w 135 0 (gLa g w))), some (.inl (w + 1)), some (.inl (gLa g w))] : List (Option ax_V))) (show w = (gSoon g (w + 1)).1 from by (rw [gSoon_s i1]; first | rw [if_pos (by omega)] | rw [if_neg (by omega)]))) rfl rfl ?_
          refine aj_cast (congrArg (fun (z9 : Int) => ([some (.inr (.inr (some (50, 0)))), some (.inl v), some (.inl ((gSoon g (w + 1)).1)), some (.inl z9), some (.inl (w + 1)), some (.inl (gLa g w))] : List (Option ax_V))) (show gA g w 135 0 (gLa g w) = (gSoon g (w + 1)).2 from by (rw [gSoon_s i1]; first | rw [if_pos (by omega)] | rw [if_neg (by omega)]))) rfl rfl ?_
          refine aj_forget (la' := [some (.inr (.inr (some (50, 0)))), some (.inl v), some (.inl ((gSoon g (w + 1)).1)), some (.inl ((gSoon g (w + 1)).2)), some (.inl (w + 1)), none]) (by simp [ax_fg]) ?_
          refine ih19 (w + 1, g2) ?_ ?_
          · exact ⟨by omega, by omega, kz2⟩
          · omega
        · refine aj_run (C := (0 ≤ gLa g w ∧ gLa g w < n 135 0) ∧ True) (pc' := 60) (la' := [some (.inr (.inr (some (50, 0)))), some (.inl v), some (.inl ((gSoon g w).1)), some (.inl ((gSoon g w).2)), some (.inl w), some (.inl (gLa g w))]) (st' := [.inl (g2 135 0 (gLa g w))]) (M' := (P, g2, r0, n)) ok_X11_soonest true 4 rfl (by refine ⟨?_, trivial⟩ <;> (first | omega | (constructor <;> omega))) ?_
          refine aj_cast rfl (congrArg (fun (z9 : Int) => ([.inl z9] : List ax_V)) (show g2 135 0 (gLa g w) = gA g w 135 0 (gLa g w) from z135 _ (by omega) (by omega))) rfl ?_
          refine aj_run (C := True) (pc' := 61) (la' := [some (.inr (.inr (some (50, 0)))), some (.inl v), some (.inl ((gSoon g w).1)), some (.inl ((gSoon g w).2)), some (.inl w), some (.inl (gLa g w))]) (st' := [.inl ((gSoon g w).2), .inl (gA g w 135 0 (gLa g w))]) (M' := (P, g2, r0, n)) ok_X11_soonest true 1 rfl trivial ?_
          refine aj_icmp_ge (tgt := 75) (ax_dec2 (i := .if_icmp .ge 14) (n := 3) ok_X11_soonest rfl) (by decide) (fun c6 => ?_) (fun c6 => ?_)
          · refine aj_run (C := (-2147483648 ≤ w + 1 ∧ w + 1 ≤ 2147483647) ∧ True) (pc' := 19) (la' := [some (.inr (.inr (some (50, 0)))), some (.inl v), some (.inl ((gSoon g w).1)), some (.inl ((gSoon g w).2)), some (.inl (w + 1)), some (.inl (gLa g w))]) (st' := []) (M' := (P, g2, r0, n)) ok_X11_soonest true 2 rfl (by refine ⟨?_, trivial⟩ <;> (first | omega | (constructor <;> omega))) ?_
            refine aj_cast (congrArg (fun (z9 : Int) => ([some (.inr (.inr (some (50, 0)))), some (.inl v), some (.inl z9), some (.inl ((gSoon g w).2)), some (.inl (w + 1)), some (.inl (gLa g w))] : List (Option ax_V))) (show (gSoon g w).1 = (gSoon g (w + 1)).1 from by (rw [gSoon_s i1]; first | rw [if_pos (by omega)] | rw [if_neg (by omega)]))) rfl rfl ?_
            refine aj_cast (congrArg (fun (z9 : Int) => ([some (.inr (.inr (some (50, 0)))), some (.inl v), some (.inl ((gSoon g (w + 1)).1)), some (.inl z9), some (.inl (w + 1)), some (.inl (gLa g w))] : List (Option ax_V))) (show (gSoon g w).2 = (gSoon g (w + 1)).2 from by (rw [gSoon_s i1]; first | rw [if_pos (by omega)] | rw [if_neg (by omega)]))) rfl rfl ?_
            refine aj_forget (la' := [some (.inr (.inr (some (50, 0)))), some (.inl v), some (.inl ((gSoon g (w + 1)).1)), some (.inl ((gSoon g (w + 1)).2)), some (.inl (w + 1)), none]) (by simp [ax_fg]) ?_
            refine ih19 (w + 1, g2) ?_ ?_
            · exact ⟨by omega, by omega, kz2⟩
            · omega
          · refine aj_run (C := (0 ≤ gLa g w ∧ gLa g w < n 135 0) ∧ True) (pc' := 74) (la' := [some (.inr (.inr (some (50, 0)))), some (.inl v), some (.inl w), some (.inl ((gSoon g w).2)), some (.inl w), some (.inl (gLa g w))]) (st' := [.inl (g2 135 0 (gLa g w))]) (M' := (P, g2, r0, n)) ok_X11_soonest true 6 rfl (by refine ⟨?_, trivial⟩ <;> (first | omega | (constructor <;> omega))) ?_
            refine aj_cast rfl (congrArg (fun (z9 : Int) => ([.inl z9] : List ax_V)) (show g2 135 0 (gLa g w) = gA g w 135 0 (gLa g w) from z135 _ (by omega) (by omega))) rfl ?_
            refine aj_run (C := (-2147483648 ≤ w + 1 ∧ w + 1 ≤ 2147483647) ∧ True) (pc' := 19) (la' := [some (.inr (.inr (some (50, 0)))), some (.inl v), some (.inl w), some (.inl (gA g w 135 0 (gLa g w))), some (.inl (w + 1)), some (.inl (gLa g w))]) (st' := []) (M' := (P, g2, r0, n)) ok_X11_soonest true 3 rfl (by refine ⟨?_, trivial⟩ <;> (first | omega | (constructor <;> omega))) ?_
            refine aj_cast (congrArg (fun (z9 : Int) => ([some (.inr (.inr (some (50, 0)))), some (.inl v), some (.inl z9), some (.inl (gA g w 135 0 (gLa g w))), some (.inl (w + 1)), some (.inl (gLa g w))] : List (Option ax_V))) (show w = (gSoon g (w + 1)).1 from by (rw [gSoon_s i1]; first | rw [if_pos (by omega)] | rw [if_neg (by omega)]))) rfl rfl ?_
            refine aj_cast (congrArg (fun (z9 : Int) => ([some (.inr (.inr (some (50, 0)))), some (.inl v), some (.inl ((gSoon g (w + 1)).1)), some (.inl z9), some (.inl (w + 1)), some (.inl (gLa g w))] : List (Option ax_V))) (show gA g w 135 0 (gLa g w) = (gSoon g (w + 1)).2 from by (rw [gSoon_s i1]; first | rw [if_pos (by omega)] | rw [if_neg (by omega)]))) rfl rfl ?_
            refine aj_forget (la' := [some (.inr (.inr (some (50, 0)))), some (.inl v), some (.inl ((gSoon g (w + 1)).1)), some (.inl ((gSoon g (w + 1)).2)), some (.inl (w + 1)), none]) (by simp [ax_fg]) ?_
            refine ih19 (w + 1, g2) ?_ ?_
            · exact ⟨by omega, by omega, kz2⟩
            · omega
  · replace c1 := bI_e0 c1
    refine aj_run (C := True) (pc' := 11) (la' := [some (.inr (.inr (some (50, 0)))), some (.inl v), none, none, none, none]) (st' := [.inl (-2)]) (M' := (P, g, r0, n)) ok_X11_soonest true 1 rfl trivial ?_
    refine aj_ret (r := some (.inl (-2))) (ax_dec2 (i := .ireturn) (n := 1) ok_X11_soonest rfl) ⟨?_, ?_, by decide, by decide⟩ rfl
    · first | (exfalso; omega) | exact ⟨ax_si (by unfold fSoon; (repeat first | rw [if_pos (by omega)] | rw [if_neg (by omega)] | rw [bI_t (by omega)] | rw [bI_f (by omega)])), _, rfl, wKp.rf⟩
    · exact ax_ro_i

set_option maxRecDepth 100000 in
set_option maxHeartbeats 4000000 in
theorem sp_beLast (x v : Int) (P : Nat → Int → Prop) (g : Nat → Int → Int → Int) (r0 : Nat → Int → Int → Option (Nat × Int)) (n : Nat → Int → Int) (hn : mLen n) (hs : wOs g) : ax_S yX11_beLast cX11_beLast 6 (some FieldType.int) 7 0 0 [.inr (.inr (some (50, 0))), .inl x, .inl v] (P, g, r0, n) (fun r M' => r = some (.inl (fBeL g x v)) ∧ ∃ g', M' = (P, g', r0, n) ∧ wKp g' g) := by
  have h2 := hs.2.2.1
  have hW0 := wWy_in hs
  refine ax_S_of (own := 11) (by decide) rfl (fun h => absurd h (by decide)) rfl (Nat.le_of_ble_eq_true rfl) ?_
  change ax_J _ _ _ _ _ _ _ _ _ _ [some (.inr (.inr (some (50, 0)))), some (.inl x), some (.inl v), none, none, none] _ _
  refine aj_run (C := True) (pc' := 2) (la' := [some (.inr (.inr (some (50, 0)))), some (.inl x), some (.inl v), none, none, none]) (st' := [.inl x, .inr (.inr (some (50, 0)))]) (M' := (P, g, r0, n)) ok_X11_beLast true 2 rfl trivial ?_
  refine aj_callV (av := [.inl x]) (st := []) (f := 50) (o := 0) (ci := 11) cal_X11_isAnt lk_11_33 ins_X11_isAnt rfl sel_X11_isAnt rfl (fun c9 h9 _ => by simpa [ax_ok] using h9) (sp_isAnt x _ _ _ _ hs.2.2.1) ⟨by decide, by decide, by decide, by decide⟩ (Nat.le_of_ble_eq_true rfl) (ax_dec2 (i := .invokevirtual 33) (n := 3) ok_X11_beLast rfl) (fun r M' hq => ?_)
  obtain ⟨rfl, rfl⟩ := hq
  change ax_J _ _ _ _ _ _ _ _ _ 5 [some (.inr (.inr (some (50, 0)))), some (.inl x), some (.inl v), none, none, none] [.inl (bI (0 ≤ x ∧ x < g 50 0 2))] (P, g, r0, n)
  refine aj_if_eq (tgt := 17) (ax_dec2 (i := .ifCond .eq 12) (n := 3) ok_X11_beLast rfl) (by decide) (fun c1 => ?_) (fun c1 => ?_)
  · replace c1 := bI_e0 c1
    refine aj_run (C := True) (pc' := 19) (la' := [some (.inr (.inr (some (50, 0)))), some (.inl x), some (.inl v), none, none, none]) (st' := [.inl (-2)]) (M' := (P, g, r0, n)) ok_X11_beLast true 1 rfl trivial ?_
    refine aj_ret (r := some (.inl (-2))) (ax_dec2 (i := .ireturn) (n := 1) ok_X11_beLast rfl) ⟨?_, ?_, by decide, by decide⟩ rfl
    · first | (exfalso; omega) | exact ⟨ax_si (by unfold fBeL; (repeat first | rw [if_pos (by omega)] | rw [if_neg (by omega)] | rw [bI_t (by omega)] | rw [bI_f (by omega)])), _, rfl, wKp.rf⟩
    · exact ax_ro_i
  · replace c1 := bI_n0 c1
    refine aj_run (C := True) (pc' := 11) (la' := [some (.inr (.inr (some (50, 0)))), some (.inl x), some (.inl v), none, none, none]) (st' := [.inl 1, .inl 0, .inl v]) (M' := (P, g, r0, n)) ok_X11_beLast true 3 rfl trivial ?_
    refine aj_callS (av := [.inl v, .inl 0, .inl 1]) (st := []) cal_X11_isIn lk_11_7 stc_X11_isIn (sp_isIn v 0 1 _ _ _ _) ⟨by decide, by decide, by decide, by decide⟩ (Nat.le_of_ble_eq_true rfl) (ax_dec2 (i := .invokestatic 7) (n := 3) ok_X11_beLast rfl) (fun r M' hq => ?_)
    obtain ⟨rfl, rfl⟩ := hq
    change ax_J _ _ _ _ _ _ _ _ _ 14 [some (.inr (.inr (some (50, 0)))), some (.inl x), some (.inl v), none, none, none] [.inl (bI (0 ≤ v ∧ v ≤ 1))] (P, g, r0, n)
    refine aj_if_ne (tgt := 20) (ax_dec2 (i := .ifCond .ne 6) (n := 3) ok_X11_beLast rfl) (by decide) (fun c2 => ?_) (fun c2 => ?_)
    · replace c2 := bI_n0 c2
      refine aj_run (C := True) (pc' := 28) (la' := [some (.inr (.inr (some (50, 0)))), some (.inl x), some (.inl v), some (.inl 0), some (.inl (-1)), some (.inl 0)]) (st' := []) (M' := (P, g, r0, n)) ok_X11_beLast true 6 rfl trivial ?_
      refine aj_cast (congrArg (fun (z9 : Int) => ([some (.inr (.inr (some (50, 0)))), some (.inl x), some (.inl v), some (.inl z9), some (.inl (-1)), some (.inl 0)] : List (Option ax_V))) (show 0 = (wCf (pBeL g x) 0).1 from by rfl)) rfl rfl ?_
      refine aj_cast (congrArg (fun (z9 : Int) => ([some (.inr (.inr (some (50, 0)))), some (.inl x), some (.inl v), some (.inl ((wCf (pBeL g x) 0).1)), some (.inl z9), some (.inl 0)] : List (Option ax_V))) (show (-1) = (wCf (pBeL g x) 0).2 from by rfl)) rfl rfl ?_
      refine aj_loop (σ := (Int) × (Nat → Int → Int → Int)) (fun xL => 0 ≤ xL.1 ∧ xL.1 ≤ wWy g ∧ wKp xL.2 g) (fun xL => (wWy g - xL.1).toNat) (fun xL => [some (.inr (.inr (some (50, 0)))), some (.inl x), some (.inl v), some (.inl ((wCf (pBeL g x) xL.1).1)), some (.inl ((wCf (pBeL g x) xL.1).2)), some (.inl xL.1)]) (fun xL => []) (fun xL => (P, xL.2, r0, n)) ?_ (0, g) ?_
      rotate_left
      · exact ⟨by omega, by omega, wKp.rf⟩
      rintro ⟨w, g1⟩ hI ih28
      try dsimp only at hI ih28
      obtain ⟨i1, i2, i3⟩ := hI
      change ax_J _ _ _ _ _ _ _ _ _ 28 [some (.inr (.inr (some (50, 0)))), some (.inl x), some (.inl v), some (.inl ((wCf (pBeL g x) w).1)), some (.inl ((wCf (pBeL g x) w).2)), some (.inl w)] [] (P, g1, r0, n)
      have zs1 : g1 50 0 2 = g 50 0 2 := i3.2 0 2 (by omega)
      have hW := wWy_in hs
      have eW : ax_shl 1 (g1 50 0 2) = wWy g := by rw [zs1]; rfl
      have hc := wCf_in (p := pBeL g x) i1
      refine aj_run (C := True) (pc' := 36) (la' := [some (.inr (.inr (some (50, 0)))), some (.inl x), some (.inl v), some (.inl ((wCf (pBeL g x) w).1)), some (.inl ((wCf (pBeL g x) w).2)), some (.inl w)]) (st' := [.inl (ax_shl 1 (g1 50 0 2)), .inl w]) (M' := (P, g1, r0, n)) ok_X11_beLast true 5 rfl trivial ?_
      refine aj_icmp_ge (tgt := 75) (ax_dec2 (i := .if_icmp .ge 39) (n := 3) ok_X11_beLast rfl) (by decide) (fun c3 => ?_) (fun c3 => ?_)
      · refine aj_run (C := True) (pc' := 76) (la' := [some (.inr (.inr (some (50, 0)))), some (.inl x), some (.inl v), some (.inl ((wCf (pBeL g x) w).1)), some (.inl ((wCf (pBeL g x) w).2)), some (.inl w)]) (st' := [.inl v]) (M' := (P, g1, r0, n)) ok_X11_beLast true 1 rfl trivial ?_
        refine aj_if_ne (tgt := 83) (ax_dec2 (i := .ifCond .ne 7) (n := 3) ok_X11_beLast rfl) (by decide) (fun c4 => ?_) (fun c4 => ?_)
        · refine aj_run (C := True) (pc' := 85) (la' := [some (.inr (.inr (some (50, 0)))), some (.inl x), some (.inl v), some (.inl ((wCf (pBeL g x) w).1)), some (.inl ((wCf (pBeL g x) w).2)), some (.inl w)]) (st' := [.inl ((wCf (pBeL g x) w).2)]) (M' := (P, g1, r0, n)) ok_X11_beLast true 1 rfl trivial ?_
          refine aj_ret (r := some (.inl ((wCf (pBeL g x) w).2))) (ax_dec2 (i := .ireturn) (n := 1) ok_X11_beLast rfl) ⟨?_, ?_, by decide, by decide⟩ rfl
          · first | (exfalso; omega) | exact ⟨ax_si (by unfold fBeL; (repeat first | rw [if_pos (by omega)] | rw [if_neg (by omega)] | rw [bI_t (by omega)] | rw [bI_f (by omega)]); rw [show wWy g = w by omega]), _, rfl, i3⟩
          · exact ax_ro_i
        · refine aj_run (C := True) (pc' := 85) (la' := [some (.inr (.inr (some (50, 0)))), some (.inl x), some (.inl v), some (.inl ((wCf (pBeL g x) w).1)), some (.inl ((wCf (pBeL g x) w).2)), some (.inl w)]) (st' := [.inl ((wCf (pBeL g x) w).1)]) (M' := (P, g1, r0, n)) ok_X11_beLast true 2 rfl trivial ?_
          refine aj_ret (r := some (.inl ((wCf (pBeL g x) w).1))) (ax_dec2 (i := .ireturn) (n := 1) ok_X11_beLast rfl) ⟨?_, ?_, by decide, by decide⟩ rfl
          · first | (exfalso; omega) | exact ⟨ax_si (by unfold fBeL; (repeat first | rw [if_pos (by omega)] | rw [if_neg (by omega)] | rw [bI_t (by omega)] | rw [bI_f (by omega)]); rw [show wWy g = w by omega]), _, rfl, i3⟩
          · exact ax_ro_i
      · refine aj_run (C := True) (pc' := 42) (la' := [some (.inr (.inr (some (50, 0)))), some (.inl x), some (.inl v), some (.inl ((wCf (pBeL g x) w).1)), some (.inl ((wCf (pBeL g x) w).2)), some (.inl w)]) (st' := [.inl w, .inr (.inr (some (50, 0)))]) (M' := (P, g1, r0, n)) ok_X11_beLast true 2 rfl trivial ?_
        refine aj_callV (av := [.inl w]) (st := []) (f := 50) (o := 0) (ci := 11) cal_X11_goAll lk_11_282 ins_X11_goAll rfl sel_X11_goAll rfl (fun c9 h9 _ => by simpa [ax_ok] using h9) (sp_goAll w _ _ _ _ hn (wOs_k i3 hs)) ⟨by decide, by decide, by decide, by decide⟩ (Nat.le_of_ble_eq_true rfl) (ax_dec2 (i := .invokevirtual 282) (n := 3) ok_X11_beLast rfl) (fun r M' hq => ?_)
        obtain ⟨rfl, g2, rfl, hg2, kpg2⟩ := hq
        have kz2 : wKp g2 g := kpg2.tr i3
        have hz2 : wEd g2 (gA g w) := wEd.tr (wEd_e hg2) (gA_k (wKr_p i3))
        have zs2 : g2 50 0 2 = g 50 0 2 := kz2.2 0 2 (by omega)
        have z135 : ∀ q, 0 ≤ q → q < g 50 0 2 → g2 135 0 q = gA g w 135 0 q := fun q z1 z2 => hz2.2.2 135 q (by decide) (by decide) z1 (by rw [gA_sz]; exact z2)
        change ax_J _ _ _ _ _ _ _ _ _ 45 [some (.inr (.inr (some (50, 0)))), some (.inl x), some (.inl v), some (.inl ((wCf (pBeL g x) w).1)), some (.inl ((wCf (pBeL g x) w).2)), some (.inl w)] [] (P, g2, r0, n)
        refine aj_run (C := True) (pc' := 46) (la' := [some (.inr (.inr (some (50, 0)))), some (.inl x), some (.inl v), some (.inl ((wCf (pBeL g x) w).1)), some (.inl ((wCf (pBeL g x) w).2)), some (.inl w)]) (st' := [.inr (.inr (some (50, 0)))]) (M' := (P, g2, r0, n)) ok_X11_beLast true 1 rfl trivial ?_
        refine aj_callV (av := []) (st := []) (f := 50) (o := 0) (ci := 11) cal_X11_lastOff lk_11_288 ins_X11_lastOff rfl sel_X11_lastOff rfl (fun c9 h9 _ => by simpa [ax_ok] using h9) (sp_lastOff _ _ _ _ hn (by rw [zs2]; exact h2)) ⟨by decide, by decide, by decide, by decide⟩ (Nat.le_of_ble_eq_true rfl) (ax_dec2 (i := .invokevirtual 288) (n := 3) ok_X11_beLast rfl) (fun r M' hq => ?_)
        obtain ⟨rfl, rfl⟩ := hq
        change ax_J _ _ _ _ _ _ _ _ _ 49 [some (.inr (.inr (some (50, 0)))), some (.inl x), some (.inl v), some (.inl ((wCf (pBeL g x) w).1)), some (.inl ((wCf (pBeL g x) w).2)), some (.inl w)] [.inl (wLast (g2 135 0) (g2 50 0 2))] (P, g2, r0, n)
        have hl2 : wLast (g2 135 0) (g2 50 0 2) = gLa g w := by unfold gLa; rw [zs2]; exact wLast_c z135
        have hl3 := wLast_in (off := gA g w 135 0) (n := g 50 0 2) (by omega)
        change gLa g w = -1 ∨ (0 ≤ gLa g w ∧ gLa g w < g 50 0 2) at hl3
        rw [hl2]
        refine aj_run (C := True) (pc' := 50) (la' := [some (.inr (.inr (some (50, 0)))), some (.inl x), some (.inl v), some (.inl ((wCf (pBeL g x) w).1)), some (.inl ((wCf (pBeL g x) w).2)), some (.inl w)]) (st' := [.inl x, .inl (gLa g w)]) (M' := (P, g2, r0, n)) ok_X11_beLast true 1 rfl trivial ?_
        refine aj_icmp_ne (tgt := 69) (ax_dec2 (i := .if_icmp .ne 19) (n := 3) ok_X11_beLast rfl) (by decide) (fun c5 => ?_) (fun c5 => ?_)
        · refine aj_run (C := (-2147483648 ≤ w + 1 ∧ w + 1 ≤ 2147483647) ∧ True) (pc' := 28) (la' := [some (.inr (.inr (some (50, 0)))), some (.inl x), some (.inl v), some (.inl ((wCf (pBeL g x) w).1)), some (.inl ((wCf (pBeL g x) w).2)), some (.inl (w + 1))]) (st' := []) (M' := (P, g2, r0, n)) ok_X11_beLast true 2 rfl (by refine ⟨?_, trivial⟩ <;> (omega)) ?_
          refine aj_cast (congrArg (fun (z9 : Int) => ([some (.inr (.inr (some (50, 0)))), some (.inl x), some (.inl v), some (.inl z9), some (.inl ((wCf (pBeL g x) w).2)), some (.inl (w + 1))] : List (Option ax_V))) (show (wCf (pBeL g x) w).1 = (wCf (pBeL g x) (w + 1)).1 from by (rw [wCf_s i1]; unfold pBeL; first | rw [bI_t (by omega), if_pos (by decide)] | rw [bI_f (by omega), if_neg (by decide)]))) rfl rfl ?_
          refine aj_cast (congrArg (fun (z9 : Int) => ([some (.inr (.inr (some (50, 0)))), some (.inl x), some (.inl v), some (.inl ((wCf (pBeL g x) (w + 1)).1)), some (.inl z9), some (.inl (w + 1))] : List (Option ax_V))) (show (wCf (pBeL g x) w).2 = (wCf (pBeL g x) (w + 1)).2 from by (rw [wCf_s i1]; (first | rw [if_pos (show pBeL g x w ≠ 0 by unfold pBeL; rw [bI_t (by omega)]; decide)] | rw [if_neg (show ¬ pBeL g x w ≠ 0 by unfold pBeL; rw [bI_f (by omega)]; decide)]); try dsimp only; try (first | rw [if_pos (by omega)] | rw [if_neg (by omega)])))) rfl rfl ?_
          refine ih28 (w + 1, g2) ?_ ?_
          · exact ⟨by omega, by omega, kz2⟩
          · omega
        · refine aj_run (C := True) (pc' := 54) (la' := [some (.inr (.inr (some (50, 0)))), some (.inl x), some (.inl v), some (.inl ((wCf (pBeL g x) w).1)), some (.inl ((wCf (pBeL g x) w).2)), some (.inl w)]) (st' := [.inl ((wCf (pBeL g x) w).1)]) (M' := (P, g2, r0, n)) ok_X11_beLast true 1 rfl trivial ?_
          refine aj_if_ne (tgt := 62) (ax_dec2 (i := .ifCond .ne 8) (n := 3) ok_X11_beLast rfl) (by decide) (fun c6 => ?_) (fun c6 => ?_)
          · refine aj_run (C := (-2147483648 ≤ ((wCf (pBeL g x) w).1) + 1 ∧ ((wCf (pBeL g x) w).1) + 1 ≤ 2147483647) ∧ (-2147483648 ≤ w + 1 ∧ w + 1 ≤ 2147483647) ∧ True) (pc' := 28) (la' := [some (.inr (.inr (some (50, 0)))), some (.inl x), some (.inl v), some (.inl (((wCf (pBeL g x) w).1) + 1)), some (.inl ((wCf (pBeL g x) w).2)), some (.inl (w + 1))]) (st' := []) (M' := (P, g2, r0, n)) ok_X11_beLast true 5 rfl (by refine ⟨?_, ?_, trivial⟩ <;> (omega)) ?_
            refine aj_cast (congrArg (fun (z9 : Int) => ([some (.inr (.inr (some (50, 0)))), some (.inl x), some (.inl v), some (.inl z9), some (.inl ((wCf (pBeL g x) w).2)), some (.inl (w + 1))] : List (Option ax_V))) (show ((wCf (pBeL g x) w).1) + 1 = (wCf (pBeL g x) (w + 1)).1 from by (rw [wCf_s i1]; unfold pBeL; first | rw [bI_t (by omega), if_pos (by decide)] | rw [bI_f (by omega), if_neg (by decide)]))) rfl rfl ?_
            refine aj_cast (congrArg (fun (z9 : Int) => ([some (.inr (.inr (some (50, 0)))), some (.inl x), some (.inl v), some (.inl ((wCf (pBeL g x) (w + 1)).1)), some (.inl z9), some (.inl (w + 1))] : List (Option ax_V))) (show (wCf (pBeL g x) w).2 = (wCf (pBeL g x) (w + 1)).2 from by (rw [wCf_s i1]; (first | rw [if_pos (show pBeL g x w ≠ 0 by unfold pBeL; rw [bI_t (by omega)]; decide)] | rw [if_neg (show ¬ pBeL g x w ≠ 0 by unfold pBeL; rw [bI_f (by omega)]; decide)]); try dsimp only; try (first | rw [if_pos (by omega)] | rw [if_neg (by omega)])))) rfl rfl ?_
            refine ih28 (w + 1, g2) ?_ ?_
            · exact ⟨by omega, by omega, kz2⟩
            · omega
          · refine aj_run (C := (-2147483648 ≤ ((wCf (pBeL g x) w).1) + 1 ∧ ((wCf (pBeL g x) w).1) + 1 ≤ 2147483647) ∧ (-2147483648 ≤ w + 1 ∧ w + 1 ≤ 2147483647) ∧ True) (pc' := 28) (la' := [some (.inr (.inr (some (50, 0)))), some (.inl x), some (.inl v), some (.inl (((wCf (pBeL g x) w).1) + 1)), some (.inl w), some (.inl (w + 1))]) (st' := []) (M' := (P, g2, r0, n)) ok_X11_beLast true 6 rfl (by refine ⟨?_, ?_, trivial⟩ <;> (omega)) ?_
            refine aj_cast (congrArg (fun (z9 : Int) => ([some (.inr (.inr (some (50, 0)))), some (.inl x), some (.inl v), some (.inl z9), some (.inl w), some (.inl (w + 1))] : List (Option ax_V))) (show ((wCf (pBeL g x) w).1) + 1 = (wCf (pBeL g x) (w + 1)).1 from by (rw [wCf_s i1]; unfold pBeL; first | rw [bI_t (by omega), if_pos (by decide)] | rw [bI_f (by omega), if_neg (by decide)]))) rfl rfl ?_
            refine aj_cast (congrArg (fun (z9 : Int) => ([some (.inr (.inr (some (50, 0)))), some (.inl x), some (.inl v), some (.inl ((wCf (pBeL g x) (w + 1)).1)), some (.inl z9), some (.inl (w + 1))] : List (Option ax_V))) (show w = (wCf (pBeL g x) (w + 1)).2 from by (rw [wCf_s i1]; (first | rw [if_pos (show pBeL g x w ≠ 0 by unfold pBeL; rw [bI_t (by omega)]; decide)] | rw [if_neg (show ¬ pBeL g x w ≠ 0 by unfold pBeL; rw [bI_f (by omega)]; decide)]); try dsimp only; try (first | rw [if_pos (by omega)] | rw [if_neg (by omega)])))) rfl rfl ?_
            refine ih28 (w + 1, g2) ?_ ?_
            · exact ⟨by omega, by omega, kz2⟩
            · omega
    · replace c2 := bI_e0 c2
      refine aj_run (C := True) (pc' := 19) (la' := [some (.inr (.inr (some (50, 0)))), some (.inl x), some (.inl v), none, none, none]) (st' := [.inl (-2)]) (M' := (P, g, r0, n)) ok_X11_beLast true 1 rfl trivial ?_
      refine aj_ret (r := some (.inl (-2))) (ax_dec2 (i := .ireturn) (n := 1) ok_X11_beLast rfl) ⟨?_, ?_, by decide, by decide⟩ rfl
      · first | (exfalso; omega) | exact ⟨ax_si (by unfold fBeL; (repeat first | rw [if_pos (by omega)] | rw [if_neg (by omega)] | rw [bI_t (by omega)] | rw [bI_f (by omega)])), _, rfl, wKp.rf⟩
      · exact ax_ro_i

set_option maxRecDepth 100000 in
set_option maxHeartbeats 4000000 in
theorem sp_longest (x v : Int) (P : Nat → Int → Prop) (g : Nat → Int → Int → Int) (r0 : Nat → Int → Int → Option (Nat × Int)) (n : Nat → Int → Int) (hn : mLen n) (hs : wOs g) : ax_S yX11_longest cX11_longest 6 (some FieldType.int) 7 0 0 [.inr (.inr (some (50, 0))), .inl x, .inl v] (P, g, r0, n) (fun r M' => r = some (.inl (fLon g x v)) ∧ ∃ g', M' = (P, g', r0, n) ∧ wKp g' g) := by
  have n135 : n 135 0 = 7 := hn (135, 7) (by decide)
  have h2 := hs.2.2.1
  have hW0 := wWy_in hs
  refine ax_S_of (own := 11) (by decide) rfl (fun h => absurd h (by decide)) rfl (Nat.le_of_ble_eq_true rfl) ?_
  change ax_J _ _ _ _ _ _ _ _ _ _ [some (.inr (.inr (some (50, 0)))), some (.inl x), some (.inl v), none, none, none] _ _
  refine aj_run (C := True) (pc' := 2) (la' := [some (.inr (.inr (some (50, 0)))), some (.inl x), some (.inl v), none, none, none]) (st' := [.inl x, .inr (.inr (some (50, 0)))]) (M' := (P, g, r0, n)) ok_X11_longest true 2 rfl trivial ?_
  refine aj_callV (av := [.inl x]) (st := []) (f := 50) (o := 0) (ci := 11) cal_X11_isAnt lk_11_33 ins_X11_isAnt rfl sel_X11_isAnt rfl (fun c9 h9 _ => by simpa [ax_ok] using h9) (sp_isAnt x _ _ _ _ hs.2.2.1) ⟨by decide, by decide, by decide, by decide⟩ (Nat.le_of_ble_eq_true rfl) (ax_dec2 (i := .invokevirtual 33) (n := 3) ok_X11_longest rfl) (fun r M' hq => ?_)
  obtain ⟨rfl, rfl⟩ := hq
  change ax_J _ _ _ _ _ _ _ _ _ 5 [some (.inr (.inr (some (50, 0)))), some (.inl x), some (.inl v), none, none, none] [.inl (bI (0 ≤ x ∧ x < g 50 0 2))] (P, g, r0, n)
  refine aj_if_eq (tgt := 17) (ax_dec2 (i := .ifCond .eq 12) (n := 3) ok_X11_longest rfl) (by decide) (fun c1 => ?_) (fun c1 => ?_)
  · replace c1 := bI_e0 c1
    refine aj_run (C := True) (pc' := 19) (la' := [some (.inr (.inr (some (50, 0)))), some (.inl x), some (.inl v), none, none, none]) (st' := [.inl (-2)]) (M' := (P, g, r0, n)) ok_X11_longest true 1 rfl trivial ?_
    refine aj_ret (r := some (.inl (-2))) (ax_dec2 (i := .ireturn) (n := 1) ok_X11_longest rfl) ⟨?_, ?_, by decide, by decide⟩ rfl
    · first | (exfalso; omega) | exact ⟨ax_si (by unfold fLon; (repeat first | rw [if_pos (by omega)] | rw [if_neg (by omega)] | rw [bI_t (by omega)] | rw [bI_f (by omega)])), _, rfl, wKp.rf⟩
    · exact ax_ro_i
  · replace c1 := bI_n0 c1
    refine aj_run (C := True) (pc' := 11) (la' := [some (.inr (.inr (some (50, 0)))), some (.inl x), some (.inl v), none, none, none]) (st' := [.inl 1, .inl 0, .inl v]) (M' := (P, g, r0, n)) ok_X11_longest true 3 rfl trivial ?_
    refine aj_callS (av := [.inl v, .inl 0, .inl 1]) (st := []) cal_X11_isIn lk_11_7 stc_X11_isIn (sp_isIn v 0 1 _ _ _ _) ⟨by decide, by decide, by decide, by decide⟩ (Nat.le_of_ble_eq_true rfl) (ax_dec2 (i := .invokestatic 7) (n := 3) ok_X11_longest rfl) (fun r M' hq => ?_)
    obtain ⟨rfl, rfl⟩ := hq
    change ax_J _ _ _ _ _ _ _ _ _ 14 [some (.inr (.inr (some (50, 0)))), some (.inl x), some (.inl v), none, none, none] [.inl (bI (0 ≤ v ∧ v ≤ 1))] (P, g, r0, n)
    refine aj_if_ne (tgt := 20) (ax_dec2 (i := .ifCond .ne 6) (n := 3) ok_X11_longest rfl) (by decide) (fun c2 => ?_) (fun c2 => ?_)
    · replace c2 := bI_n0 c2
      refine aj_run (C := True) (pc' := 28) (la' := [some (.inr (.inr (some (50, 0)))), some (.inl x), some (.inl v), some (.inl (-1)), some (.inl (-1)), some (.inl 0)]) (st' := []) (M' := (P, g, r0, n)) ok_X11_longest true 6 rfl trivial ?_
      refine aj_cast (congrArg (fun (z9 : Int) => ([some (.inr (.inr (some (50, 0)))), some (.inl x), some (.inl v), some (.inl z9), some (.inl (-1)), some (.inl 0)] : List (Option ax_V))) (show (-1) = (gLon g x 0).1 from by rfl)) rfl rfl ?_
      refine aj_cast (congrArg (fun (z9 : Int) => ([some (.inr (.inr (some (50, 0)))), some (.inl x), some (.inl v), some (.inl ((gLon g x 0).1)), some (.inl z9), some (.inl 0)] : List (Option ax_V))) (show (-1) = (gLon g x 0).2 from by rfl)) rfl rfl ?_
      refine aj_loop (σ := (Int) × (Nat → Int → Int → Int)) (fun xL => 0 ≤ xL.1 ∧ xL.1 ≤ wWy g ∧ wKp xL.2 g) (fun xL => (wWy g - xL.1).toNat) (fun xL => [some (.inr (.inr (some (50, 0)))), some (.inl x), some (.inl v), some (.inl ((gLon g x xL.1).1)), some (.inl ((gLon g x xL.1).2)), some (.inl xL.1)]) (fun xL => []) (fun xL => (P, xL.2, r0, n)) ?_ (0, g) ?_
      rotate_left
      · exact ⟨by omega, by omega, wKp.rf⟩
      rintro ⟨w, g1⟩ hI ih28
      try dsimp only at hI ih28
      obtain ⟨i1, i2, i3⟩ := hI
      change ax_J _ _ _ _ _ _ _ _ _ 28 [some (.inr (.inr (some (50, 0)))), some (.inl x), some (.inl v), some (.inl ((gLon g x w).1)), some (.inl ((gLon g x w).2)), some (.inl w)] [] (P, g1, r0, n)
      have zs1 : g1 50 0 2 = g 50 0 2 := i3.2 0 2 (by omega)
      have hW := wWy_in hs
      have eW : ax_shl 1 (g1 50 0 2) = wWy g := by rw [zs1]; rfl
      refine aj_run (C := True) (pc' := 36) (la' := [some (.inr (.inr (some (50, 0)))), some (.inl x), some (.inl v), some (.inl ((gLon g x w).1)), some (.inl ((gLon g x w).2)), some (.inl w)]) (st' := [.inl (ax_shl 1 (g1 50 0 2)), .inl w]) (M' := (P, g1, r0, n)) ok_X11_longest true 5 rfl trivial ?_
      refine aj_icmp_ge (tgt := 73) (ax_dec2 (i := .if_icmp .ge 37) (n := 3) ok_X11_longest rfl) (by decide) (fun c3 => ?_) (fun c3 => ?_)
      · refine aj_run (C := True) (pc' := 74) (la' := [some (.inr (.inr (some (50, 0)))), some (.inl x), some (.inl v), some (.inl ((gLon g x w).1)), some (.inl ((gLon g x w).2)), some (.inl w)]) (st' := [.inl v]) (M' := (P, g1, r0, n)) ok_X11_longest true 1 rfl trivial ?_
        refine aj_if_ne (tgt := 81) (ax_dec2 (i := .ifCond .ne 7) (n := 3) ok_X11_longest rfl) (by decide) (fun c4 => ?_) (fun c4 => ?_)
        · refine aj_run (C := True) (pc' := 83) (la' := [some (.inr (.inr (some (50, 0)))), some (.inl x), some (.inl v), some (.inl ((gLon g x w).1)), some (.inl ((gLon g x w).2)), some (.inl w)]) (st' := [.inl ((gLon g x w).2)]) (M' := (P, g1, r0, n)) ok_X11_longest true 1 rfl trivial ?_
          refine aj_ret (r := some (.inl ((gLon g x w).2))) (ax_dec2 (i := .ireturn) (n := 1) ok_X11_longest rfl) ⟨?_, ?_, by decide, by decide⟩ rfl
          · first | (exfalso; omega) | exact ⟨ax_si (by unfold fLon; (repeat first | rw [if_pos (by omega)] | rw [if_neg (by omega)] | rw [bI_t (by omega)] | rw [bI_f (by omega)]); rw [show wWy g = w by omega]), _, rfl, i3⟩
          · exact ax_ro_i
        · refine aj_run (C := True) (pc' := 83) (la' := [some (.inr (.inr (some (50, 0)))), some (.inl x), some (.inl v), some (.inl ((gLon g x w).1)), some (.inl ((gLon g x w).2)), some (.inl w)]) (st' := [.inl ((gLon g x w).1)]) (M' := (P, g1, r0, n)) ok_X11_longest true 2 rfl trivial ?_
          refine aj_ret (r := some (.inl ((gLon g x w).1))) (ax_dec2 (i := .ireturn) (n := 1) ok_X11_longest rfl) ⟨?_, ?_, by decide, by decide⟩ rfl
          · first | (exfalso; omega) | exact ⟨ax_si (by unfold fLon; (repeat first | rw [if_pos (by omega)] | rw [if_neg (by omega)] | rw [bI_t (by omega)] | rw [bI_f (by omega)]); rw [show wWy g = w by omega]), _, rfl, i3⟩
          · exact ax_ro_i
      · refine aj_run (C := True) (pc' := 42) (la' := [some (.inr (.inr (some (50, 0)))), some (.inl x), some (.inl v), some (.inl ((gLon g x w).1)), some (.inl ((gLon g x w).2)), some (.inl w)]) (st' := [.inl w, .inr (.inr (some (50, 0)))]) (M' := (P, g1, r0, n)) ok_X11_longest true 2 rfl trivial ?_
        refine aj_callV (av := [.inl w]) (st := []) (f := 50) (o := 0) (ci := 11) cal_X11_goAll lk_11_282 ins_X11_goAll rfl sel_X11_goAll rfl (fun c9 h9 _ => by simpa [ax_ok] using h9) (sp_goAll w _ _ _ _ hn (wOs_k i3 hs)) ⟨by decide, by decide, by decide, by decide⟩ (Nat.le_of_ble_eq_true rfl) (ax_dec2 (i := .invokevirtual 282) (n := 3) ok_X11_longest rfl) (fun r M' hq => ?_)
        obtain ⟨rfl, g2, rfl, hg2, kpg2⟩ := hq
        have kz2 : wKp g2 g := kpg2.tr i3
        have hz2 : wEd g2 (gA g w) := wEd.tr (wEd_e hg2) (gA_k (wKr_p i3))
        have zs2 : g2 50 0 2 = g 50 0 2 := kz2.2 0 2 (by omega)
        have z135 : ∀ q, 0 ≤ q → q < g 50 0 2 → g2 135 0 q = gA g w 135 0 q := fun q z1 z2 => hz2.2.2 135 q (by decide) (by decide) z1 (by rw [gA_sz]; exact z2)
        change ax_J _ _ _ _ _ _ _ _ _ 45 [some (.inr (.inr (some (50, 0)))), some (.inl x), some (.inl v), some (.inl ((gLon g x w).1)), some (.inl ((gLon g x w).2)), some (.inl w)] [] (P, g2, r0, n)
        refine aj_run (C := (0 ≤ x ∧ x < n 135 0) ∧ True) (pc' := 53) (la' := [some (.inr (.inr (some (50, 0)))), some (.inl x), some (.inl v), some (.inl ((gLon g x w).1)), some (.inl ((gLon g x w).2)), some (.inl w)]) (st' := [.inl ((gLon g x w).2), .inl (g2 135 0 x)]) (M' := (P, g2, r0, n)) ok_X11_longest true 5 rfl (by refine ⟨?_, trivial⟩ <;> (omega)) ?_
        refine aj_icmp_le (tgt := 67) (ax_dec2 (i := .if_icmp .le 14) (n := 3) ok_X11_longest rfl) (by decide) (fun c5 => ?_) (fun c5 => ?_)
        · refine aj_run (C := (-2147483648 ≤ w + 1 ∧ w + 1 ≤ 2147483647) ∧ True) (pc' := 28) (la' := [some (.inr (.inr (some (50, 0)))), some (.inl x), some (.inl v), some (.inl ((gLon g x w).1)), some (.inl ((gLon g x w).2)), some (.inl (w + 1))]) (st' := []) (M' := (P, g2, r0, n)) ok_X11_longest true 2 rfl (by refine ⟨?_, trivial⟩ <;> (omega)) ?_
          refine aj_cast (congrArg (fun (z9 : Int) => ([some (.inr (.inr (some (50, 0)))), some (.inl x), some (.inl v), some (.inl z9), some (.inl ((gLon g x w).2)), some (.inl (w + 1))] : List (Option ax_V))) (show (gLon g x w).1 = (gLon g x (w + 1)).1 from by (rw [gLon_s i1]; have z9 := z135 x (by omega) (by omega); first | rw [if_pos (by omega)] | rw [if_neg (by omega)]))) rfl rfl ?_
          refine aj_cast (congrArg (fun (z9 : Int) => ([some (.inr (.inr (some (50, 0)))), some (.inl x), some (.inl v), some (.inl ((gLon g x (w + 1)).1)), some (.inl z9), some (.inl (w + 1))] : List (Option ax_V))) (show (gLon g x w).2 = (gLon g x (w + 1)).2 from by (rw [gLon_s i1]; have z9 := z135 x (by omega) (by omega); first | (rw [if_pos (by omega)]; exact z9) | rw [if_neg (by omega)]))) rfl rfl ?_
          refine ih28 (w + 1, g2) ?_ ?_
          · exact ⟨by omega, by omega, kz2⟩
          · omega
        · refine aj_run (C := (0 ≤ x ∧ x < n 135 0) ∧ (-2147483648 ≤ w + 1 ∧ w + 1 ≤ 2147483647) ∧ True) (pc' := 28) (la' := [some (.inr (.inr (some (50, 0)))), some (.inl x), some (.inl v), some (.inl w), some (.inl (g2 135 0 x)), some (.inl (w + 1))]) (st' := []) (M' := (P, g2, r0, n)) ok_X11_longest true 9 rfl (by refine ⟨?_, ?_, trivial⟩ <;> (omega)) ?_
          refine aj_cast (congrArg (fun (z9 : Int) => ([some (.inr (.inr (some (50, 0)))), some (.inl x), some (.inl v), some (.inl z9), some (.inl (g2 135 0 x)), some (.inl (w + 1))] : List (Option ax_V))) (show w = (gLon g x (w + 1)).1 from by (rw [gLon_s i1]; have z9 := z135 x (by omega) (by omega); first | rw [if_pos (by omega)] | rw [if_neg (by omega)]))) rfl rfl ?_
          refine aj_cast (congrArg (fun (z9 : Int) => ([some (.inr (.inr (some (50, 0)))), some (.inl x), some (.inl v), some (.inl ((gLon g x (w + 1)).1)), some (.inl z9), some (.inl (w + 1))] : List (Option ax_V))) (show g2 135 0 x = (gLon g x (w + 1)).2 from by (rw [gLon_s i1]; have z9 := z135 x (by omega) (by omega); first | (rw [if_pos (by omega)]; exact z9) | rw [if_neg (by omega)]))) rfl rfl ?_
          refine ih28 (w + 1, g2) ?_ ?_
          · exact ⟨by omega, by omega, kz2⟩
          · omega
    · replace c2 := bI_e0 c2
      refine aj_run (C := True) (pc' := 19) (la' := [some (.inr (.inr (some (50, 0)))), some (.inl x), some (.inl v), none, none, none]) (st' := [.inl (-2)]) (M' := (P, g, r0, n)) ok_X11_longest true 1 rfl trivial ?_
      refine aj_ret (r := some (.inl (-2))) (ax_dec2 (i := .ireturn) (n := 1) ok_X11_longest rfl) ⟨?_, ?_, by decide, by decide⟩ rfl
      · first | (exfalso; omega) | exact ⟨ax_si (by unfold fLon; (repeat first | rw [if_pos (by omega)] | rw [if_neg (by omega)] | rw [bI_t (by omega)] | rw [bI_f (by omega)])), _, rfl, wKp.rf⟩
      · exact ax_ro_i

set_option maxRecDepth 100000 in
set_option maxHeartbeats 4000000 in
theorem sp_isHeard (s v : Int) (P : Nat → Int → Prop) (g : Nat → Int → Int → Int) (r0 : Nat → Int → Int → Option (Nat × Int)) (n : Nat → Int → Int) (hn : mLen n) (hs : wOs g) (hz : ∀ s, 0 ≤ s → s ≤ 3 → 0 ≤ g 156 0 s ∧ g 156 0 s ≤ 40) (hsh : 0 ≤ s ∧ s ≤ 3) : ax_S yX11_isHeard cX11_isHeard 6 (some FieldType.boolean) 6 0 0 [.inr (.inr (some (50, 0))), .inl s, .inl v] (P, g, r0, n) (fun r M' => r = some (.inl (fHr g s v)) ∧ ∃ g', M' = (P, g', r0, n) ∧ wKp g' g) := by
  have n156 : n 156 0 = 4 := hn (156, 4) (by decide)
  have n157 : n 157 0 = 160 := hn (157, 160) (by decide)
  have hsB : wOs (wBegin g v) := wOs_s beg_ss hs
  have hdB : wOd (wBegin g v) := beg_od hs
  refine ax_S_of (own := 11) (by decide) rfl (fun h => absurd h (by decide)) rfl (Nat.le_of_ble_eq_true rfl) ?_
  change ax_J _ _ _ _ _ _ _ _ _ _ [some (.inr (.inr (some (50, 0)))), some (.inl s), some (.inl v), none, none, none] _ _
  refine aj_run (C := True) (pc' := 2) (la' := [some (.inr (.inr (some (50, 0)))), some (.inl s), some (.inl v), none, none, none]) (st' := [.inl v, .inr (.inr (some (50, 0)))]) (M' := (P, g, r0, n)) ok_X11_isHeard true 2 rfl trivial ?_
  refine aj_callV (av := [.inl v]) (st := []) (f := 50) (o := 0) (ci := 11) cal_X11_begin lk_11_271 ins_X11_begin rfl sel_X11_begin rfl (fun c9 h9 _ => by simpa [ax_ok] using h9) (sp_begin v _ _ _ _ hn hs.2.2.1) ⟨by decide, by decide, by decide, by decide⟩ (Nat.le_of_ble_eq_true rfl) (ax_dec2 (i := .invokevirtual 271) (n := 3) ok_X11_isHeard rfl) (fun r M' hq => ?_)
  obtain ⟨rfl, rfl⟩ := hq
  change ax_J _ _ _ _ _ _ _ _ _ 5 [some (.inr (.inr (some (50, 0)))), some (.inl s), some (.inl v), none, none, none] [] (P, wBegin g v, r0, n)
  refine aj_run (C := True) (pc' := 13) (la' := [some (.inr (.inr (some (50, 0)))), some (.inl s), some (.inl v), some (.inl 0), some (.inl 1), some (.inl 0)]) (st' := []) (M' := (P, wBegin g v, r0, n)) ok_X11_isHeard true 6 rfl trivial ?_
  refine aj_cast (congrArg (fun (z9 : Int) => ([some (.inr (.inr (some (50, 0)))), some (.inl s), some (.inl v), some (.inl z9), some (.inl 1), some (.inl 0)] : List (Option ax_V))) (show 0 = (gHr g s v 0).2 from by rfl)) rfl rfl ?_
  refine aj_cast (congrArg (fun (z9 : Int) => ([some (.inr (.inr (some (50, 0)))), some (.inl s), some (.inl v), some (.inl ((gHr g s v 0).2)), some (.inl z9), some (.inl 0)] : List (Option ax_V))) (show 1 = (gHr g s v 0).1 from by rfl)) rfl rfl ?_
  refine aj_loop (σ := (Int) × (Nat → Int → Int → Int)) (fun xL => 0 ≤ xL.1 ∧ xL.1 ≤ 201 ∧ wEq xL.2 (wIt (wBegin g v) xL.1.toNat) ∧ wKp xL.2 g) (fun xL => (201 - xL.1).toNat) (fun xL => [some (.inr (.inr (some (50, 0)))), some (.inl s), some (.inl v), some (.inl ((gHr g s v xL.1).2)), some (.inl ((gHr g s v xL.1).1)), some (.inl xL.1)]) (fun xL => []) (fun xL => (P, xL.2, r0, n)) ?_ (0, wBegin g v) ?_
  rotate_left
  · exact ⟨by omega, by omega, wEq.rf, wKp_s beg_ss⟩
  rintro ⟨k, g1⟩ hI ih13
  try dsimp only at hI ih13
  obtain ⟨i1, i2, i3, i4⟩ := hI
  change ax_J _ _ _ _ _ _ _ _ _ 13 [some (.inr (.inr (some (50, 0)))), some (.inl s), some (.inl v), some (.inl ((gHr g s v k).2)), some (.inl ((gHr g s v k).1)), some (.inl k)] [] (P, g1, r0, n)
  obtain ⟨hs1, hd1, hb1⟩ := it_ok (g := wBegin g v) hsB hdB k.toNat
  replace hs1 := wOs_e i3 hs1
  replace hd1 := wOd_e i3 hd1
  rw [show wIt (wBegin g v) k.toNat = wIt (wBegin g v) k.toNat from rfl, ← i3 50 rfl] at hb1
  have hb0 : (wBegin g v) 50 0 39 = -1 := beg_b
  have hr := gHr_in (g := g) (s := s) (w := v) i1
  have zi := i4.1 156 (by decide) (by omega)
  have zi6 : g1 156 0 s = g 156 0 s := by rw [zi]
  refine aj_run (C := True) (pc' := 18) (la' := [some (.inr (.inr (some (50, 0)))), some (.inl s), some (.inl v), some (.inl ((gHr g s v k).2)), some (.inl ((gHr g s v k).1)), some (.inl k)]) (st' := [.inl 200, .inl k]) (M' := (P, g1, r0, n)) ok_X11_isHeard true 2 rfl trivial ?_
  refine aj_icmp_gt (tgt := 75) (ax_dec2 (i := .if_icmp .gt 57) (n := 3) ok_X11_isHeard rfl) (by decide) (fun c1 => ?_) (fun c1 => ?_)
  · refine aj_run (C := True) (pc' := 77) (la' := [some (.inr (.inr (some (50, 0)))), some (.inl s), some (.inl v), some (.inl ((gHr g s v k).2)), some (.inl ((gHr g s v k).1)), some (.inl k)]) (st' := [.inl ((gHr g s v k).1)]) (M' := (P, g1, r0, n)) ok_X11_isHeard true 1 rfl trivial ?_
    refine aj_if_eq (tgt := 94) (ax_dec2 (i := .ifCond .eq 17) (n := 3) ok_X11_isHeard rfl) (by decide) (fun c2 => ?_) (fun c2 => ?_)
    · refine aj_run (C := True) (pc' := 95) (la' := [some (.inr (.inr (some (50, 0)))), some (.inl s), some (.inl v), some (.inl ((gHr g s v k).2)), some (.inl ((gHr g s v k).1)), some (.inl k)]) (st' := [.inl 0]) (M' := (P, g1, r0, n)) ok_X11_isHeard true 1 rfl trivial ?_
      refine aj_ret (r := some (.inl 0)) (ax_dec2 (i := .ireturn) (n := 1) ok_X11_isHeard rfl) ⟨?_, ?_, by decide, by decide⟩ rfl
      · exact ⟨ax_si (by unfold fHr; rw [show (201 : Int) = k by omega]; first | rw [bI_t (by omega)] | rw [bI_f (by omega)]), _, rfl, i4⟩
      · exact ax_ro_b (by decide)
    · refine aj_run (C := (0 ≤ s ∧ s < n 156 0) ∧ True) (pc' := 87) (la' := [some (.inr (.inr (some (50, 0)))), some (.inl s), some (.inl v), some (.inl ((gHr g s v k).2)), some (.inl ((gHr g s v k).1)), some (.inl k)]) (st' := [.inl (g1 156 0 s), .inl ((gHr g s v k).2)]) (M' := (P, g1, r0, n)) ok_X11_isHeard true 5 rfl (by refine ⟨?_, trivial⟩ <;> ((have hz1 := hz s; first | omega | (refine ⟨?_, ?_⟩ <;> omega)))) ?_
      refine aj_icmp_ne (tgt := 94) (ax_dec2 (i := .if_icmp .ne 7) (n := 3) ok_X11_isHeard rfl) (by decide) (fun c3 => ?_) (fun c3 => ?_)
      · refine aj_run (C := True) (pc' := 95) (la' := [some (.inr (.inr (some (50, 0)))), some (.inl s), some (.inl v), some (.inl ((gHr g s v k).2)), some (.inl ((gHr g s v k).1)), some (.inl k)]) (st' := [.inl 0]) (M' := (P, g1, r0, n)) ok_X11_isHeard true 1 rfl trivial ?_
        refine aj_ret (r := some (.inl 0)) (ax_dec2 (i := .ireturn) (n := 1) ok_X11_isHeard rfl) ⟨?_, ?_, by decide, by decide⟩ rfl
        · exact ⟨ax_si (by unfold fHr; rw [show (201 : Int) = k by omega]; first | rw [bI_t (by omega)] | rw [bI_f (by omega)]), _, rfl, i4⟩
        · exact ax_ro_b (by decide)
      · refine aj_run (C := True) (pc' := 95) (la' := [some (.inr (.inr (some (50, 0)))), some (.inl s), some (.inl v), some (.inl ((gHr g s v k).2)), some (.inl ((gHr g s v k).1)), some (.inl k)]) (st' := [.inl 1]) (M' := (P, g1, r0, n)) ok_X11_isHeard true 2 rfl trivial ?_
        refine aj_ret (r := some (.inl 1)) (ax_dec2 (i := .ireturn) (n := 1) ok_X11_isHeard rfl) ⟨?_, ?_, by decide, by decide⟩ rfl
        · exact ⟨ax_si (by unfold fHr; rw [show (201 : Int) = k by omega]; first | rw [bI_t (by omega)] | rw [bI_f (by omega)]), _, rfl, i4⟩
        · exact ax_ro_b (by decide)
  · refine aj_run (C := True) (pc' := 22) (la' := [some (.inr (.inr (some (50, 0)))), some (.inl s), some (.inl v), some (.inl ((gHr g s v k).2)), some (.inl ((gHr g s v k).1)), some (.inl k)]) (st' := [.inr (.inr (some (50, 0)))]) (M' := (P, g1, r0, n)) ok_X11_isHeard true 1 rfl trivial ?_
    refine aj_callV (av := []) (st := []) (f := 50) (o := 0) (ci := 11) cal_X11_step lk_11_274 ins_X11_step rfl sel_X11_step rfl (fun c9 h9 _ => by simpa [ax_ok] using h9) (sp_step _ _ _ _ hn hs1 hd1 (by omega)) ⟨by decide, by decide, by decide, by decide⟩ (Nat.le_of_ble_eq_true rfl) (ax_dec2 (i := .invokevirtual 274) (n := 3) ok_X11_isHeard rfl) (fun r M' hq => ?_)
    obtain ⟨rfl, g2, rfl, hg2, kpg2⟩ := hq
    have e2 : wEq g2 (wIt (wBegin g v) (k.toNat + 1)) := wEq.tr hg2 (wEq_step i3)
    rw [show k.toNat + 1 = (k + 1).toNat by omega] at e2
    have kz2 := kpg2.tr i4
    have zA : wAny (wSt1 g1) (g1 50 0 2) = gAny g v k := by unfold gAny; rw [wAny_e (wEq_st1 i3), i4.2 0 2 (by omega)]
    rw [zA]
    have hA1 : gAny g v k = 0 ∨ gAny g v k = 1 := by unfold gAny; exact wAny_01
    have z156 : g2 156 0 s = g 156 0 s := by rw [kz2.1 156 (by decide) (by omega)]
    have z157 : ∀ q, g2 157 0 q = g 157 0 q := fun q => by rw [kz2.1 157 (by decide) (by omega)]
    have zq := z157 (40 * s + (gHr g s v k).2)
    change ax_J _ _ _ _ _ _ _ _ _ 25 [some (.inr (.inr (some (50, 0)))), some (.inl s), some (.inl v), some (.inl ((gHr g s v k).2)), some (.inl ((gHr g s v k).1)), some (.inl k)] [.inl (gAny g v k)] (P, g2, r0, n)
    refine aj_if_eq (tgt := 69) (ax_dec2 (i := .ifCond .eq 44) (n := 3) ok_X11_isHeard rfl) (by decide) (fun c4 => ?_) (fun c4 => ?_)
    · refine aj_run (C := (-2147483648 ≤ k + 1 ∧ k + 1 ≤ 2147483647) ∧ True) (pc' := 13) (la' := [some (.inr (.inr (some (50, 0)))), some (.inl s), some (.inl v), some (.inl ((gHr g s v k).2)), some (.inl ((gHr g s v k).1)), some (.inl (k + 1))]) (st' := []) (M' := (P, g2, r0, n)) ok_X11_isHeard true 2 rfl (by refine ⟨?_, trivial⟩ <;> ((have hz1 := hz s; first | omega | (refine ⟨?_, ?_⟩ <;> omega)))) ?_
      refine aj_cast (congrArg (fun (z9 : Int) => ([some (.inr (.inr (some (50, 0)))), some (.inl s), some (.inl v), some (.inl z9), some (.inl ((gHr g s v k).1)), some (.inl (k + 1))] : List (Option ax_V))) (show (gHr g s v k).2 = (gHr g s v (k + 1)).2 from by (rw [gHr_s i1]; (first | rw [if_pos (show gAny g v k ≠ 0 by omega)] | rw [if_neg (show ¬ gAny g v k ≠ 0 by omega)]); try dsimp only; try (first | rw [if_pos (by omega)] | rw [if_neg (by omega)])))) rfl rfl ?_
      refine aj_cast (congrArg (fun (z9 : Int) => ([some (.inr (.inr (some (50, 0)))), some (.inl s), some (.inl v), some (.inl ((gHr g s v (k + 1)).2)), some (.inl z9), some (.inl (k + 1))] : List (Option ax_V))) (show (gHr g s v k).1 = (gHr g s v (k + 1)).1 from by (rw [gHr_s i1]; (first | rw [if_pos (show gAny g v k ≠ 0 by omega)] | rw [if_neg (show ¬ gAny g v k ≠ 0 by omega)]); try dsimp only; try (first | rw [if_pos (by omega)] | rw [if_neg (by omega)])))) rfl rfl ?_
      refine ih13 (k + 1, g2) ?_ ?_
      · exact ⟨by omega, by omega, e2, kz2⟩
      · omega
    · refine aj_run (C := True) (pc' := 30) (la' := [some (.inr (.inr (some (50, 0)))), some (.inl s), some (.inl v), some (.inl ((gHr g s v k).2)), some (.inl ((gHr g s v k).1)), some (.inl k)]) (st' := [.inl ((gHr g s v k).1)]) (M' := (P, g2, r0, n)) ok_X11_isHeard true 1 rfl trivial ?_
      refine aj_if_eq (tgt := 63) (ax_dec2 (i := .ifCond .eq 33) (n := 3) ok_X11_isHeard rfl) (by decide) (fun c5 => ?_) (fun c5 => ?_)
      · refine aj_run (C := (-2147483648 ≤ ((gHr g s v k).2) + 1 ∧ ((gHr g s v k).2) + 1 ≤ 2147483647) ∧ (-2147483648 ≤ k + 1 ∧ k + 1 ≤ 2147483647) ∧ True) (pc' := 13) (la' := [some (.inr (.inr (some (50, 0)))), some (.inl s), some (.inl v), some (.inl (((gHr g s v k).2) + 1)), some (.inl 0), some (.inl (k + 1))]) (st' := []) (M' := (P, g2, r0, n)) ok_X11_isHeard true 5 rfl (by refine ⟨?_, ?_, trivial⟩ <;> ((have hz1 := hz s; first | omega | (refine ⟨?_, ?_⟩ <;> omega)))) ?_
        refine aj_cast (congrArg (fun (z9 : Int) => ([some (.inr (.inr (some (50, 0)))), some (.inl s), some (.inl v), some (.inl z9), some (.inl 0), some (.inl (k + 1))] : List (Option ax_V))) (show ((gHr g s v k).2) + 1 = (gHr g s v (k + 1)).2 from by (rw [gHr_s i1]; (first | rw [if_pos (show gAny g v k ≠ 0 by omega)] | rw [if_neg (show ¬ gAny g v k ≠ 0 by omega)]); try dsimp only; try (first | rw [if_pos (by omega)] | rw [if_neg (by omega)])))) rfl rfl ?_
        refine aj_cast (congrArg (fun (z9 : Int) => ([some (.inr (.inr (some (50, 0)))), some (.inl s), some (.inl v), some (.inl ((gHr g s v (k + 1)).2)), some (.inl z9), some (.inl (k + 1))] : List (Option ax_V))) (show 0 = (gHr g s v (k + 1)).1 from by (rw [gHr_s i1]; (first | rw [if_pos (show gAny g v k ≠ 0 by omega)] | rw [if_neg (show ¬ gAny g v k ≠ 0 by omega)]); try dsimp only; try (first | rw [if_pos (by omega)] | rw [if_neg (by omega)])))) rfl rfl ?_
        refine ih13 (k + 1, g2) ?_ ?_
        · exact ⟨by omega, by omega, e2, kz2⟩
        · omega
      · refine aj_run (C := (0 ≤ s ∧ s < n 156 0) ∧ True) (pc' := 40) (la' := [some (.inr (.inr (some (50, 0)))), some (.inl s), some (.inl v), some (.inl ((gHr g s v k).2)), some (.inl ((gHr g s v k).1)), some (.inl k)]) (st' := [.inl (g2 156 0 s), .inl ((gHr g s v k).2)]) (M' := (P, g2, r0, n)) ok_X11_isHeard true 5 rfl (by refine ⟨?_, trivial⟩ <;> ((have hz1 := hz s; first | omega | (refine ⟨?_, ?_⟩ <;> omega)))) ?_
        refine aj_icmp_ge (tgt := 63) (ax_dec2 (i := .if_icmp .ge 23) (n := 3) ok_X11_isHeard rfl) (by decide) (fun c6 => ?_) (fun c6 => ?_)
        · refine aj_run (C := (-2147483648 ≤ ((gHr g s v k).2) + 1 ∧ ((gHr g s v k).2) + 1 ≤ 2147483647) ∧ (-2147483648 ≤ k + 1 ∧ k + 1 ≤ 2147483647) ∧ True) (pc' := 13) (la' := [some (.inr (.inr (some (50, 0)))), some (.inl s), some (.inl v), some (.inl (((gHr g s v k).2) + 1)), some (.inl 0), some (.inl (k + 1))]) (st' := []) (M' := (P, g2, r0, n)) ok_X11_isHeard true 5 rfl (by refine ⟨?_, ?_, trivial⟩ <;> ((have hz1 := hz s; first | omega | (refine ⟨?_, ?_⟩ <;> omega)))) ?_
          refine aj_cast (congrArg (fun (z9 : Int) => ([some (.inr (.inr (some (50, 0)))), some (.inl s), some (.inl v), some (.inl z9), some (.inl 0), some (.inl (k + 1))] : List (Option ax_V))) (show ((gHr g s v k).2) + 1 = (gHr g s v (k + 1)).2 from by (rw [gHr_s i1]; (first | rw [if_pos (show gAny g v k ≠ 0 by omega)] | rw [if_neg (show ¬ gAny g v k ≠ 0 by omega)]); try dsimp only; try (first | rw [if_pos (by omega)] | rw [if_neg (by omega)])))) rfl rfl ?_
          refine aj_cast (congrArg (fun (z9 : Int) => ([some (.inr (.inr (some (50, 0)))), some (.inl s), some (.inl v), some (.inl ((gHr g s v (k + 1)).2)), some (.inl z9), some (.inl (k + 1))] : List (Option ax_V))) (show 0 = (gHr g s v (k + 1)).1 from by (rw [gHr_s i1]; (first | rw [if_pos (show gAny g v k ≠ 0 by omega)] | rw [if_neg (show ¬ gAny g v k ≠ 0 by omega)]); try dsimp only; try (first | rw [if_pos (by omega)] | rw [if_neg (by omega)])))) rfl rfl ?_
          refine ih13 (k + 1, g2) ?_ ?_
          · exact ⟨by omega, by omega, e2, kz2⟩
          · omega
        · refine aj_run (C := (-2147483648 ≤ 40 * s ∧ 40 * s ≤ 2147483647) ∧ (-2147483648 ≤ (40 * s) + ((gHr g s v k).2) ∧ (40 * s) + ((gHr g s v k).2) ≤ 2147483647) ∧ (0 ≤ (40 * s) + ((gHr g s v k).2) ∧ (40 * s) + ((gHr g s v k).2) < n 157 0) ∧ True) (pc' := 56) (la' := [some (.inr (.inr (some (50, 0)))), some (.inl s), some (.inl v), some (.inl ((gHr g s v k).2)), some (.inl ((gHr g s v k).1)), some (.inl k)]) (st' := [.inl k, .inl (g2 157 0 ((40 * s) + ((gHr g s v k).2)))]) (M' := (P, g2, r0, n)) ok_X11_isHeard true 9 rfl (by refine ⟨?_, ?_, ?_, trivial⟩ <;> ((have hz1 := hz s; first | omega | (refine ⟨?_, ?_⟩ <;> omega)))) ?_
          refine aj_icmp_ne (tgt := 63) (ax_dec2 (i := .if_icmp .ne 7) (n := 3) ok_X11_isHeard rfl) (by decide) (fun c7 => ?_) (fun c7 => ?_)
          · refine aj_run (C := (-2147483648 ≤ ((gHr g s v k).2) + 1 ∧ ((gHr g s v k).2) + 1 ≤ 2147483647) ∧ (-2147483648 ≤ k + 1 ∧ k + 1 ≤ 2147483647) ∧ True) (pc' := 13) (la' := [some (.inr (.inr (some (50, 0)))), some (.inl s), some (.inl v), some (.inl (((gHr g s v k).2) + 1)), some (.inl 0), some (.inl (k + 1))]) (st' := []) (M' := (P, g2, r0, n)) ok_X11_isHeard true 5 rfl (by refine ⟨?_, ?_, trivial⟩ <;> ((have hz1 := hz s; first | omega | (refine ⟨?_, ?_⟩ <;> omega)))) ?_
            refine aj_cast (congrArg (fun (z9 : Int) => ([some (.inr (.inr (some (50, 0)))), some (.inl s), some (.inl v), some (.inl z9), some (.inl 0), some (.inl (k + 1))] : List (Option ax_V))) (show ((gHr g s v k).2) + 1 = (gHr g s v (k + 1)).2 from by (rw [gHr_s i1]; (first | rw [if_pos (show gAny g v k ≠ 0 by omega)] | rw [if_neg (show ¬ gAny g v k ≠ 0 by omega)]); try dsimp only; try (first | rw [if_pos (by omega)] | rw [if_neg (by omega)])))) rfl rfl ?_
            refine aj_cast (congrArg (fun (z9 : Int) => ([some (.inr (.inr (some (50, 0)))), some (.inl s), some (.inl v), some (.inl ((gHr g s v (k + 1)).2)), some (.inl z9), some (.inl (k + 1))] : List (Option ax_V))) (show 0 = (gHr g s v (k + 1)).1 from by (rw [gHr_s i1]; (first | rw [if_pos (show gAny g v k ≠ 0 by omega)] | rw [if_neg (show ¬ gAny g v k ≠ 0 by omega)]); try dsimp only; try (first | rw [if_pos (by omega)] | rw [if_neg (by omega)])))) rfl rfl ?_
            refine ih13 (k + 1, g2) ?_ ?_
            · exact ⟨by omega, by omega, e2, kz2⟩
            · omega
          · refine aj_run (C := (-2147483648 ≤ ((gHr g s v k).2) + 1 ∧ ((gHr g s v k).2) + 1 ≤ 2147483647) ∧ (-2147483648 ≤ k + 1 ∧ k + 1 ≤ 2147483647) ∧ True) (pc' := 13) (la' := [some (.inr (.inr (some (50, 0)))), some (.inl s), some (.inl v), some (.inl (((gHr g s v k).2) + 1)), some (.inl 1), some (.inl (k + 1))]) (st' := []) (M' := (P, g2, r0, n)) ok_X11_isHeard true 6 rfl (by refine ⟨?_, ?_, trivial⟩ <;> ((have hz1 := hz s; first | omega | (refine ⟨?_, ?_⟩ <;> omega)))) ?_
            refine aj_cast (congrArg (fun (z9 : Int) => ([some (.inr (.inr (some (50, 0)))), some (.inl s), some (.inl v), some (.inl z9), some (.inl 1), some (.inl (k + 1))] : List (Option ax_V))) (show ((gHr g s v k).2) + 1 = (gHr g s v (k + 1)).2 from by (rw [gHr_s i1]; (first | rw [if_pos (show gAny g v k ≠ 0 by omega)] | rw [if_neg (show ¬ gAny g v k ≠ 0 by omega)]); try dsimp only; try (first | rw [if_pos (by omega)] | rw [if_neg (by omega)])))) rfl rfl ?_
            refine aj_cast (congrArg (fun (z9 : Int) => ([some (.inr (.inr (some (50, 0)))), some (.inl s), some (.inl v), some (.inl ((gHr g s v (k + 1)).2)), some (.inl z9), some (.inl (k + 1))] : List (Option ax_V))) (show 1 = (gHr g s v (k + 1)).1 from by (rw [gHr_s i1]; (first | rw [if_pos (show gAny g v k ≠ 0 by omega)] | rw [if_neg (show ¬ gAny g v k ≠ 0 by omega)]); try dsimp only; try (first | rw [if_pos (by omega)] | rw [if_neg (by omega)])))) rfl rfl ?_
            refine ih13 (k + 1, g2) ?_ ?_
            · exact ⟨by omega, by omega, e2, kz2⟩
            · omega

set_option maxRecDepth 100000 in
set_option maxHeartbeats 4000000 in
theorem sp_isFit (s v : Int) (P : Nat → Int → Prop) (g : Nat → Int → Int → Int) (r0 : Nat → Int → Int → Option (Nat × Int)) (n : Nat → Int → Int) (hn : mLen n) (hs : wOs g) (hsh : 0 ≤ s ∧ s ≤ 3) : ax_S yX11_isFit cX11_isFit 5 (some FieldType.boolean) 7 0 0 [.inr (.inr (some (50, 0))), .inl s, .inl v] (P, g, r0, n) (fun r M' => r = some (.inl (fFi g s v)) ∧ ∃ g', M' = (P, g', r0, n) ∧ wKp g' g) := by
  have n157 : n 157 0 = 160 := hn (157, 160) (by decide)
  have n135 : n 135 0 = 7 := hn (135, 7) (by decide)
  have h2 := hs.2.2.1
  refine ax_S_of (own := 11) (by decide) rfl (fun h => absurd h (by decide)) rfl (Nat.le_of_ble_eq_true rfl) ?_
  change ax_J _ _ _ _ _ _ _ _ _ _ [some (.inr (.inr (some (50, 0)))), some (.inl s), some (.inl v), none, none] _ _
  refine aj_run (C := True) (pc' := 2) (la' := [some (.inr (.inr (some (50, 0)))), some (.inl s), some (.inl v), none, none]) (st' := [.inl v, .inr (.inr (some (50, 0)))]) (M' := (P, g, r0, n)) ok_X11_isFit true 2 rfl trivial ?_
  refine aj_callV (av := [.inl v]) (st := []) (f := 50) (o := 0) (ci := 11) cal_X11_goAll lk_11_282 ins_X11_goAll rfl sel_X11_goAll rfl (fun c9 h9 _ => by simpa [ax_ok] using h9) (sp_goAll v _ _ _ _ hn hs) ⟨by decide, by decide, by decide, by decide⟩ (Nat.le_of_ble_eq_true rfl) (ax_dec2 (i := .invokevirtual 282) (n := 3) ok_X11_isFit rfl) (fun r M' hq => ?_)
  obtain ⟨rfl, g2, rfl, hg2, kpg2⟩ := hq
  have zs2 : g2 50 0 2 = g 50 0 2 := kpg2.2 0 2 (by omega)
  have z135 : ∀ q, g2 135 0 q = gA g v 135 0 q := fun q => congrFun (congrFun (hg2 _ rfl) _) _
  have z157 : ∀ q, g2 157 0 q = g 157 0 q := fun q => by rw [kpg2.1 157 (by decide) (by omega)]
  change ax_J _ _ _ _ _ _ _ _ _ 5 [some (.inr (.inr (some (50, 0)))), some (.inl s), some (.inl v), none, none] [] (P, g2, r0, n)
  refine aj_run (C := True) (pc' := 10) (la' := [some (.inr (.inr (some (50, 0)))), some (.inl s), some (.inl v), some (.inl 1), some (.inl 0)]) (st' := []) (M' := (P, g2, r0, n)) ok_X11_isFit true 4 rfl trivial ?_
  refine aj_cast (congrArg (fun (z9 : Int) => ([some (.inr (.inr (some (50, 0)))), some (.inl s), some (.inl v), some (.inl z9), some (.inl 0)] : List (Option ax_V))) (show 1 = gFi g s v 0 from by rfl)) rfl rfl ?_
  refine aj_loop (σ := (Int)) (fun xL => 0 ≤ xL ∧ xL ≤ g2 50 0 2) (fun xL => (g2 50 0 2 - xL).toNat) (fun xL => [some (.inr (.inr (some (50, 0)))), some (.inl s), some (.inl v), some (.inl (gFi g s v xL)), some (.inl xL)]) (fun xL => []) (fun xL => (P, g2, r0, n)) ?_ (0) ?_
  rotate_left
  · omega
  rintro a hI ih10
  try dsimp only at hI ih10
  obtain ⟨i1, i2⟩ := hI
  change ax_J _ _ _ _ _ _ _ _ _ 10 [some (.inr (.inr (some (50, 0)))), some (.inl s), some (.inl v), some (.inl (gFi g s v a)), some (.inl a)] [] (P, g2, r0, n)
  refine aj_run (C := True) (pc' := 16) (la' := [some (.inr (.inr (some (50, 0)))), some (.inl s), some (.inl v), some (.inl (gFi g s v a)), some (.inl a)]) (st' := [.inl (g2 50 0 2), .inl a]) (M' := (P, g2, r0, n)) ok_X11_isFit true 3 rfl trivial ?_
  refine aj_icmp_ge (tgt := 57) (ax_dec2 (i := .if_icmp .ge 41) (n := 3) ok_X11_isFit rfl) (by decide) (fun c1 => ?_) (fun c1 => ?_)
  · refine aj_run (C := True) (pc' := 58) (la' := [some (.inr (.inr (some (50, 0)))), some (.inl s), some (.inl v), some (.inl (gFi g s v a)), some (.inl a)]) (st' := [.inl (gFi g s v a)]) (M' := (P, g2, r0, n)) ok_X11_isFit true 1 rfl trivial ?_
    refine aj_ret (r := some (.inl (gFi g s v a))) (ax_dec2 (i := .ireturn) (n := 1) ok_X11_isFit rfl) ⟨?_, ?_, by decide, by decide⟩ rfl
    · exact ⟨ax_si (by unfold fFi; rw [show g 50 0 2 = a by omega]), _, rfl, kpg2⟩
    · exact ax_ro_b gFi_01
  · refine aj_run (C := True) (pc' := 20) (la' := [some (.inr (.inr (some (50, 0)))), some (.inl s), some (.inl v), some (.inl (gFi g s v a)), some (.inl a)]) (st' := [.inl (gFi g s v a)]) (M' := (P, g2, r0, n)) ok_X11_isFit true 1 rfl trivial ?_
    refine aj_if_eq (tgt := 49) (ax_dec2 (i := .ifCond .eq 29) (n := 3) ok_X11_isFit rfl) (by decide) (fun c2 => ?_) (fun c2 => ?_)
    · refine aj_run (C := (-2147483648 ≤ a + 1 ∧ a + 1 ≤ 2147483647) ∧ True) (pc' := 10) (la' := [some (.inr (.inr (some (50, 0)))), some (.inl s), some (.inl v), some (.inl 0), some (.inl (a + 1))]) (st' := []) (M' := (P, g2, r0, n)) ok_X11_isFit true 4 rfl (by refine ⟨?_, trivial⟩ <;> (omega)) ?_
      refine aj_cast (congrArg (fun (z9 : Int) => ([some (.inr (.inr (some (50, 0)))), some (.inl s), some (.inl v), some (.inl z9), some (.inl (a + 1))] : List (Option ax_V))) (show 0 = gFi g s v (a + 1) from by (rw [gFi_s i1]; have zq1 := z157 (40 * s + a); have zq2 := z135 a; first | rw [if_pos (by omega)] | rw [if_neg (by omega)]))) rfl rfl ?_
      refine ih10 (a + 1) ?_ ?_
      · omega
      · omega
    · refine aj_run (C := (-2147483648 ≤ 40 * s ∧ 40 * s ≤ 2147483647) ∧ (-2147483648 ≤ (40 * s) + a ∧ (40 * s) + a ≤ 2147483647) ∧ (0 ≤ (40 * s) + a ∧ (40 * s) + a < n 157 0) ∧ (0 ≤ a ∧ a < n 135 0) ∧ True) (pc' := 42) (la' := [some (.inr (.inr (some (50, 0)))), some (.inl s), some (.inl v), some (.inl (gFi g s v a)), some (.inl a)]) (st' := [.inl (g2 135 0 a), .inl (g2 157 0 ((40 * s) + a))]) (M' := (P, g2, r0, n)) ok_X11_isFit true 12 rfl (by refine ⟨?_, ?_, ?_, ?_, trivial⟩ <;> (omega)) ?_
      refine aj_icmp_ne (tgt := 49) (ax_dec2 (i := .if_icmp .ne 7) (n := 3) ok_X11_isFit rfl) (by decide) (fun c3 => ?_) (fun c3 => ?_)
      · refine aj_run (C := (-2147483648 ≤ a + 1 ∧ a + 1 ≤ 2147483647) ∧ True) (pc' := 10) (la' := [some (.inr (.inr (some (50, 0)))), some (.inl s), some (.inl v), some (.inl 0), some (.inl (a + 1))]) (st' := []) (M' := (P, g2, r0, n)) ok_X11_isFit true 4 rfl (by refine ⟨?_, trivial⟩ <;> (omega)) ?_
        refine aj_cast (congrArg (fun (z9 : Int) => ([some (.inr (.inr (some (50, 0)))), some (.inl s), some (.inl v), some (.inl z9), some (.inl (a + 1))] : List (Option ax_V))) (show 0 = gFi g s v (a + 1) from by (rw [gFi_s i1]; have zq1 := z157 (40 * s + a); have zq2 := z135 a; first | rw [if_pos (by omega)] | rw [if_neg (by omega)]))) rfl rfl ?_
        refine ih10 (a + 1) ?_ ?_
        · omega
        · omega
      · refine aj_run (C := (-2147483648 ≤ a + 1 ∧ a + 1 ≤ 2147483647) ∧ True) (pc' := 10) (la' := [some (.inr (.inr (some (50, 0)))), some (.inl s), some (.inl v), some (.inl 1), some (.inl (a + 1))]) (st' := []) (M' := (P, g2, r0, n)) ok_X11_isFit true 5 rfl (by refine ⟨?_, trivial⟩ <;> (omega)) ?_
        refine aj_cast (congrArg (fun (z9 : Int) => ([some (.inr (.inr (some (50, 0)))), some (.inl s), some (.inl v), some (.inl z9), some (.inl (a + 1))] : List (Option ax_V))) (show 1 = gFi g s v (a + 1) from by (rw [gFi_s i1]; have zq1 := z157 (40 * s + a); have zq2 := z135 a; first | rw [if_pos (by omega)] | rw [if_neg (by omega)]))) rfl rfl ?_
        refine ih10 (a + 1) ?_ ?_
        · omega
        · omega

set_option maxRecDepth 100000 in
set_option maxHeartbeats 4000000 in
theorem sp_fits (s t v : Int) (P : Nat → Int → Prop) (g : Nat → Int → Int → Int) (r0 : Nat → Int → Int → Option (Nat × Int)) (n : Nat → Int → Int) (hn : mLen n) (hs : wOs g) (hz : ∀ s, 0 ≤ s → s ≤ 3 → 0 ≤ g 156 0 s ∧ g 156 0 s ≤ 40) : ax_S yX11_fits cX11_fits 7 (some FieldType.int) 8 0 0 [.inr (.inr (some (50, 0))), .inl s, .inl t, .inl v] (P, g, r0, n) (fun r M' => r = some (.inl (fFit g s t v)) ∧ ∃ g', M' = (P, g', r0, n) ∧ wKp g' g) := by
  have n155 : n 155 0 = 4 := hn (155, 4) (by decide)
  have n156 : n 156 0 = 4 := hn (156, 4) (by decide)
  have h2 := hs.2.2.1
  have hW0 := wWy_in hs
  refine ax_S_of (own := 11) (by decide) rfl (fun h => absurd h (by decide)) rfl (Nat.le_of_ble_eq_true rfl) ?_
  change ax_J _ _ _ _ _ _ _ _ _ _ [some (.inr (.inr (some (50, 0)))), some (.inl s), some (.inl t), some (.inl v), none, none, none] _ _
  refine aj_run (C := True) (pc' := 1) (la' := [some (.inr (.inr (some (50, 0)))), some (.inl s), some (.inl t), some (.inl v), none, none, none]) (st' := [.inl s]) (M' := (P, g, r0, n)) ok_X11_fits true 1 rfl trivial ?_
  refine aj_callS (av := [.inl s]) (st := []) cal_X11_isSheet lk_11_298 stc_X11_isSheet (sp_isSheet s _ _ _ _) ⟨by decide, by decide, by decide, by decide⟩ (Nat.le_of_ble_eq_true rfl) (ax_dec2 (i := .invokestatic 298) (n := 3) ok_X11_fits rfl) (fun r M' hq => ?_)
  obtain ⟨rfl, rfl⟩ := hq
  change ax_J _ _ _ _ _ _ _ _ _ 4 [some (.inr (.inr (some (50, 0)))), some (.inl s), some (.inl t), some (.inl v), none, none, none] [.inl (bI (0 ≤ s ∧ s ≤ 3))] (P, g, r0, n)
  refine aj_if_eq (tgt := 25) (ax_dec2 (i := .ifCond .eq 21) (n := 3) ok_X11_fits rfl) (by decide) (fun c1 => ?_) (fun c1 => ?_)
  · replace c1 := bI_e0 c1
    refine aj_run (C := True) (pc' := 27) (la' := [some (.inr (.inr (some (50, 0)))), some (.inl s), some (.inl t), some (.inl v), none, none, none]) (st' := [.inl (-2)]) (M' := (P, g, r0, n)) ok_X11_fits true 1 rfl trivial ?_
    refine aj_ret (r := some (.inl (-2))) (ax_dec2 (i := .ireturn) (n := 1) ok_X11_fits rfl) ⟨?_, ?_, by decide, by decide⟩ rfl
    · first | (exfalso; omega) | exact ⟨ax_si (by unfold fFit; (repeat first | rw [if_pos (by omega)] | rw [if_neg (by omega)] | rw [bI_t (by omega)] | rw [bI_f (by omega)])), _, rfl, wKp.rf⟩
    · exact ax_ro_i
  · replace c1 := bI_n0 c1
    refine aj_run (C := True) (pc' := 10) (la' := [some (.inr (.inr (some (50, 0)))), some (.inl s), some (.inl t), some (.inl v), none, none, none]) (st' := [.inl 1, .inl 0, .inl t]) (M' := (P, g, r0, n)) ok_X11_fits true 3 rfl trivial ?_
    refine aj_callS (av := [.inl t, .inl 0, .inl 1]) (st := []) cal_X11_isIn lk_11_7 stc_X11_isIn (sp_isIn t 0 1 _ _ _ _) ⟨by decide, by decide, by decide, by decide⟩ (Nat.le_of_ble_eq_true rfl) (ax_dec2 (i := .invokestatic 7) (n := 3) ok_X11_fits rfl) (fun r M' hq => ?_)
    obtain ⟨rfl, rfl⟩ := hq
    change ax_J _ _ _ _ _ _ _ _ _ 13 [some (.inr (.inr (some (50, 0)))), some (.inl s), some (.inl t), some (.inl v), none, none, none] [.inl (bI (0 ≤ t ∧ t ≤ 1))] (P, g, r0, n)
    refine aj_if_eq (tgt := 25) (ax_dec2 (i := .ifCond .eq 12) (n := 3) ok_X11_fits rfl) (by decide) (fun c2 => ?_) (fun c2 => ?_)
    · replace c2 := bI_e0 c2
      refine aj_run (C := True) (pc' := 27) (la' := [some (.inr (.inr (some (50, 0)))), some (.inl s), some (.inl t), some (.inl v), none, none, none]) (st' := [.inl (-2)]) (M' := (P, g, r0, n)) ok_X11_fits true 1 rfl trivial ?_
      refine aj_ret (r := some (.inl (-2))) (ax_dec2 (i := .ireturn) (n := 1) ok_X11_fits rfl) ⟨?_, ?_, by decide, by decide⟩ rfl
      · first | (exfalso; omega) | exact ⟨ax_si (by unfold fFit; (repeat first | rw [if_pos (by omega)] | rw [if_neg (by omega)] | rw [bI_t (by omega)] | rw [bI_f (by omega)])), _, rfl, wKp.rf⟩
      · exact ax_ro_i
    · replace c2 := bI_n0 c2
      refine aj_run (C := True) (pc' := 19) (la' := [some (.inr (.inr (some (50, 0)))), some (.inl s), some (.inl t), some (.inl v), none, none, none]) (st' := [.inl 1, .inl 0, .inl v]) (M' := (P, g, r0, n)) ok_X11_fits true 3 rfl trivial ?_
      refine aj_callS (av := [.inl v, .inl 0, .inl 1]) (st := []) cal_X11_isIn lk_11_7 stc_X11_isIn (sp_isIn v 0 1 _ _ _ _) ⟨by decide, by decide, by decide, by decide⟩ (Nat.le_of_ble_eq_true rfl) (ax_dec2 (i := .invokestatic 7) (n := 3) ok_X11_fits rfl) (fun r M' hq => ?_)
      obtain ⟨rfl, rfl⟩ := hq
      change ax_J _ _ _ _ _ _ _ _ _ 22 [some (.inr (.inr (some (50, 0)))), some (.inl s), some (.inl t), some (.inl v), none, none, none] [.inl (bI (0 ≤ v ∧ v ≤ 1))] (P, g, r0, n)
      refine aj_if_ne (tgt := 28) (ax_dec2 (i := .ifCond .ne 6) (n := 3) ok_X11_fits rfl) (by decide) (fun c3 => ?_) (fun c3 => ?_)
      · replace c3 := bI_n0 c3
        refine aj_run (C := (0 ≤ s ∧ s < n 155 0) ∧ True) (pc' := 34) (la' := [some (.inr (.inr (some (50, 0)))), some (.inl s), some (.inl t), some (.inl v), none, none, none]) (st' := [.inl (g 155 0 s)]) (M' := (P, g, r0, n)) ok_X11_fits true 4 rfl (by refine ⟨?_, trivial⟩ <;> (omega)) ?_
        refine aj_if_ge (tgt := 40) (ax_dec2 (i := .ifCond .ge 6) (n := 3) ok_X11_fits rfl) (by decide) (fun c4 => ?_) (fun c4 => ?_)
        · refine aj_run (C := True) (pc' := 41) (la' := [some (.inr (.inr (some (50, 0)))), some (.inl s), some (.inl t), some (.inl v), none, none, none]) (st' := [.inl t]) (M' := (P, g, r0, n)) ok_X11_fits true 1 rfl trivial ?_
          refine aj_if_ne (tgt := 60) (ax_dec2 (i := .ifCond .ne 19) (n := 3) ok_X11_fits rfl) (by decide) (fun c5 => ?_) (fun c5 => ?_)
          · refine aj_run (C := True) (pc' := 69) (la' := [some (.inr (.inr (some (50, 0)))), some (.inl s), some (.inl t), some (.inl v), some (.inl 0), some (.inl (-1)), some (.inl 0)]) (st' := []) (M' := (P, g, r0, n)) ok_X11_fits true 6 rfl trivial ?_
            refine aj_cast (congrArg (fun (z9 : Int) => ([some (.inr (.inr (some (50, 0)))), some (.inl s), some (.inl t), some (.inl v), some (.inl z9), some (.inl (-1)), some (.inl 0)] : List (Option ax_V))) (show 0 = (wCf (pFit g s t) 0).1 from by rfl)) rfl rfl ?_
            refine aj_cast (congrArg (fun (z9 : Int) => ([some (.inr (.inr (some (50, 0)))), some (.inl s), some (.inl t), some (.inl v), some (.inl ((wCf (pFit g s t) 0).1)), some (.inl z9), some (.inl 0)] : List (Option ax_V))) (show (-1) = (wCf (pFit g s t) 0).2 from by rfl)) rfl rfl ?_
            refine aj_loop (σ := (Int) × (Nat → Int → Int → Int)) (fun xL => 0 ≤ xL.1 ∧ xL.1 ≤ wWy g ∧ wKp xL.2 g) (fun xL => (wWy g - xL.1).toNat) (fun xL => [some (.inr (.inr (some (50, 0)))), some (.inl s), some (.inl t), some (.inl v), some (.inl ((wCf (pFit g s t) xL.1).1)), some (.inl ((wCf (pFit g s t) xL.1).2)), some (.inl xL.1)]) (fun xL => []) (fun xL => (P, xL.2, r0, n)) ?_ (0, g) ?_
            rotate_left
            · exact ⟨by omega, by omega, wKp.rf⟩
            rintro ⟨w, g1⟩ hI ih69
            try dsimp only at hI ih69
            obtain ⟨i1, i2, i3⟩ := hI
            change ax_J _ _ _ _ _ _ _ _ _ 69 [some (.inr (.inr (some (50, 0)))), some (.inl s), some (.inl t), some (.inl v), some (.inl ((wCf (pFit g s t) w).1)), some (.inl ((wCf (pFit g s t) w).2)), some (.inl w)] [] (P, g1, r0, n)
            have zs1 : g1 50 0 2 = g 50 0 2 := i3.2 0 2 (by omega)
            have hW := wWy_in hs
            have eW : ax_shl 1 (g1 50 0 2) = wWy g := by rw [zs1]; rfl
            have hc := wCf_in (p := pFit g s t) i1
            refine aj_run (C := True) (pc' := 77) (la' := [some (.inr (.inr (some (50, 0)))), some (.inl s), some (.inl t), some (.inl v), some (.inl ((wCf (pFit g s t) w).1)), some (.inl ((wCf (pFit g s t) w).2)), some (.inl w)]) (st' := [.inl (ax_shl 1 (g1 50 0 2)), .inl w]) (M' := (P, g1, r0, n)) ok_X11_fits true 5 rfl trivial ?_
            refine aj_icmp_ge (tgt := 130) (ax_dec2 (i := .if_icmp .ge 53) (n := 3) ok_X11_fits rfl) (by decide) (fun c6 => ?_) (fun c6 => ?_)
            · refine aj_run (C := True) (pc' := 131) (la' := [some (.inr (.inr (some (50, 0)))), some (.inl s), some (.inl t), some (.inl v), some (.inl ((wCf (pFit g s t) w).1)), some (.inl ((wCf (pFit g s t) w).2)), some (.inl w)]) (st' := [.inl v]) (M' := (P, g1, r0, n)) ok_X11_fits true 1 rfl trivial ?_
              refine aj_if_ne (tgt := 139) (ax_dec2 (i := .ifCond .ne 8) (n := 3) ok_X11_fits rfl) (by decide) (fun c7 => ?_) (fun c7 => ?_)
              · refine aj_run (C := True) (pc' := 141) (la' := [some (.inr (.inr (some (50, 0)))), some (.inl s), some (.inl t), some (.inl v), some (.inl ((wCf (pFit g s t) w).1)), some (.inl ((wCf (pFit g s t) w).2)), some (.inl w)]) (st' := [.inl ((wCf (pFit g s t) w).2)]) (M' := (P, g1, r0, n)) ok_X11_fits true 1 rfl trivial ?_
                refine aj_ret (r := some (.inl ((wCf (pFit g s t) w).2))) (ax_dec2 (i := .ireturn) (n := 1) ok_X11_fits rfl) ⟨?_, ?_, by decide, by decide⟩ rfl
                · first | (exfalso; omega) | exact ⟨ax_si (by unfold fFit; (repeat first | rw [if_pos (by omega)] | rw [if_neg (by omega)] | rw [bI_t (by omega)] | rw [bI_f (by omega)]); rw [show wWy g = w by omega]), _, rfl, i3⟩
                · exact ax_ro_i
              · refine aj_run (C := True) (pc' := 141) (la' := [some (.inr (.inr (some (50, 0)))), some (.inl s), some (.inl t), some (.inl v), some (.inl ((wCf (pFit g s t) w).1)), some (.inl ((wCf (pFit g s t) w).2)), some (.inl w)]) (st' := [.inl ((wCf (pFit g s t) w).1)]) (M' := (P, g1, r0, n)) ok_X11_fits true 2 rfl trivial ?_
                refine aj_ret (r := some (.inl ((wCf (pFit g s t) w).1))) (ax_dec2 (i := .ireturn) (n := 1) ok_X11_fits rfl) ⟨?_, ?_, by decide, by decide⟩ rfl
                · first | (exfalso; omega) | exact ⟨ax_si (by unfold fFit; (repeat first | rw [if_pos (by omega)] | rw [if_neg (by omega)] | rw [bI_t (by omega)] | rw [bI_f (by omega)]); rw [show wWy g = w by omega]), _, rfl, i3⟩
                · exact ax_ro_i
            · refine aj_run (C := True) (pc' := 81) (la' := [some (.inr (.inr (some (50, 0)))), some (.inl s), some (.inl t), some (.inl v), some (.inl ((wCf (pFit g s t) w).1)), some (.inl ((wCf (pFit g s t) w).2)), some (.inl w)]) (st' := [.inl t]) (M' := (P, g1, r0, n)) ok_X11_fits true 1 rfl trivial ?_
              refine aj_if_ne (tgt := 97) (ax_dec2 (i := .ifCond .ne 16) (n := 3) ok_X11_fits rfl) (by decide) (fun c8 => ?_) (fun c8 => ?_)
              · refine aj_run (C := True) (pc' := 101) (la' := [some (.inr (.inr (some (50, 0)))), some (.inl s), some (.inl t), some (.inl v), some (.inl ((wCf (pFit g s t) w).1)), some (.inl ((wCf (pFit g s t) w).2)), some (.inl w)]) (st' := [.inl w, .inl s, .inr (.inr (some (50, 0)))]) (M' := (P, g1, r0, n)) ok_X11_fits true 3 rfl trivial ?_
                refine aj_callV (av := [.inl s, .inl w]) (st := []) (f := 50) (o := 0) (ci := 11) cal_X11_isHeard lk_11_305 ins_X11_isHeard rfl sel_X11_isHeard rfl (fun c9 h9 _ => by simpa [ax_ok] using h9) (sp_isHeard s w _ _ _ _ hn (wOs_k i3 hs) (fun q z1 z2 => by rw [i3.1 156 (by decide) (by omega)]; exact hz q z1 z2) (by omega)) ⟨by decide, by decide, by decide, by decide⟩ (Nat.le_of_ble_eq_true rfl) (ax_dec2 (i := .invokevirtual 305) (n := 3) ok_X11_fits rfl) (fun r M' hq => ?_)
                obtain ⟨rfl, g2, rfl, hg2⟩ := hq
                have kz2 : wKp g2 g := hg2.tr i3
                rw [fHr_k (wKr_p i3)]
                have hp : pFit g s t w = fHr g s w := if_neg (by omega)
                change ax_J _ _ _ _ _ _ _ _ _ 104 [some (.inr (.inr (some (50, 0)))), some (.inl s), some (.inl t), some (.inl v), some (.inl ((wCf (pFit g s t) w).1)), some (.inl ((wCf (pFit g s t) w).2)), some (.inl w)] [.inl (fHr g s w)] (P, g2, r0, n)
                refine aj_if_eq (tgt := 124) (ax_dec2 (i := .ifCond .eq 20) (n := 3) ok_X11_fits rfl) (by decide) (fun c9 => ?_) (fun c9 => ?_)
                · refine aj_run (C := (-2147483648 ≤ w + 1 ∧ w + 1 ≤ 2147483647) ∧ True) (pc' := 69) (la' := [some (.inr (.inr (some (50, 0)))), some (.inl s), some (.inl t), some (.inl v), some (.inl ((wCf (pFit g s t) w).1)), some (.inl ((wCf (pFit g s t) w).2)), some (.inl (w + 1))]) (st' := []) (M' := (P, g2, r0, n)) ok_X11_fits true 2 rfl (by refine ⟨?_, trivial⟩ <;> (omega)) ?_
                  refine aj_cast (congrArg (fun (z9 : Int) => ([some (.inr (.inr (some (50, 0)))), some (.inl s), some (.inl t), some (.inl v), some (.inl z9), some (.inl ((wCf (pFit g s t) w).2)), some (.inl (w + 1))] : List (Option ax_V))) (show (wCf (pFit g s t) w).1 = (wCf (pFit g s t) (w + 1)).1 from by (rw [wCf_s i1]; (first | rw [if_pos (show pFit g s t w ≠ 0 by omega)] | rw [if_neg (show ¬ pFit g s t w ≠ 0 by omega)]); try dsimp only; try (first | rw [if_pos (by omega)] | rw [if_neg (by omega)])))) rfl rfl ?_
                  refine aj_cast (congrArg (fun (z9 : Int) => ([some (.inr (.inr (some (50, 0)))), some (.inl s), some (.inl t), some (.inl v), some (.inl ((wCf (pFit g s t) (w + 1)).1)), some (.inl z9), some (.inl (w + 1))] : List (Option ax_V))) (show (wCf (pFit g s t) w).2 = (wCf (pFit g s t) (w + 1)).2 from by (rw [wCf_s i1]; (first | rw [if_pos (show pFit g s t w ≠ 0 by omega)] | rw [if_neg (show ¬ pFit g s t w ≠ 0 by omega)]); try dsimp only; try (first | rw [if_pos (by omega)] | rw [if_neg (by omega)])))) rfl rfl ?_
                  refine ih69 (w + 1, g2) ?_ ?_
                  · exact ⟨by omega, by omega, kz2⟩
                  · omega
                · refine aj_run (C := True) (pc' := 109) (la' := [some (.inr (.inr (some (50, 0)))), some (.inl s), some (.inl t), some (.inl v), some (.inl ((wCf (pFit g s t) w).1)), some (.inl ((wCf (pFit g s t) w).2)), some (.inl w)]) (st' := [.inl ((wCf (pFit g s t) w).1)]) (M' := (P, g2, r0, n)) ok_X11_fits true 1 rfl trivial ?_
                  refine aj_if_ne (tgt := 117) (ax_dec2 (i := .ifCond .ne 8) (n := 3) ok_X11_fits rfl) (by decide) (fun c10 => ?_) (fun c10 => ?_)
                  · refine aj_run (C := (-2147483648 ≤ ((wCf (pFit g s t) w).1) + 1 ∧ ((wCf (pFit g s t) w).1) + 1 ≤ 2147483647) ∧ (-2147483648 ≤ w + 1 ∧ w + 1 ≤ 2147483647) ∧ True) (pc' := 69) (la' := [some (.inr (.inr (some (50, 0)))), some (.inl s), some (.inl t), some (.inl v), some (.inl (((wCf (pFit g s t) w).1) + 1)), some (.inl ((wCf (pFit g s t) w).2)), some (.inl (w + 1))]) (st' := []) (M' := (P, g2, r0, n)) ok_X11_fits true 5 rfl (by refine ⟨?_, ?_, trivial⟩ <;> (omega)) ?_
                    refine aj_cast (congrArg (fun (z9 : Int) => ([some (.inr (.inr (some (50, 0)))), some (.inl s), some (.inl t), some (.inl v), some (.inl z9), some (.inl ((wCf (pFit g s t) w).2)), some (.inl (w + 1))] : List (Option ax_V))) (show ((wCf (pFit g s t) w).1) + 1 = (wCf (pFit g s t) (w + 1)).1 from by (rw [wCf_s i1]; (first | rw [if_pos (show pFit g s t w ≠ 0 by omega)] | rw [if_neg (show ¬ pFit g s t w ≠ 0 by omega)]); try dsimp only; try (first | rw [if_pos (by omega)] | rw [if_neg (by omega)])))) rfl rfl ?_
                    refine aj_cast (congrArg (fun (z9 : Int) => ([some (.inr (.inr (some (50, 0)))), some (.inl s), some (.inl t), some (.inl v), some (.inl ((wCf (pFit g s t) (w + 1)).1)), some (.inl z9), some (.inl (w + 1))] : List (Option ax_V))) (show (wCf (pFit g s t) w).2 = (wCf (pFit g s t) (w + 1)).2 from by (rw [wCf_s i1]; (first | rw [if_pos (show pFit g s t w ≠ 0 by omega)] | rw [if_neg (show ¬ pFit g s t w ≠ 0 by omega)]); try dsimp only; try (first | rw [if_pos (by omega)] | rw [if_neg (by omega)])))) rfl rfl ?_
                    refine ih69 (w + 1, g2) ?_ ?_
                    · exact ⟨by omega, by omega, kz2⟩
                    · omega
                  · refine aj_run (C := (-2147483648 ≤ ((wCf (pFit g s t) w).1) + 1 ∧ ((wCf (pFit g s t) w).1) + 1 ≤ 2147483647) ∧ (-2147483648 ≤ w + 1 ∧ w + 1 ≤ 2147483647) ∧ True) (pc' := 69) (la' := [some (.inr (.inr (some (50, 0)))), some (.inl s), some (.inl t), some (.inl v), some (.inl (((wCf (pFit g s t) w).1) + 1)), some (.inl w), some (.inl (w + 1))]) (st' := []) (M' := (P, g2, r0, n)) ok_X11_fits true 6 rfl (by refine ⟨?_, ?_, trivial⟩ <;> (omega)) ?_
                    refine aj_cast (congrArg (fun (z9 : Int) => ([some (.inr (.inr (some (50, 0)))), some (.inl s), some (.inl t), some (.inl v), some (.inl z9), some (.inl w), some (.inl (w + 1))] : List (Option ax_V))) (show ((wCf (pFit g s t) w).1) + 1 = (wCf (pFit g s t) (w + 1)).1 from by (rw [wCf_s i1]; (first | rw [if_pos (show pFit g s t w ≠ 0 by omega)] | rw [if_neg (show ¬ pFit g s t w ≠ 0 by omega)]); try dsimp only; try (first | rw [if_pos (by omega)] | rw [if_neg (by omega)])))) rfl rfl ?_
                    refine aj_cast (congrArg (fun (z9 : Int) => ([some (.inr (.inr (some (50, 0)))), some (.inl s), some (.inl t), some (.inl v), some (.inl ((wCf (pFit g s t) (w + 1)).1)), some (.inl z9), some (.inl (w + 1))] : List (Option ax_V))) (show w = (wCf (pFit g s t) (w + 1)).2 from by (rw [wCf_s i1]; (first | rw [if_pos (show pFit g s t w ≠ 0 by omega)] | rw [if_neg (show ¬ pFit g s t w ≠ 0 by omega)]); try dsimp only; try (first | rw [if_pos (by omega)] | rw [if_neg (by omega)])))) rfl rfl ?_
                    refine ih69 (w + 1, g2) ?_ ?_
                    · exact ⟨by omega, by omega, kz2⟩
                    · omega
              · exact absurd c8 (by omega)
          · refine aj_run (C := (0 ≤ s ∧ s < n 156 0) ∧ True) (pc' := 54) (la' := [some (.inr (.inr (some (50, 0)))), some (.inl s), some (.inl t), some (.inl v), none, none, none]) (st' := [.inl (g 50 0 2), .inl (g 156 0 s)]) (M' := (P, g, r0, n)) ok_X11_fits true 6 rfl (by refine ⟨?_, trivial⟩ <;> (omega)) ?_
            refine aj_icmp_eq (tgt := 60) (ax_dec2 (i := .if_icmp .eq 6) (n := 3) ok_X11_fits rfl) (by decide) (fun c11 => ?_) (fun c11 => ?_)
            · refine aj_run (C := True) (pc' := 69) (la' := [some (.inr (.inr (some (50, 0)))), some (.inl s), some (.inl t), some (.inl v), some (.inl 0), some (.inl (-1)), some (.inl 0)]) (st' := []) (M' := (P, g, r0, n)) ok_X11_fits true 6 rfl trivial ?_
              refine aj_cast (congrArg (fun (z9 : Int) => ([some (.inr (.inr (some (50, 0)))), some (.inl s), some (.inl t), some (.inl v), some (.inl z9), some (.inl (-1)), some (.inl 0)] : List (Option ax_V))) (show 0 = (wCf (pFit g s t) 0).1 from by rfl)) rfl rfl ?_
              refine aj_cast (congrArg (fun (z9 : Int) => ([some (.inr (.inr (some (50, 0)))), some (.inl s), some (.inl t), some (.inl v), some (.inl ((wCf (pFit g s t) 0).1)), some (.inl z9), some (.inl 0)] : List (Option ax_V))) (show (-1) = (wCf (pFit g s t) 0).2 from by rfl)) rfl rfl ?_
              refine aj_loop (σ := (Int) × (Nat → Int → Int → Int)) (fun xL => 0 ≤ xL.1 ∧ xL.1 ≤ wWy g ∧ wKp xL.2 g) (fun xL => (wWy g - xL.1).toNat) (fun xL => [some (.inr (.inr (some (50, 0)))), some (.inl s), some (.inl t), some (.inl v), some (.inl ((wCf (pFit g s t) xL.1).1)), some (.inl ((wCf (pFit g s t) xL.1).2)), some (.inl xL.1)]) (fun xL => []) (fun xL => (P, xL.2, r0, n)) ?_ (0, g) ?_
              rotate_left
              · exact ⟨by omega, by omega, wKp.rf⟩
              rintro ⟨w, g1⟩ hI ih69
              try dsimp only at hI ih69
              obtain ⟨i1, i2, i3⟩ := hI
              change ax_J _ _ _ _ _ _ _ _ _ 69 [some (.inr (.inr (some (50, 0)))), some (.inl s), some (.inl t), some (.inl v), some (.inl ((wCf (pFit g s t) w).1)), some (.inl ((wCf (pFit g s t) w).2)), some (.inl w)] [] (P, g1, r0, n)
              have zs1 : g1 50 0 2 = g 50 0 2 := i3.2 0 2 (by omega)
              have hW := wWy_in hs
              have eW : ax_shl 1 (g1 50 0 2) = wWy g := by rw [zs1]; rfl
              have hc := wCf_in (p := pFit g s t) i1
              refine aj_run (C := True) (pc' := 77) (la' := [some (.inr (.inr (some (50, 0)))), some (.inl s), some (.inl t), some (.inl v), some (.inl ((wCf (pFit g s t) w).1)), some (.inl ((wCf (pFit g s t) w).2)), some (.inl w)]) (st' := [.inl (ax_shl 1 (g1 50 0 2)), .inl w]) (M' := (P, g1, r0, n)) ok_X11_fits true 5 rfl trivial ?_
              refine aj_icmp_ge (tgt := 130) (ax_dec2 (i := .if_icmp .ge 53) (n := 3) ok_X11_fits rfl) (by decide) (fun c12 => ?_) (fun c12 => ?_)
              · refine aj_run (C := True) (pc' := 131) (la' := [some (.inr (.inr (some (50, 0)))), some (.inl s), some (.inl t), some (.inl v), some (.inl ((wCf (pFit g s t) w).1)), some (.inl ((wCf (pFit g s t) w).2)), some (.inl w)]) (st' := [.inl v]) (M' := (P, g1, r0, n)) ok_X11_fits true 1 rfl trivial ?_
                refine aj_if_ne (tgt := 139) (ax_dec2 (i := .ifCond .ne 8) (n := 3) ok_X11_fits rfl) (by decide) (fun c13 => ?_) (fun c13 => ?_)
                · refine aj_run (C := True) (pc' := 141) (la' := [some (.inr (.inr (some (50, 0)))), some (.inl s), some (.inl t), some (.inl v), some (.inl ((wCf (pFit g s t) w).1)), some (.inl ((wCf (pFit g s t) w).2)), some (.inl w)]) (st' := [.inl ((wCf (pFit g s t) w).2)]) (M' := (P, g1, r0, n)) ok_X11_fits true 1 rfl trivial ?_
                  refine aj_ret (r := some (.inl ((wCf (pFit g s t) w).2))) (ax_dec2 (i := .ireturn) (n := 1) ok_X11_fits rfl) ⟨?_, ?_, by decide, by decide⟩ rfl
                  · first | (exfalso; omega) | exact ⟨ax_si (by unfold fFit; (repeat first | rw [if_pos (by omega)] | rw [if_neg (by omega)] | rw [bI_t (by omega)] | rw [bI_f (by omega)]); rw [show wWy g = w by omega]), _, rfl, i3⟩
                  · exact ax_ro_i
                · refine aj_run (C := True) (pc' := 141) (la' := [some (.inr (.inr (some (50, 0)))), some (.inl s), some (.inl t), some (.inl v), some (.inl ((wCf (pFit g s t) w).1)), some (.inl ((wCf (pFit g s t) w).2)), some (.inl w)]) (st' := [.inl ((wCf (pFit g s t) w).1)]) (M' := (P, g1, r0, n)) ok_X11_fits true 2 rfl trivial ?_
                  refine aj_ret (r := some (.inl ((wCf (pFit g s t) w).1))) (ax_dec2 (i := .ireturn) (n := 1) ok_X11_fits rfl) ⟨?_, ?_, by decide, by decide⟩ rfl
                  · first | (exfalso; omega) | exact ⟨ax_si (by unfold fFit; (repeat first | rw [if_pos (by omega)] | rw [if_neg (by omega)] | rw [bI_t (by omega)] | rw [bI_f (by omega)]); rw [show wWy g = w by omega]), _, rfl, i3⟩
                  · exact ax_ro_i
              · refine aj_run (C := True) (pc' := 81) (la' := [some (.inr (.inr (some (50, 0)))), some (.inl s), some (.inl t), some (.inl v), some (.inl ((wCf (pFit g s t) w).1)), some (.inl ((wCf (pFit g s t) w).2)), some (.inl w)]) (st' := [.inl t]) (M' := (P, g1, r0, n)) ok_X11_fits true 1 rfl trivial ?_
                refine aj_if_ne (tgt := 97) (ax_dec2 (i := .ifCond .ne 16) (n := 3) ok_X11_fits rfl) (by decide) (fun c14 => ?_) (fun c14 => ?_)
                · exact absurd c14 (by omega)
                · refine aj_run (C := True) (pc' := 88) (la' := [some (.inr (.inr (some (50, 0)))), some (.inl s), some (.inl t), some (.inl v), some (.inl ((wCf (pFit g s t) w).1)), some (.inl ((wCf (pFit g s t) w).2)), some (.inl w)]) (st' := [.inl w, .inl s, .inr (.inr (some (50, 0)))]) (M' := (P, g1, r0, n)) ok_X11_fits true 3 rfl trivial ?_
                  refine aj_callV (av := [.inl s, .inl w]) (st := []) (f := 50) (o := 0) (ci := 11) cal_X11_isFit lk_11_301 ins_X11_isFit rfl sel_X11_isFit rfl (fun c9 h9 _ => by simpa [ax_ok] using h9) (sp_isFit s w _ _ _ _ hn (wOs_k i3 hs) (by omega)) ⟨by decide, by decide, by decide, by decide⟩ (Nat.le_of_ble_eq_true rfl) (ax_dec2 (i := .invokevirtual 301) (n := 3) ok_X11_fits rfl) (fun r M' hq => ?_)
                  obtain ⟨rfl, g2, rfl, hg2⟩ := hq
                  have kz2 : wKp g2 g := hg2.tr i3
                  rw [fFi_k (wKr_p i3)]
                  have hp : pFit g s t w = fFi g s w := if_pos (by omega)
                  change ax_J _ _ _ _ _ _ _ _ _ 91 [some (.inr (.inr (some (50, 0)))), some (.inl s), some (.inl t), some (.inl v), some (.inl ((wCf (pFit g s t) w).1)), some (.inl ((wCf (pFit g s t) w).2)), some (.inl w)] [.inl (fFi g s w)] (P, g2, r0, n)
                  refine aj_if_eq (tgt := 124) (ax_dec2 (i := .ifCond .eq 33) (n := 3) ok_X11_fits rfl) (by decide) (fun c15 => ?_) (fun c15 => ?_)
                  · refine aj_run (C := (-2147483648 ≤ w + 1 ∧ w + 1 ≤ 2147483647) ∧ True) (pc' := 69) (la' := [some (.inr (.inr (some (50, 0)))), some (.inl s), some (.inl t), some (.inl v), some (.inl ((wCf (pFit g s t) w).1)), some (.inl ((wCf (pFit g s t) w).2)), some (.inl (w + 1))]) (st' := []) (M' := (P, g2, r0, n)) ok_X11_fits true 2 rfl (by refine ⟨?_, trivial⟩ <;> (omega)) ?_
                    refine aj_cast (congrArg (fun (z9 : Int) => ([some (.inr (.inr (some (50, 0)))), some (.inl s), some (.inl t), some (.inl v), some (.inl z9), some (.inl ((wCf (pFit g s t) w).2)), some (.inl (w + 1))] : List (Option ax_V))) (show (wCf (pFit g s t) w).1 = (wCf (pFit g s t) (w + 1)).1 from by (rw [wCf_s i1]; (first | rw [if_pos (show pFit g s t w ≠ 0 by omega)] | rw [if_neg (show ¬ pFit g s t w ≠ 0 by omega)]); try dsimp only; try (first | rw [if_pos (by omega)] | rw [if_neg (by omega)])))) rfl rfl ?_
                    refine aj_cast (congrArg (fun (z9 : Int) => ([some (.inr (.inr (some (50, 0)))), some (.inl s), some (.inl t), some (.inl v), some (.inl ((wCf (pFit g s t) (w + 1)).1)), some (.inl z9), some (.inl (w + 1))] : List (Option ax_V))) (show (wCf (pFit g s t) w).2 = (wCf (pFit g s t) (w + 1)).2 from by (rw [wCf_s i1]; (first | rw [if_pos (show pFit g s t w ≠ 0 by omega)] | rw [if_neg (show ¬ pFit g s t w ≠ 0 by omega)]); try dsimp only; try (first | rw [if_pos (by omega)] | rw [if_neg (by omega)])))) rfl rfl ?_
                    refine ih69 (w + 1, g2) ?_ ?_
                    · exact ⟨by omega, by omega, kz2⟩
                    · omega
                  · refine aj_run (C := True) (pc' := 109) (la' := [some (.inr (.inr (some (50, 0)))), some (.inl s), some (.inl t), some (.inl v), some (.inl ((wCf (pFit g s t) w).1)), some (.inl ((wCf (pFit g s t) w).2)), some (.inl w)]) (st' := [.inl ((wCf (pFit g s t) w).1)]) (M' := (P, g2, r0, n)) ok_X11_fits true 2 rfl trivial ?_
                    refine aj_if_ne (tgt := 117) (ax_dec2 (i := .ifCond .ne 8) (n := 3) ok_X11_fits rfl) (by decide) (fun c16 => ?_) (fun c16 => ?_)
                    · refine aj_run (C := (-2147483648 ≤ ((wCf (pFit g s t) w).1) + 1 ∧ ((wCf (pFit g s t) w).1) + 1 ≤ 2147483647) ∧ (-2147483648 ≤ w + 1 ∧ w + 1 ≤ 2147483647) ∧ True) (pc' := 69) (la' := [some (.inr (.inr (some (50, 0)))), some (.inl s), some (.inl t), some (.inl v), some (.inl (((wCf (pFit g s t) w).1) + 1)), some (.inl ((wCf (pFit g s t) w).2)), some (.inl (w + 1))]) (st' := []) (M' := (P, g2, r0, n)) ok_X11_fits true 5 rfl (by refine ⟨?_, ?_, trivial⟩ <;> (omega)) ?_
                      refine aj_cast (congrArg (fun (z9 : Int) => ([some (.inr (.inr (some (50, 0)))), some (.inl s), some (.inl t), some (.inl v), some (.inl z9), some (.inl ((wCf (pFit g s t) w).2)), some (.inl (w + 1))] : List (Option ax_V))) (show ((wCf (pFit g s t) w).1) + 1 = (wCf (pFit g s t) (w + 1)).1 from by (rw [wCf_s i1]; (first | rw [if_pos (show pFit g s t w ≠ 0 by omega)] | rw [if_neg (show ¬ pFit g s t w ≠ 0 by omega)]); try dsimp only; try (first | rw [if_pos (by omega)] | rw [if_neg (by omega)])))) rfl rfl ?_
                      refine aj_cast (congrArg (fun (z9 : Int) => ([some (.inr (.inr (some (50, 0)))), some (.inl s), some (.inl t), some (.inl v), some (.inl ((wCf (pFit g s t) (w + 1)).1)), some (.inl z9), some (.inl (w + 1))] : List (Option ax_V))) (show (wCf (pFit g s t) w).2 = (wCf (pFit g s t) (w + 1)).2 from by (rw [wCf_s i1]; (first | rw [if_pos (show pFit g s t w ≠ 0 by omega)] | rw [if_neg (show ¬ pFit g s t w ≠ 0 by omega)]); try dsimp only; try (first | rw [if_pos (by omega)] | rw [if_neg (by omega)])))) rfl rfl ?_
                      refine ih69 (w + 1, g2) ?_ ?_
                      · exact ⟨by omega, by omega, kz2⟩
                      · omega
                    · refine aj_run (C := (-2147483648 ≤ ((wCf (pFit g s t) w).1) + 1 ∧ ((wCf (pFit g s t) w).1) + 1 ≤ 2147483647) ∧ (-2147483648 ≤ w + 1 ∧ w + 1 ≤ 2147483647) ∧ True) (pc' := 69) (la' := [some (.inr (.inr (some (50, 0)))), some (.inl s), some (.inl t), some (.inl v), some (.inl (((wCf (pFit g s t) w).1) + 1)), some (.inl w), some (.inl (w + 1))]) (st' := []) (M' := (P, g2, r0, n)) ok_X11_fits true 6 rfl (by refine ⟨?_, ?_, trivial⟩ <;> (omega)) ?_
                      refine aj_cast (congrArg (fun (z9 : Int) => ([some (.inr (.inr (some (50, 0)))), some (.inl s), some (.inl t), some (.inl v), some (.inl z9), some (.inl w), some (.inl (w + 1))] : List (Option ax_V))) (show ((wCf (pFit g s t) w).1) + 1 = (wCf (pFit g s t) (w + 1)).1 from by (rw [wCf_s i1]; (first | rw [if_pos (show pFit g s t w ≠ 0 by omega)] | rw [if_neg (show ¬ pFit g s t w ≠ 0 by omega)]); try dsimp only; try (first | rw [if_pos (by omega)] | rw [if_neg (by omega)])))) rfl rfl ?_
                      refine aj_cast (congrArg (fun (z9 : Int) => ([some (.inr (.inr (some (50, 0)))), some (.inl s), some (.inl t), some (.inl v), some (.inl ((wCf (pFit g s t) (w + 1)).1)), some (.inl z9), some (.inl (w + 1))] : List (Option ax_V))) (show w = (wCf (pFit g s t) (w + 1)).2 from by (rw [wCf_s i1]; (first | rw [if_pos (show pFit g s t w ≠ 0 by omega)] | rw [if_neg (show ¬ pFit g s t w ≠ 0 by omega)]); try dsimp only; try (first | rw [if_pos (by omega)] | rw [if_neg (by omega)])))) rfl rfl ?_
                      refine ih69 (w + 1, g2) ?_ ?_
                      · exact ⟨by omega, by omega, kz2⟩
                      · omega
            · refine aj_run (C := True) (pc' := 59) (la' := [some (.inr (.inr (some (50, 0)))), some (.inl s), some (.inl t), some (.inl v), none, none, none]) (st' := [.inl (-2)]) (M' := (P, g, r0, n)) ok_X11_fits true 1 rfl trivial ?_
              refine aj_ret (r := some (.inl (-2))) (ax_dec2 (i := .ireturn) (n := 1) ok_X11_fits rfl) ⟨?_, ?_, by decide, by decide⟩ rfl
              · first | (exfalso; omega) | exact ⟨ax_si (by unfold fFit; (repeat first | rw [if_pos (by omega)] | rw [if_neg (by omega)] | rw [bI_t (by omega)] | rw [bI_f (by omega)])), _, rfl, wKp.rf⟩
              · exact ax_ro_i
        · refine aj_run (C := True) (pc' := 39) (la' := [some (.inr (.inr (some (50, 0)))), some (.inl s), some (.inl t), some (.inl v), none, none, none]) (st' := [.inl (-11)]) (M' := (P, g, r0, n)) ok_X11_fits true 1 rfl trivial ?_
          refine aj_ret (r := some (.inl (-11))) (ax_dec2 (i := .ireturn) (n := 1) ok_X11_fits rfl) ⟨?_, ?_, by decide, by decide⟩ rfl
          · first | (exfalso; omega) | exact ⟨ax_si (by unfold fFit; (repeat first | rw [if_pos (by omega)] | rw [if_neg (by omega)] | rw [bI_t (by omega)] | rw [bI_f (by omega)])), _, rfl, wKp.rf⟩
          · exact ax_ro_i
      · replace c3 := bI_e0 c3
        refine aj_run (C := True) (pc' := 27) (la' := [some (.inr (.inr (some (50, 0)))), some (.inl s), some (.inl t), some (.inl v), none, none, none]) (st' := [.inl (-2)]) (M' := (P, g, r0, n)) ok_X11_fits true 1 rfl trivial ?_
        refine aj_ret (r := some (.inl (-2))) (ax_dec2 (i := .ireturn) (n := 1) ok_X11_fits rfl) ⟨?_, ?_, by decide, by decide⟩ rfl
        · first | (exfalso; omega) | exact ⟨ax_si (by unfold fFit; (repeat first | rw [if_pos (by omega)] | rw [if_neg (by omega)] | rw [bI_t (by omega)] | rw [bI_f (by omega)])), _, rfl, wKp.rf⟩
        · exact ax_ro_i

