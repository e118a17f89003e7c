def gBy (g : Nat → Int → Int → Int) (t w m : Int) : Int := wFI (fun a l => if l ≠ 0 ∧ 0 ≤ gA g w 135 0 a ∧ gA g w 135 0 a ≤ t then 1 else 0) 1 m
theorem gBy_s {g : Nat → Int → Int → Int} {t w m : Int} (h : 0 ≤ m) : gBy g t w (m + 1) = if gBy g t w m ≠ 0 ∧ 0 ≤ gA g w 135 0 m ∧ gA g w 135 0 m ≤ t then 1 else 0 := wFI_s h
theorem gBy_01 {g : Nat → Int → Int → Int} {t w m : Int} : gBy g t w m = 0 ∨ gBy g t w m = 1 := by
  unfold gBy wFI
  generalize m.toNat = q
  cases q with
  | zero => exact Or.inr rfl
  | succ q =>
    unfold wF
    split
    · exact Or.inr rfl
    · exact Or.inl rfl
def pBy (g : Nat → Int → Int → Int) (t w : Int) : Int := gBy g t w (g 50 0 2)
def wRed : Nat → Int → Int → Int × Int
  | 0, a, b => (a, b)
  | k + 1, a, b => if Int.tmod a 2 = 0 ∧ 1 < b then wRed k (Int.tdiv a 2) (Int.tdiv b 2) else (a, b)
theorem wRed_n {k : Nat} {a b : Int} (h : ¬ (Int.tmod a 2 = 0 ∧ 1 < b)) : wRed k a b = (a, b) := by
  cases k with
  | zero => rfl
  | succ k =>
    unfold wRed
    rw [if_neg h]
theorem wRed_y {A : Int × Int} {a b : Int} (hb : 1 < b) (ha : Int.tmod a 2 = 0) (h : ∃ j : Nat, b.toNat < 2 ^ j ∧ A = wRed j a b) : ∃ j : Nat, (Int.tdiv b 2).toNat < 2 ^ j ∧ A = wRed j (Int.tdiv a 2) (Int.tdiv b 2) := by
  obtain ⟨j, h1, h2⟩ := h
  cases j with
  | zero => omega
  | succ j =>
    refine ⟨j, ?_, ?_⟩
    · rw [Int.tdiv_eq_ediv_of_nonneg (by omega)]
      rw [Nat.pow_succ] at h1
      omega
    · rw [h2]
      conv => lhs; unfold wRed
      rw [if_pos ⟨ha, hb⟩]
def fBy (g : Nat → Int → Int → Int) (t p : Int) : Int := if (0 ≤ t ∧ t ≤ 200) ∧ 0 ≤ p ∧ p ≤ 1 then (if p = 0 then (wRed 8 (wCf (pBy g t) (wWy g)).1 (wWy g)).1 else (wRed 8 (wCf (pBy g t) (wWy g)).1 (wWy g)).2) else -4611686018427387904
theorem wNx_in {g : Nat → Int → Int → Int} {a k x m : Int} (hk : k ≤ m) (hx : 0 ≤ x ∧ x < m) : 0 ≤ wNx g a k x ∧ wNx g a k x < m := by
  unfold wNx wFI
  suffices H : ∀ q : Nat, (q : Int) ≤ m ∨ q = 0 → 0 ≤ wF (fun b x => if (0 ≤ g 129 0 a ∧ g 129 0 b = g 129 0 a ∧ g 130 0 b ≠ g 130 0 a) ∧ a = g 50 0 41 ∧ wMt g a b = 0 then b else x) x q ∧ wF (fun b x => if (0 ≤ g 129 0 a ∧ g 129 0 b = g 129 0 a ∧ g 130 0 b ≠ g 130 0 a) ∧ a = g 50 0 41 ∧ wMt g a b = 0 then b else x) x q < m from H _ (by omega)
  intro q
  induction q with
  | zero => intro _; exact hx
  | succ q ih =>
    intro hq
    have := ih (by omega)
    unfold wF
    try dsimp only
    split
    · omega
    · exact this
theorem wNxO_in {g : Nat → Int → Int → Int} {k m : Int} (hm : g 50 0 2 ≤ m) (hx : 0 ≤ g 50 0 41 ∧ g 50 0 41 < m) : 0 ≤ wNxO g k ∧ wNxO g k < m := by
  unfold wNxO wFI
  generalize k.toNat = q
  induction q with
  | zero => exact hx
  | succ q ih => exact wNx_in hm ih
theorem it_car {g : Nat → Int → Int → Int} {m : Int} (hm : g 50 0 2 ≤ m) (hx : 0 ≤ g 50 0 41 ∧ g 50 0 41 < m) : ∀ k, 0 ≤ wIt g k 50 0 41 ∧ wIt g k 50 0 41 < m
  | 0 => hx
  | k + 1 => by
    have ih := it_car hm hx k
    show 0 ≤ wStep (wIt g k) 50 0 41 ∧ wStep (wIt g k) 50 0 41 < m
    have e : wStep (wIt g k) 50 0 41 = wNxO (wSt1 (wIt g k)) (wSt1 (wIt g k) 50 0 2) := by
      unfold wStep
      rw [en_o rfl (by decide) (by decide), mt_41]
    rw [e]
    refine wNxO_in ?_ ?_
    · rw [st1_sz, (it_ss k).2 _ _ (by omega)]
      exact hm
    · rw [st1_o (by decide) (fun _ => by decide)]
      exact ih
def fCar (g : Nat → Int → Int → Int) (x w : Int) : Int := if (0 ≤ x ∧ x < g 50 0 2) ∧ 0 ≤ w ∧ w ≤ 1 then (if w = 0 then gCa g x 50 0 41 else gCa g x 135 0 (gCa g x 50 0 41)) else -2
def wSm (W F W2 F2 : Int → Int) (m : Int) : Int := wFI (fun a l => if l ≠ 0 ∧ W a = W2 a ∧ F a = F2 a then 1 else 0) 1 m
theorem wSm_s {W F W2 F2 : Int → Int} {m : Int} (h : 0 ≤ m) : wSm W F W2 F2 (m + 1) = if wSm W F W2 F2 m ≠ 0 ∧ W m = W2 m ∧ F m = F2 m then 1 else 0 := wFI_s h
theorem wSm_c {W F W2 F2 W' F' W2' F2' : Int → Int} {m : Int} (h1 : ∀ a, 0 ≤ a → a < m → W' a = W a) (h2 : ∀ a, 0 ≤ a → a < m → F' a = F a) (h3 : ∀ a, 0 ≤ a → a < m → W2' a = W2 a) (h4 : ∀ a, 0 ≤ a → a < m → F2' a = F2 a) : wSm W' F' W2' F2' m = wSm W F W2 F2 m := by
  unfold wSm
  exact wFI_c fun a t z1 z2 => by rw [h1 a z1 z2, h2 a z1 z2, h3 a z1 z2, h4 a z1 z2]
/-- the first of 1 .. k that is so -/
def wFs (p : Int → Int) (k : Int) : Int := wFI (fun q r => if r = -1 ∧ p (q + 1) ≠ 0 then q + 1 else r) (-1) k
theorem wFs_s {p : Int → Int} {k : Int} (h : 0 ≤ k) : wFs p (k + 1) = if wFs p k = -1 ∧ p (k + 1) ≠ 0 then k + 1 else wFs p k := wFI_s h
theorem wFs_st {p : Int → Int} {k : Int} (h0 : 0 ≤ k) (h : wFs p k ≠ -1) : ∀ m : Nat, wFs p (k + m) = wFs p k
  | 0 => by rw [show k + ((0 : Nat) : Int) = k by omega]
  | m + 1 => by
    rw [show k + ((m + 1 : Nat) : Int) = k + m + 1 by omega, wFs_s (by omega), wFs_st h0 h m, if_neg (fun z => h z.1)]
def gSm (g : Nat → Int → Int → Int) (q : Int) : Int := wSm (wIt (gT g 40) q.toNat 129 0) (wIt (gT g 40) q.toNat 130 0) (gT g 40 129 0) (gT g 40 130 0) (g 50 0 2)
def fRou (g : Nat → Int → Int → Int) : Int := if g 50 0 1 = 0 then -3 else wFs (gSm g) 160
def wDr (seed k : Int) : Int × Int := wFI (fun a s => (Int.bmod (Int.bmod (s.1 * 1103515245) 4294967296 + 12345) 4294967296, ax_or s.2 (ax_shl (Int.tmod (ax_ush (Int.bmod (Int.bmod (s.1 * 1103515245) 4294967296 + 12345) 4294967296) 7) 2) a))) (seed, 0) k
theorem wDr_s {seed k : Int} (h : 0 ≤ k) : wDr seed (k + 1) = (Int.bmod (Int.bmod ((wDr seed k).1 * 1103515245) 4294967296 + 12345) 4294967296, ax_or (wDr seed k).2 (ax_shl (Int.tmod (ax_ush (Int.bmod (Int.bmod ((wDr seed k).1 * 1103515245) 4294967296 + 12345) 4294967296) 7) 2) k)) := wFI_s h
noncomputable def fDrw (g : Nat → Int → Int → Int) (seed : Int) : Int := if gLa g (wDr seed (g 50 0 2)).2 = -1 then -1 else gA g (wDr seed (g 50 0 2)).2 135 0 (gLa g (wDr seed (g 50 0 2)).2)
set_option maxRecDepth 100000 in
set_option maxHeartbeats 4000000 in
theorem sp_byThen (t v : Int) (P : Nat → Int → Prop) (g : Nat → Int → Int → Int) (r0 : Nat → Int → Int → Option (Nat × Int)) (n : Nat → Int → Int) (hn : mLen n) (hs : wOs g) : ax_S yX11_byThen cX11_byThen 7 (some FieldType.long) 7 0 0 [.inr (.inr (some (50, 0))), .inl t, .inl v] (P, g, r0, n) (fun r M' => r = some (.inr (.inl (fBy g t v))) ∧ ∃ g', M' = (P, g', r0, n) ∧ wKp g' g) := by
  have n135 : n 135 0 = 7 := hn (135, 7) (by decide)
  have h2 := hs.2.2.1
  have hW0 := wWy_in hs
  refine ax_S_of (own := 11) (by decide) rfl (fun h => absurd h (by decide)) rfl (Nat.le_of_ble_eq_true rfl) ?_
  change ax_J _ _ _ _ _ _ _ _ _ _ [some (.inr (.inr (some (50, 0)))), some (.inl t), some (.inl v), none, none, none, none] _ _
  refine aj_run (C := True) (pc' := 5) (la' := [some (.inr (.inr (some (50, 0)))), some (.inl t), some (.inl v), none, none, none, none]) (st' := [.inl 200, .inl 0, .inl t]) (M' := (P, g, r0, n)) ok_X11_byThen true 3 rfl trivial ?_
  refine aj_callS (av := [.inl t, .inl 0, .inl 200]) (st := []) cal_X11_isIn lk_11_7 stc_X11_isIn (sp_isIn t 0 200 _ _ _ _) ⟨by decide, by decide, by decide, by decide⟩ (Nat.le_of_ble_eq_true rfl) (ax_dec2 (i := .invokestatic 7) (n := 3) ok_X11_byThen rfl) (fun r M' hq => ?_)
  obtain ⟨rfl, rfl⟩ := hq
  change ax_J _ _ _ _ _ _ _ _ _ 8 [some (.inr (.inr (some (50, 0)))), some (.inl t), some (.inl v), none, none, none, none] [.inl (bI (0 ≤ t ∧ t ≤ 200))] (P, g, r0, n)
  refine aj_if_eq (tgt := 20) (ax_dec2 (i := .ifCond .eq 12) (n := 3) ok_X11_byThen rfl) (by decide) (fun c1 => ?_) (fun c1 => ?_)
  · replace c1 := bI_e0 c1
    refine aj_run (C := True) (pc' := 23) (la' := [some (.inr (.inr (some (50, 0)))), some (.inl t), some (.inl v), none, none, none, none]) (st' := [.inr (.inl (-4611686018427387904))]) (M' := (P, g, r0, n)) ok_X11_byThen true 1 rfl trivial ?_
    refine aj_ret (r := some (.inr (.inl (-4611686018427387904)))) (ax_dec2 (i := .lreturn) (n := 1) ok_X11_byThen rfl) ⟨?_, ?_, by decide, by decide⟩ rfl
    · exact ⟨congrArg (fun (z9 : Int) => (some (.inr (.inl z9)) : Option ax_V)) (by unfold fBy; rw [if_neg (by omega)]), _, rfl, wKp.rf⟩
    · exact trivial
  · replace c1 := bI_n0 c1
    refine aj_run (C := True) (pc' := 14) (la' := [some (.inr (.inr (some (50, 0)))), some (.inl t), some (.inl v), none, none, none, none]) (st' := [.inl 1, .inl 0, .inl v]) (M' := (P, g, r0, n)) ok_X11_byThen true 3 rfl trivial ?_
    refine aj_callS (av := [.inl v, .inl 0, .inl 1]) (st := []) cal_X11_isIn lk_11_7 stc_X11_isIn (sp_isIn v 0 1 _ _ _ _) ⟨by decide, by decide, by decide, by decide⟩ (Nat.le_of_ble_eq_true rfl) (ax_dec2 (i := .invokestatic 7) (n := 3) ok_X11_byThen rfl) (fun r M' hq => ?_)
    obtain ⟨rfl, rfl⟩ := hq
    change ax_J _ _ _ _ _ _ _ _ _ 17 [some (.inr (.inr (some (50, 0)))), some (.inl t), some (.inl v), none, none, none, none] [.inl (bI (0 ≤ v ∧ v ≤ 1))] (P, g, r0, n)
    refine aj_if_ne (tgt := 24) (ax_dec2 (i := .ifCond .ne 7) (n := 3) ok_X11_byThen rfl) (by decide) (fun c2 => ?_) (fun c2 => ?_)
    · replace c2 := bI_n0 c2
      refine aj_run (C := True) (pc' := 29) (la' := [some (.inr (.inr (some (50, 0)))), some (.inl t), some (.inl v), some (.inl 0), some (.inl 0), none, none]) (st' := []) (M' := (P, g, r0, n)) ok_X11_byThen true 4 rfl trivial ?_
      refine aj_cast (congrArg (fun (z9 : Int) => ([some (.inr (.inr (some (50, 0)))), some (.inl t), some (.inl v), some (.inl z9), some (.inl 0), none, none] : List (Option ax_V))) (show 0 = (wCf (pBy g t) 0).1 from by rfl)) rfl rfl ?_
      refine aj_forget (la' := [some (.inr (.inr (some (50, 0)))), some (.inl t), some (.inl v), some (.inl ((wCf (pBy g t) 0).1)), some (.inl 0), none, none]) (by simp [ax_fg]) ?_
      refine aj_loop (σ := (Int) × (Nat → Int → Int → Int)) (fun xL => 0 ≤ xL.1 ∧ xL.1 ≤ wWy g ∧ wKp xL.2 g) (fun xL => (wWy g - xL.1).toNat) (fun xL => [some (.inr (.inr (some (50, 0)))), some (.inl t), some (.inl v), some (.inl ((wCf (pBy g t) xL.1).1)), some (.inl xL.1), none, none]) (fun xL => []) (fun xL => (P, xL.2, r0, n)) ?_ (0, g) ?_
      rotate_left
      · exact ⟨by omega, by omega, wKp.rf⟩
      rintro ⟨w, g1⟩ hI ih29
      try dsimp only at hI ih29
      obtain ⟨i1, i2, i3⟩ := hI
      change ax_J _ _ _ _ _ _ _ _ _ 29 [some (.inr (.inr (some (50, 0)))), some (.inl t), some (.inl v), some (.inl ((wCf (pBy g t) w).1)), some (.inl w), none, none] [] (P, g1, r0, n)
      have zs1 : g1 50 0 2 = g 50 0 2 := i3.2 0 2 (by omega)
      have hW := wWy_in hs
      have eW : ax_shl 1 (g1 50 0 2) = wWy g := by rw [zs1]; rfl
      have hc := wCf_in (p := pBy g t) i1
      refine aj_run (C := True) (pc' := 37) (la' := [some (.inr (.inr (some (50, 0)))), some (.inl t), some (.inl v), some (.inl ((wCf (pBy g t) w).1)), some (.inl w), none, none]) (st' := [.inl (ax_shl 1 (g1 50 0 2)), .inl w]) (M' := (P, g1, r0, n)) ok_X11_byThen true 5 rfl trivial ?_
      refine aj_icmp_ge (tgt := 119) (ax_dec2 (i := .if_icmp .ge 82) (n := 3) ok_X11_byThen rfl) (by decide) (fun c3 => ?_) (fun c3 => ?_)
      · refine aj_run (C := True) (pc' := 127) (la' := [some (.inr (.inr (some (50, 0)))), some (.inl t), some (.inl v), some (.inl ((wCf (pBy g t) w).1)), some (.inl (ax_shl 1 (g1 50 0 2))), none, none]) (st' := []) (M' := (P, g1, r0, n)) ok_X11_byThen true 5 rfl trivial ?_
        refine aj_forget (la' := [some (.inr (.inr (some (50, 0)))), some (.inl t), some (.inl v), some (.inl ((wCf (pBy g t) w).1)), some (.inl (ax_shl 1 (g1 50 0 2))), none, none]) (by simp [ax_fg]) ?_
        refine aj_loop (σ := (Int) × (Int)) (fun xL => (0 ≤ xL.1 ∧ xL.1 ≤ 200) ∧ (1 ≤ xL.2 ∧ xL.2 ≤ 128) ∧ ∃ j : Nat, xL.2.toNat < 2 ^ j ∧ wRed 8 (wCf (pBy g t) (wWy g)).1 (wWy g) = wRed j xL.1 xL.2) (fun xL => xL.2.toNat) (fun xL => [some (.inr (.inr (some (50, 0)))), some (.inl t), some (.inl v), some (.inl xL.1), some (.inl xL.2), none, none]) (fun xL => []) (fun xL => (P, g1, r0, n)) ?_ ((wCf (pBy g t) w).1, ax_shl 1 (g1 50 0 2)) ?_
        rotate_left
        · exact ⟨by omega, by omega, 8, by rw [eW]; have z7 : (wWy g).toNat < 256 := (by omega); exact z7, by rw [eW, show wWy g = w by omega]⟩
        rintro ⟨a, b⟩ hI ih127
        try dsimp only at hI ih127
        obtain ⟨r1, r2, r3⟩ := hI
        change ax_J _ _ _ _ _ _ _ _ _ 127 [some (.inr (.inr (some (50, 0)))), some (.inl t), some (.inl v), some (.inl a), some (.inl b), none, none] [] (P, g1, r0, n)
        have td1 : Int.tdiv a 2 = a / 2 := Int.tdiv_eq_ediv_of_nonneg r1.1
        have td3 : Int.tdiv b 2 = b / 2 := Int.tdiv_eq_ediv_of_nonneg (by omega)
        refine aj_run (C := (0 < 2) ∧ True) (pc' := 130) (la' := [some (.inr (.inr (some (50, 0)))), some (.inl t), some (.inl v), some (.inl a), some (.inl b), none, none]) (st' := [.inl (Int.tmod a 2)]) (M' := (P, g1, r0, n)) ok_X11_byThen true 3 rfl (by refine ⟨?_, trivial⟩ <;> (omega)) ?_
        refine aj_if_ne (tgt := 152) (ax_dec2 (i := .ifCond .ne 22) (n := 3) ok_X11_byThen rfl) (by decide) (fun c4 => ?_) (fun c4 => ?_)
        · refine aj_run (C := True) (pc' := 153) (la' := [some (.inr (.inr (some (50, 0)))), some (.inl t), some (.inl v), some (.inl a), some (.inl b), none, none]) (st' := [.inl v]) (M' := (P, g1, r0, n)) ok_X11_byThen true 1 rfl trivial ?_
          refine aj_if_ne (tgt := 161) (ax_dec2 (i := .ifCond .ne 8) (n := 3) ok_X11_byThen rfl) (by decide) (fun c5 => ?_) (fun c5 => ?_)
          · refine aj_run (C := True) (pc' := 164) (la' := [some (.inr (.inr (some (50, 0)))), some (.inl t), some (.inl v), some (.inl a), some (.inl b), none, none]) (st' := [.inr (.inl b)]) (M' := (P, g1, r0, n)) ok_X11_byThen true 2 rfl trivial ?_
            refine aj_ret (r := some (.inr (.inl b))) (ax_dec2 (i := .lreturn) (n := 1) ok_X11_byThen rfl) ⟨?_, ?_, by decide, by decide⟩ rfl
            · obtain ⟨j, r4, r5⟩ := r3; rw [wRed_n (a := a) (b := b) (by omega)] at r5; exact ⟨congrArg (fun (z9 : Int) => (some (.inr (.inl z9)) : Option ax_V)) (by unfold fBy; rw [if_pos (by omega), r5]; first | rw [if_pos (by omega)] | rw [if_neg (by omega)]), _, rfl, i3⟩
            · exact trivial
          · refine aj_run (C := True) (pc' := 164) (la' := [some (.inr (.inr (some (50, 0)))), some (.inl t), some (.inl v), some (.inl a), some (.inl b), none, none]) (st' := [.inr (.inl a)]) (M' := (P, g1, r0, n)) ok_X11_byThen true 3 rfl trivial ?_
            refine aj_ret (r := some (.inr (.inl a))) (ax_dec2 (i := .lreturn) (n := 1) ok_X11_byThen rfl) ⟨?_, ?_, by decide, by decide⟩ rfl
            · obtain ⟨j, r4, r5⟩ := r3; rw [wRed_n (a := a) (b := b) (by omega)] at r5; exact ⟨congrArg (fun (z9 : Int) => (some (.inr (.inl z9)) : Option ax_V)) (by unfold fBy; rw [if_pos (by omega), r5]; first | rw [if_pos (by omega)] | rw [if_neg (by omega)]), _, rfl, i3⟩
            · exact trivial
        · refine aj_run (C := True) (pc' := 136) (la' := [some (.inr (.inr (some (50, 0)))), some (.inl t), some (.inl v), some (.inl a), some (.inl b), none, none]) (st' := [.inl 1, .inl b]) (M' := (P, g1, r0, n)) ok_X11_byThen true 2 rfl trivial ?_
          refine aj_icmp_le (tgt := 152) (ax_dec2 (i := .if_icmp .le 16) (n := 3) ok_X11_byThen rfl) (by decide) (fun c6 => ?_) (fun c6 => ?_)
          · refine aj_run (C := True) (pc' := 153) (la' := [some (.inr (.inr (some (50, 0)))), some (.inl t), some (.inl v), some (.inl a), some (.inl b), none, none]) (st' := [.inl v]) (M' := (P, g1, r0, n)) ok_X11_byThen true 1 rfl trivial ?_
            refine aj_if_ne (tgt := 161) (ax_dec2 (i := .ifCond .ne 8) (n := 3) ok_X11_byThen rfl) (by decide) (fun c7 => ?_) (fun c7 => ?_)
            · refine aj_run (C := True) (pc' := 164) (la' := [some (.inr (.inr (some (50, 0)))), some (.inl t), some (.inl v), some (.inl a), some (.inl b), none, none]) (st' := [.inr (.inl b)]) (M' := (P, g1, r0, n)) ok_X11_byThen true 2 rfl trivial ?_
              refine aj_ret (r := some (.inr (.inl b))) (ax_dec2 (i := .lreturn) (n := 1) ok_X11_byThen rfl) ⟨?_, ?_, by decide, by decide⟩ rfl
              · obtain ⟨j, r4, r5⟩ := r3; rw [wRed_n (a := a) (b := b) (by omega)] at r5; exact ⟨congrArg (fun (z9 : Int) => (some (.inr (.inl z9)) : Option ax_V)) (by unfold fBy; rw [if_pos (by omega), r5]; first | rw [if_pos (by omega)] | rw [if_neg (by omega)]), _, rfl, i3⟩
              · exact trivial
            · refine aj_run (C := True) (pc' := 164) (la' := [some (.inr (.inr (some (50, 0)))), some (.inl t), some (.inl v), some (.inl a), some (.inl b), none, none]) (st' := [.inr (.inl a)]) (M' := (P, g1, r0, n)) ok_X11_byThen true 3 rfl trivial ?_
              refine aj_ret (r := some (.inr (.inl a))) (ax_dec2 (i := .lreturn) (n := 1) ok_X11_byThen rfl) ⟨?_, ?_, by decide, by decide⟩ rfl
              · obtain ⟨j, r4, r5⟩ := r3; rw [wRed_n (a := a) (b := b) (by omega)] at r5; exact ⟨congrArg (fun (z9 : Int) => (some (.inr (.inl z9)) : Option ax_V)) (by unfold fBy; rw [if_pos (by omega), r5]; first | rw [if_pos (by omega)] | rw [if_neg (by omega)]), _, rfl, i3⟩
              · exact trivial
          · refine aj_run (C := (0 < 2) ∧ (0 < 2) ∧ True) (pc' := 127) (la' := [some (.inr (.inr (some (50, 0)))), some (.inl t), some (.inl v), some (.inl (Int.tdiv a 2)), some (.inl (Int.tdiv b 2)), none, none]) (st' := []) (M' := (P, g1, r0, n)) ok_X11_byThen true 9 rfl (by refine ⟨?_, ?_, trivial⟩ <;> (omega)) ?_
            refine ih127 (Int.tdiv a 2, Int.tdiv b 2) ?_ ?_
            · exact ⟨by omega, by omega, wRed_y (by omega) (by omega) r3⟩
            · omega
      · refine aj_run (C := True) (pc' := 43) (la' := [some (.inr (.inr (some (50, 0)))), some (.inl t), some (.inl v), some (.inl ((wCf (pBy g t) w).1)), some (.inl w), none, none]) (st' := [.inl w, .inr (.inr (some (50, 0)))]) (M' := (P, g1, r0, n)) ok_X11_byThen true 2 rfl trivial ?_
        refine aj_callV (av := [.inl w]) (st := []) (f := 50) (o := 0) (ci := 11) cal_X11_goAll lk_11_282 ins_X11_goAll rfl sel_X11_goAll rfl (fun c9 h9 _ => by simpa [ax_ok] using h9) (sp_goAll w _ _ _ _ hn (wOs_k i3 hs)) ⟨by decide, by decide, by decide, by decide⟩ (Nat.le_of_ble_eq_true rfl) (ax_dec2 (i := .invokevirtual 282) (n := 3) ok_X11_byThen rfl) (fun r M' hq => ?_)
        obtain ⟨rfl, g2, rfl, hg2, kpg2⟩ := hq
        have kz2 : wKp g2 g := kpg2.tr i3
        have hz2 : wEd g2 (gA g w) := wEd.tr (wEd_e hg2) (gA_k (wKr_p i3))
        have zs2 : g2 50 0 2 = g 50 0 2 := kz2.2 0 2 (by omega)
        have z135 : ∀ q, 0 ≤ q → q < g 50 0 2 → g2 135 0 q = gA g w 135 0 q := fun q z1 z2 => hz2.2.2 135 q (by decide) (by decide) z1 (by rw [gA_sz]; exact z2)
        change ax_J _ _ _ _ _ _ _ _ _ 46 [some (.inr (.inr (some (50, 0)))), some (.inl t), some (.inl v), some (.inl ((wCf (pBy g t) w).1)), some (.inl w), none, none] [] (P, g2, r0, n)
        refine aj_run (C := True) (pc' := 52) (la' := [some (.inr (.inr (some (50, 0)))), some (.inl t), some (.inl v), some (.inl ((wCf (pBy g t) w).1)), some (.inl w), some (.inl 1), some (.inl 0)]) (st' := []) (M' := (P, g2, r0, n)) ok_X11_byThen true 4 rfl trivial ?_
        refine aj_cast (congrArg (fun (z9 : Int) => ([some (.inr (.inr (some (50, 0)))), some (.inl t), some (.inl v), some (.inl ((wCf (pBy g t) w).1)), some (.inl w), some (.inl z9), some (.inl 0)] : List (Option ax_V))) (show 1 = gBy g t w 0 from by rfl)) rfl rfl ?_
        refine aj_loop (σ := (Int)) (fun xL => 0 ≤ xL ∧ xL ≤ g2 50 0 2) (fun xL => (g2 50 0 2 - xL).toNat) (fun xL => [some (.inr (.inr (some (50, 0)))), some (.inl t), some (.inl v), some (.inl ((wCf (pBy g t) w).1)), some (.inl w), some (.inl (gBy g t w xL)), some (.inl xL)]) (fun xL => []) (fun xL => (P, g2, r0, n)) ?_ (0) ?_
        rotate_left
        · omega
        rintro a hI ih52
        try dsimp only at hI ih52
        obtain ⟨j1, j2⟩ := hI
        change ax_J _ _ _ _ _ _ _ _ _ 52 [some (.inr (.inr (some (50, 0)))), some (.inl t), some (.inl v), some (.inl ((wCf (pBy g t) w).1)), some (.inl w), some (.inl (gBy g t w a)), some (.inl a)] [] (P, g2, r0, n)
        refine aj_run (C := True) (pc' := 58) (la' := [some (.inr (.inr (some (50, 0)))), some (.inl t), some (.inl v), some (.inl ((wCf (pBy g t) w).1)), some (.inl w), some (.inl (gBy g t w a)), some (.inl a)]) (st' := [.inl (g2 50 0 2), .inl a]) (M' := (P, g2, r0, n)) ok_X11_byThen true 3 rfl trivial ?_
        refine aj_icmp_ge (tgt := 100) (ax_dec2 (i := .if_icmp .ge 42) (n := 3) ok_X11_byThen rfl) (by decide) (fun c8 => ?_) (fun c8 => ?_)
        · refine aj_run (C := True) (pc' := 103) (la' := [some (.inr (.inr (some (50, 0)))), some (.inl t), some (.inl v), some (.inl ((wCf (pBy g t) w).1)), some (.inl w), some (.inl (gBy g t w a)), some (.inl a)]) (st' := [.inl (gBy g t w a), .inl ((wCf (pBy g t) w).1)]) (M' := (P, g2, r0, n)) ok_X11_byThen true 2 rfl trivial ?_
          refine aj_if_eq (tgt := 110) (ax_dec2 (i := .ifCond .eq 7) (n := 3) ok_X11_byThen rfl) (by decide) (fun c9 => ?_) (fun c9 => ?_)
          · refine aj_run (C := (-2147483648 ≤ ((wCf (pBy g t) w).1) + 0 ∧ ((wCf (pBy g t) w).1) + 0 ≤ 2147483647) ∧ (-2147483648 ≤ w + 1 ∧ w + 1 ≤ 2147483647) ∧ True) (pc' := 29) (la' := [some (.inr (.inr (some (50, 0)))), some (.inl t), some (.inl v), some (.inl (((wCf (pBy g t) w).1) + 0)), some (.inl (w + 1)), some (.inl (gBy g t w a)), some (.inl a)]) (st' := []) (M' := (P, g2, r0, n)) ok_X11_byThen true 5 rfl (by refine ⟨?_, ?_, trivial⟩ <;> (omega)) ?_
            refine aj_cast (congrArg (fun (z9 : Int) => ([some (.inr (.inr (some (50, 0)))), some (.inl t), some (.inl v), some (.inl z9), some (.inl (w + 1)), some (.inl (gBy g t w a)), some (.inl a)] : List (Option ax_V))) (show ((wCf (pBy g t) w).1) + 0 = (wCf (pBy g t) (w + 1)).1 from by (rw [wCf_s i1, show pBy g t w = gBy g t w a by unfold pBy; rw [show g 50 0 2 = a by omega]]; (first | rw [if_pos (by omega)] | rw [if_neg (by omega)]); try exact Int.add_zero _))) rfl rfl ?_
            refine aj_forget (la' := [some (.inr (.inr (some (50, 0)))), some (.inl t), some (.inl v), some (.inl ((wCf (pBy g t) (w + 1)).1)), some (.inl (w + 1)), none, none]) (by simp [ax_fg]) ?_
            refine ih29 (w + 1, g2) ?_ ?_
            · exact ⟨by omega, by omega, kz2⟩
            · omega
          · refine aj_run (C := (-2147483648 ≤ ((wCf (pBy g t) w).1) + 1 ∧ ((wCf (pBy g t) w).1) + 1 ≤ 2147483647) ∧ (-2147483648 ≤ w + 1 ∧ w + 1 ≤ 2147483647) ∧ True) (pc' := 29) (la' := [some (.inr (.inr (some (50, 0)))), some (.inl t), some (.inl v), some (.inl (((wCf (pBy g t) w).1) + 1)), some (.inl (w + 1)), some (.inl (gBy g t w a)), some (.inl a)]) (st' := []) (M' := (P, g2, r0, n)) ok_X11_byThen true 6 rfl (by refine ⟨?_, ?_, trivial⟩ <;> (omega)) ?_
            refine aj_cast (congrArg (fun (z9 : Int) => ([some (.inr (.inr (some (50, 0)))), some (.inl t), some (.inl v), some (.inl z9), some (.inl (w + 1)), some (.inl (gBy g t w a)), some (.inl a)] : List (Option ax_V))) (show ((wCf (pBy g t) w).1) + 1 = (wCf (pBy g t) (w + 1)).1 from by (rw [wCf_s i1, show pBy g t w = gBy g t w a by unfold pBy; rw [show g 50 0 2 = a by omega]]; (first | rw [if_pos (by omega)] | rw [if_neg (by omega)]); try exact Int.add_zero _))) rfl rfl ?_
            refine aj_forget (la' := [some (.inr (.inr (some (50, 0)))), some (.inl t), some (.inl v), some (.inl ((wCf (pBy g t) (w + 1)).1)), some (.inl (w + 1)), none, none]) (by simp [ax_fg]) ?_
            refine ih29 (w + 1, g2) ?_ ?_
            · exact ⟨by omega, by omega, kz2⟩
            · omega
        · refine aj_run (C := True) (pc' := 63) (la' := [some (.inr (.inr (some (50, 0)))), some (.inl t), some (.inl v), some (.inl ((wCf (pBy g t) w).1)), some (.inl w), some (.inl (gBy g t w a)), some (.inl a)]) (st' := [.inl (gBy g t w a)]) (M' := (P, g2, r0, n)) ok_X11_byThen true 1 rfl trivial ?_
          refine aj_if_eq (tgt := 91) (ax_dec2 (i := .ifCond .eq 28) (n := 3) ok_X11_byThen rfl) (by decide) (fun c10 => ?_) (fun c10 => ?_)
          · refine aj_run (C := (-2147483648 ≤ a + 1 ∧ a + 1 ≤ 2147483647) ∧ True) (pc' := 52) (la' := [some (.inr (.inr (some (50, 0)))), some (.inl t), some (.inl v), some (.inl ((wCf (pBy g t) w).1)), some (.inl w), some (.inl 0), some (.inl (a + 1))]) (st' := []) (M' := (P, g2, r0, n)) ok_X11_byThen true 4 rfl (by refine ⟨?_, trivial⟩ <;> (omega)) ?_
            refine aj_cast (congrArg (fun (z9 : Int) => ([some (.inr (.inr (some (50, 0)))), some (.inl t), some (.inl v), some (.inl ((wCf (pBy g t) w).1)), some (.inl w), some (.inl z9), some (.inl (a + 1))] : List (Option ax_V))) (show 0 = gBy g t w (a + 1) from by (rw [gBy_s j1]; have zq2 := z135 a; first | rw [if_pos (by omega)] | rw [if_neg (by omega)]))) rfl rfl ?_
            refine ih52 (a + 1) ?_ ?_
            · omega
            · omega
          · refine aj_run (C := (0 ≤ a ∧ a < n 135 0) ∧ True) (pc' := 73) (la' := [some (.inr (.inr (some (50, 0)))), some (.inl t), some (.inl v), some (.inl ((wCf (pBy g t) w).1)), some (.inl w), some (.inl (gBy g t w a)), some (.inl a)]) (st' := [.inl (g2 135 0 a)]) (M' := (P, g2, r0, n)) ok_X11_byThen true 4 rfl (by refine ⟨?_, trivial⟩ <;> (omega)) ?_
            refine aj_if_lt (tgt := 91) (ax_dec2 (i := .ifCond .lt 18) (n := 3) ok_X11_byThen rfl) (by decide) (fun c11 => ?_) (fun c11 => ?_)
            · refine aj_run (C := (-2147483648 ≤ a + 1 ∧ a + 1 ≤ 2147483647) ∧ True) (pc' := 52) (la' := [some (.inr (.inr (some (50, 0)))), some (.inl t), some (.inl v), some (.inl ((wCf (pBy g t) w).1)), some (.inl w), some (.inl 0), some (.inl (a + 1))]) (st' := []) (M' := (P, g2, r0, n)) ok_X11_byThen true 4 rfl (by refine ⟨?_, trivial⟩ <;> (omega)) ?_
              refine aj_cast (congrArg (fun (z9 : Int) => ([some (.inr (.inr (some (50, 0)))), some (.inl t), some (.inl v), some (.inl ((wCf (pBy g t) w).1)), some (.inl w), some (.inl z9), some (.inl (a + 1))] : List (Option ax_V))) (show 0 = gBy g t w (a + 1) from by (rw [gBy_s j1]; have zq2 := z135 a; first | rw [if_pos (by omega)] | rw [if_neg (by omega)]))) rfl rfl ?_
              refine ih52 (a + 1) ?_ ?_
              · omega
              · omega
            · refine aj_run (C := (0 ≤ a ∧ a < n 135 0) ∧ True) (pc' := 84) (la' := [some (.inr (.inr (some (50, 0)))), some (.inl t), some (.inl v), some (.inl ((wCf (pBy g t) w).1)), some (.inl w), some (.inl (gBy g t w a)), some (.inl a)]) (st' := [.inl t, .inl (g2 135 0 a)]) (M' := (P, g2, r0, n)) ok_X11_byThen true 5 rfl (by refine ⟨?_, trivial⟩ <;> (omega)) ?_
              refine aj_icmp_gt (tgt := 91) (ax_dec2 (i := .if_icmp .gt 7) (n := 3) ok_X11_byThen rfl) (by decide) (fun c12 => ?_) (fun c12 => ?_)
              · refine aj_run (C := (-2147483648 ≤ a + 1 ∧ a + 1 ≤ 2147483647) ∧ True) (pc' := 52) (la' := [some (.inr (.inr (some (50, 0)))), some (.inl t), some (.inl v), some (.inl ((wCf (pBy g t) w).1)), some (.inl w), some (.inl 0), some (.inl (a + 1))]) (st' := []) (M' := (P, g2, r0, n)) ok_X11_byThen true 4 rfl (by refine ⟨?_, trivial⟩ <;> (omega)) ?_
                refine aj_cast (congrArg (fun (z9 : Int) => ([some (.inr (.inr (some (50, 0)))), some (.inl t), some (.inl v), some (.inl ((wCf (pBy g t) w).1)), some (.inl w), some (.inl z9), some (.inl (a + 1))] : List (Option ax_V))) (show 0 = gBy g t w (a + 1) from by (rw [gBy_s j1]; have zq2 := z135 a; first | rw [if_pos (by omega)] | rw [if_neg (by omega)]))) rfl rfl ?_
                refine ih52 (a + 1) ?_ ?_
                · omega
                · omega
              · refine aj_run (C := (-2147483648 ≤ a + 1 ∧ a + 1 ≤ 2147483647) ∧ True) (pc' := 52) (la' := [some (.inr (.inr (some (50, 0)))), some (.inl t), some (.inl v), some (.inl ((wCf (pBy g t) w).1)), some (.inl w), some (.inl 1), some (.inl (a + 1))]) (st' := []) (M' := (P, g2, r0, n)) ok_X11_byThen true 5 rfl (by refine ⟨?_, trivial⟩ <;> (omega)) ?_
                refine aj_cast (congrArg (fun (z9 : Int) => ([some (.inr (.inr (some (50, 0)))), some (.inl t), some (.inl v), some (.inl ((wCf (pBy g t) w).1)), some (.inl w), some (.inl z9), some (.inl (a + 1))] : List (Option ax_V))) (show 1 = gBy g t w (a + 1) from by (rw [gBy_s j1]; have zq2 := z135 a; first | rw [if_pos (by omega)] | rw [if_neg (by omega)]))) rfl rfl ?_
                refine ih52 (a + 1) ?_ ?_
                · omega
                · omega
    · replace c2 := bI_e0 c2
      refine aj_run (C := True) (pc' := 23) (la' := [some (.inr (.inr (some (50, 0)))), some (.inl t), some (.inl v), none, none, none, none]) (st' := [.inr (.inl (-4611686018427387904))]) (M' := (P, g, r0, n)) ok_X11_byThen true 1 rfl trivial ?_
      refine aj_ret (r := some (.inr (.inl (-4611686018427387904)))) (ax_dec2 (i := .lreturn) (n := 1) ok_X11_byThen rfl) ⟨?_, ?_, by decide, by decide⟩ rfl
      · exact ⟨congrArg (fun (z9 : Int) => (some (.inr (.inl z9)) : Option ax_V)) (by unfold fBy; rw [if_neg (by omega)]), _, rfl, wKp.rf⟩
      · exact trivial

set_option maxRecDepth 100000 in
set_option maxHeartbeats 4000000 in
theorem sp_carried (v w : Int) (P : Nat → Int → Prop) (g : Nat → Int → Int → Int) (r0 : Nat → Int → Int → Option (Nat × Int)) (n : Nat → Int → Int) (hn : mLen n) (hs : wOs g) : ax_S yX11_carried cX11_carried 4 (some FieldType.int) 6 0 0 [.inr (.inr (some (50, 0))), .inl v, .inl w] (P, g, r0, n) (fun r M' => r = some (.inl (fCar g v w)) ∧ ∃ g', M' = (P, g', r0, n) ∧ wKp g' g) := by
  have n135 : n 135 0 = 7 := hn (135, 7) (by decide)
  have hsB : wOs (ax_u3 (wBegin g (wSet (g 105 0) (g 50 0 2))) 50 0 41 v) := wOs_u (by decide) (wOs_s beg_ss hs)
  have hdB : wOd (ax_u3 (wBegin g (wSet (g 105 0) (g 50 0 2))) 50 0 41 v) := beg_od hs
  have h2 := hs.2.2.1
  refine ax_S_of (own := 11) (by decide) rfl (fun h => absurd h (by decide)) rfl (Nat.le_of_ble_eq_true rfl) ?_
  change ax_J _ _ _ _ _ _ _ _ _ _ [some (.inr (.inr (some (50, 0)))), some (.inl v), some (.inl w), none] _ _
  refine aj_run (C := True) (pc' := 2) (la' := [some (.inr (.inr (some (50, 0)))), some (.inl v), some (.inl w), none]) (st' := [.inl v, .inr (.inr (some (50, 0)))]) (M' := (P, g, r0, n)) ok_X11_carried true 2 rfl trivial ?_
  refine aj_callV (av := [.inl v]) (st := []) (f := 50) (o := 0) (ci := 11) cal_X11_isAnt lk_11_33 ins_X11_isAnt rfl sel_X11_isAnt rfl (fun c9 h9 _ => by simpa [ax_ok] using h9) (sp_isAnt v _ _ _ _ hs.2.2.1) ⟨by decide, by decide, by decide, by decide⟩ (Nat.le_of_ble_eq_true rfl) (ax_dec2 (i := .invokevirtual 33) (n := 3) ok_X11_carried rfl) (fun r M' hq => ?_)
  obtain ⟨rfl, rfl⟩ := hq
  change ax_J _ _ _ _ _ _ _ _ _ 5 [some (.inr (.inr (some (50, 0)))), some (.inl v), some (.inl w), none] [.inl (bI (0 ≤ v ∧ v < g 50 0 2))] (P, g, r0, n)
  refine aj_if_eq (tgt := 17) (ax_dec2 (i := .ifCond .eq 12) (n := 3) ok_X11_carried rfl) (by decide) (fun c1 => ?_) (fun c1 => ?_)
  · replace c1 := bI_e0 c1
    refine aj_run (C := True) (pc' := 19) (la' := [some (.inr (.inr (some (50, 0)))), some (.inl v), some (.inl w), none]) (st' := [.inl (-2)]) (M' := (P, g, r0, n)) ok_X11_carried true 1 rfl trivial ?_
    refine aj_ret (r := some (.inl (-2))) (ax_dec2 (i := .ireturn) (n := 1) ok_X11_carried rfl) ⟨?_, ?_, by decide, by decide⟩ rfl
    · first | (exfalso; omega) | exact ⟨ax_si (by unfold fCar; (repeat first | rw [if_pos (by omega)] | rw [if_neg (by omega)] | rw [bI_t (by omega)] | rw [bI_f (by omega)])), _, rfl, wKp.rf⟩
    · exact ax_ro_i
  · replace c1 := bI_n0 c1
    refine aj_run (C := True) (pc' := 11) (la' := [some (.inr (.inr (some (50, 0)))), some (.inl v), some (.inl w), none]) (st' := [.inl 1, .inl 0, .inl w]) (M' := (P, g, r0, n)) ok_X11_carried true 3 rfl trivial ?_
    refine aj_callS (av := [.inl w, .inl 0, .inl 1]) (st := []) cal_X11_isIn lk_11_7 stc_X11_isIn (sp_isIn w 0 1 _ _ _ _) ⟨by decide, by decide, by decide, by decide⟩ (Nat.le_of_ble_eq_true rfl) (ax_dec2 (i := .invokestatic 7) (n := 3) ok_X11_carried rfl) (fun r M' hq => ?_)
    obtain ⟨rfl, rfl⟩ := hq
    change ax_J _ _ _ _ _ _ _ _ _ 14 [some (.inr (.inr (some (50, 0)))), some (.inl v), some (.inl w), none] [.inl (bI (0 ≤ w ∧ w ≤ 1))] (P, g, r0, n)
    refine aj_if_ne (tgt := 20) (ax_dec2 (i := .ifCond .ne 6) (n := 3) ok_X11_carried rfl) (by decide) (fun c2 => ?_) (fun c2 => ?_)
    · replace c2 := bI_n0 c2
      refine aj_run (C := True) (pc' := 22) (la' := [some (.inr (.inr (some (50, 0)))), some (.inl v), some (.inl w), none]) (st' := [.inr (.inr (some (50, 0))), .inr (.inr (some (50, 0)))]) (M' := (P, g, r0, n)) ok_X11_carried true 2 rfl trivial ?_
      refine aj_callV (av := []) (st := [.inr (.inr (some (50, 0)))]) (f := 50) (o := 0) (ci := 11) cal_X11_asSet lk_11_277 ins_X11_asSet rfl sel_X11_asSet rfl (fun c9 h9 _ => by simpa [ax_ok] using h9) (sp_asSet _ _ _ _ hn hs.2.2.1) ⟨by decide, by decide, by decide, by decide⟩ (Nat.le_of_ble_eq_true rfl) (ax_dec2 (i := .invokevirtual 277) (n := 3) ok_X11_carried rfl) (fun r M' hq => ?_)
      obtain ⟨rfl, rfl⟩ := hq
      change ax_J _ _ _ _ _ _ _ _ _ 25 [some (.inr (.inr (some (50, 0)))), some (.inl v), some (.inl w), none] [.inl (wSet (g 105 0) (g 50 0 2)), .inr (.inr (some (50, 0)))] (P, g, r0, n)
      refine aj_callV (av := [.inl (wSet (g 105 0) (g 50 0 2))]) (st := []) (f := 50) (o := 0) (ci := 11) cal_X11_begin lk_11_271 ins_X11_begin rfl sel_X11_begin rfl (fun c9 h9 _ => by simpa [ax_ok] using h9) (sp_begin (wSet (g 105 0) (g 50 0 2)) _ _ _ _ hn hs.2.2.1) ⟨by decide, by decide, by decide, by decide⟩ (Nat.le_of_ble_eq_true rfl) (ax_dec2 (i := .invokevirtual 271) (n := 3) ok_X11_carried rfl) (fun r M' hq => ?_)
      obtain ⟨rfl, rfl⟩ := hq
      change ax_J _ _ _ _ _ _ _ _ _ 28 [some (.inr (.inr (some (50, 0)))), some (.inl v), some (.inl w), none] [] (P, wBegin g (wSet (g 105 0) (g 50 0 2)), r0, n)
      refine aj_run (C := True) (pc' := 35) (la' := [some (.inr (.inr (some (50, 0)))), some (.inl v), some (.inl w), some (.inl 0)]) (st' := []) (M' := (P, ax_u3 (wBegin g (wSet (g 105 0) (g 50 0 2))) 50 0 41 v, r0, n)) ok_X11_carried true 5 rfl trivial ?_
      refine aj_loop (σ := (Int) × (Nat → Int → Int → Int)) (fun xL => 0 ≤ xL.1 ∧ xL.1 ≤ 201 ∧ wEq xL.2 (wIt (ax_u3 (wBegin g (wSet (g 105 0) (g 50 0 2))) 50 0 41 v) xL.1.toNat) ∧ wKp xL.2 g) (fun xL => (201 - xL.1).toNat) (fun xL => [some (.inr (.inr (some (50, 0)))), some (.inl v), some (.inl w), some (.inl xL.1)]) (fun xL => []) (fun xL => (P, xL.2, r0, n)) ?_ (0, ax_u3 (wBegin g (wSet (g 105 0) (g 50 0 2))) 50 0 41 v) ?_
      rotate_left
      · exact ⟨by omega, by omega, wEq.rf, (wKp_u (by decide)).tr (wKp_s beg_ss)⟩
      rintro ⟨k, g1⟩ hI ih35
      try dsimp only at hI ih35
      obtain ⟨i1, i2, i3, i4⟩ := hI
      change ax_J _ _ _ _ _ _ _ _ _ 35 [some (.inr (.inr (some (50, 0)))), some (.inl v), some (.inl w), some (.inl k)] [] (P, g1, r0, n)
      obtain ⟨hs1, hd1, hb1⟩ := it_ok (g := ax_u3 (wBegin g (wSet (g 105 0) (g 50 0 2))) 50 0 41 v) hsB hdB k.toNat
      replace hs1 := wOs_e i3 hs1
      replace hd1 := wOd_e i3 hd1
      rw [show wIt (ax_u3 (wBegin g (wSet (g 105 0) (g 50 0 2))) 50 0 41 v) k.toNat = wIt (ax_u3 (wBegin g (wSet (g 105 0) (g 50 0 2))) 50 0 41 v) k.toNat from rfl, ← i3 50 rfl] at hb1
      have hb0 : (ax_u3 (wBegin g (wSet (g 105 0) (g 50 0 2))) 50 0 41 v) 50 0 39 = -1 := (by rw [ax_u3_n (by omega)]; exact beg_b)
      have hcar := it_car (g := ax_u3 (wBegin g (wSet (g 105 0) (g 50 0 2))) 50 0 41 v) (m := g 50 0 2) (by rw [ax_u3_n (by omega), beg_ss.2 _ _ (by omega)]; exact Int.le_refl _) (by rw [ax_u3_s]; omega) k.toNat
      rw [← i3 50 rfl] at hcar
      refine aj_run (C := True) (pc' := 39) (la' := [some (.inr (.inr (some (50, 0)))), some (.inl v), some (.inl w), some (.inl k)]) (st' := [.inl 200, .inl k]) (M' := (P, g1, r0, n)) ok_X11_carried true 2 rfl trivial ?_
      refine aj_icmp_gt (tgt := 53) (ax_dec2 (i := .if_icmp .gt 14) (n := 3) ok_X11_carried rfl) (by decide) (fun c3 => ?_) (fun c3 => ?_)
      · refine aj_run (C := True) (pc' := 54) (la' := [some (.inr (.inr (some (50, 0)))), some (.inl v), some (.inl w), some (.inl k)]) (st' := [.inl w]) (M' := (P, g1, r0, n)) ok_X11_carried true 1 rfl trivial ?_
        refine aj_if_ne (tgt := 64) (ax_dec2 (i := .ifCond .ne 10) (n := 3) ok_X11_carried rfl) (by decide) (fun c4 => ?_) (fun c4 => ?_)
        · refine aj_run (C := (0 ≤ g1 50 0 41 ∧ g1 50 0 41 < n 135 0) ∧ True) (pc' := 73) (la' := [some (.inr (.inr (some (50, 0)))), some (.inl v), some (.inl w), some (.inl k)]) (st' := [.inl (g1 135 0 (g1 50 0 41))]) (M' := (P, g1, r0, n)) ok_X11_carried true 5 rfl (by refine ⟨?_, trivial⟩ <;> (omega)) ?_
          refine aj_ret (r := some (.inl (g1 135 0 (g1 50 0 41)))) (ax_dec2 (i := .ireturn) (n := 1) ok_X11_carried rfl) ⟨?_, ?_, by decide, by decide⟩ rfl
          · exact ⟨ax_si (by unfold fCar gCa gAs; rw [show (201 : Nat) = k.toNat by omega, ← i3 50 rfl, ← i3 135 rfl]; (repeat first | rw [if_pos (by omega)] | rw [if_neg (by omega)] | rw [bI_t (by omega)] | rw [bI_f (by omega)])), _, rfl, i4⟩
          · exact ax_ro_i
        · refine aj_run (C := True) (pc' := 73) (la' := [some (.inr (.inr (some (50, 0)))), some (.inl v), some (.inl w), some (.inl k)]) (st' := [.inl (g1 50 0 41)]) (M' := (P, g1, r0, n)) ok_X11_carried true 3 rfl trivial ?_
          refine aj_ret (r := some (.inl (g1 50 0 41))) (ax_dec2 (i := .ireturn) (n := 1) ok_X11_carried rfl) ⟨?_, ?_, by decide, by decide⟩ rfl
          · exact ⟨ax_si (by unfold fCar gCa gAs; rw [show (201 : Nat) = k.toNat by omega, ← i3 50 rfl, ← i3 135 rfl]; (repeat first | rw [if_pos (by omega)] | rw [if_neg (by omega)] | rw [bI_t (by omega)] | rw [bI_f (by omega)])), _, rfl, i4⟩
          · exact ax_ro_i
      · refine aj_run (C := True) (pc' := 43) (la' := [some (.inr (.inr (some (50, 0)))), some (.inl v), some (.inl w), some (.inl k)]) (st' := [.inr (.inr (some (50, 0)))]) (M' := (P, g1, r0, n)) ok_X11_carried true 1 rfl trivial ?_
        refine aj_callV (av := []) (st := []) (f := 50) (o := 0) (ci := 11) cal_X11_step lk_11_274 ins_X11_step rfl sel_X11_step rfl (fun c9 h9 _ => by simpa [ax_ok] using h9) (sp_step _ _ _ _ hn hs1 hd1 (by omega)) ⟨by decide, by decide, by decide, by decide⟩ (Nat.le_of_ble_eq_true rfl) (ax_dec2 (i := .invokevirtual 274) (n := 3) ok_X11_carried rfl) (fun r M' hq => ?_)
        obtain ⟨rfl, g2, rfl, hg2, kpg2⟩ := hq
        have e2 : wEq g2 (wIt (ax_u3 (wBegin g (wSet (g 105 0) (g 50 0 2))) 50 0 41 v) (k.toNat + 1)) := wEq.tr hg2 (wEq_step i3)
        rw [show k.toNat + 1 = (k + 1).toNat by omega] at e2
        have kpz2 := kpg2.tr i4
        change ax_J _ _ _ _ _ _ _ _ _ 46 [some (.inr (.inr (some (50, 0)))), some (.inl v), some (.inl w), some (.inl k)] [.inl (wAny (wSt1 g1) (g1 50 0 2))] (P, g2, r0, n)
        refine aj_run (C := (-2147483648 ≤ k + 1 ∧ k + 1 ≤ 2147483647) ∧ True) (pc' := 35) (la' := [some (.inr (.inr (some (50, 0)))), some (.inl v), some (.inl w), some (.inl (k + 1))]) (st' := []) (M' := (P, g2, r0, n)) ok_X11_carried true 3 rfl (by refine ⟨?_, trivial⟩ <;> (omega)) ?_
        refine ih35 (k + 1, g2) ?_ ?_
        · exact ⟨by omega, by omega, e2, kpz2⟩
        · omega
    · replace c2 := bI_e0 c2
      refine aj_run (C := True) (pc' := 19) (la' := [some (.inr (.inr (some (50, 0)))), some (.inl v), some (.inl w), none]) (st' := [.inl (-2)]) (M' := (P, g, r0, n)) ok_X11_carried true 1 rfl trivial ?_
      refine aj_ret (r := some (.inl (-2))) (ax_dec2 (i := .ireturn) (n := 1) ok_X11_carried rfl) ⟨?_, ?_, by decide, by decide⟩ rfl
      · first | (exfalso; omega) | exact ⟨ax_si (by unfold fCar; (repeat first | rw [if_pos (by omega)] | rw [if_neg (by omega)] | rw [bI_t (by omega)] | rw [bI_f (by omega)])), _, rfl, wKp.rf⟩
      · exact ax_ro_i

set_option maxRecDepth 100000 in
set_option maxHeartbeats 4000000 in
theorem sp_drawn (v : Int) (P : Nat → Int → Prop) (g : Nat → Int → Int → Int) (r0 : Nat → Int → Int → Option (Nat × Int)) (n : Nat → Int → Int) (hn : mLen n) (hs : wOs g) : ax_S yX11_drawn cX11_drawn 5 (some FieldType.int) 7 0 0 [.inr (.inr (some (50, 0))), .inl v] (P, g, r0, n) (fun r M' => r = some (.inl (fDrw g v)) ∧ ∃ g', M' = (P, g', r0, n) ∧ wKp g' g) := by
  have n135 : n 135 0 = 7 := hn (135, 7) (by decide)
  have h2 := hs.2.2.1
  refine ax_S_of (own := 11) (by decide) rfl (fun h => absurd h (by decide)) rfl (Nat.le_of_ble_eq_true rfl) ?_
  change ax_J _ _ _ _ _ _ _ _ _ _ [some (.inr (.inr (some (50, 0)))), some (.inl v), none, none, none] _ _
  refine aj_run (C := True) (pc' := 7) (la' := [some (.inr (.inr (some (50, 0)))), some (.inl v), some (.inl v), some (.inl 0), some (.inl 0)]) (st' := []) (M' := (P, g, r0, n)) ok_X11_drawn true 6 rfl trivial ?_
  refine aj_cast (congrArg (fun (z9 : Int) => ([some (.inr (.inr (some (50, 0)))), some (.inl v), some (.inl z9), some (.inl 0), some (.inl 0)] : List (Option ax_V))) (show v = (wDr v 0).1 from by rfl)) rfl rfl ?_
  refine aj_cast (congrArg (fun (z9 : Int) => ([some (.inr (.inr (some (50, 0)))), some (.inl v), some (.inl ((wDr v 0).1)), some (.inl z9), some (.inl 0)] : List (Option ax_V))) (show 0 = (wDr v 0).2 from by rfl)) rfl rfl ?_
  refine aj_loop (σ := (Int)) (fun xL => 0 ≤ xL ∧ xL ≤ g 50 0 2) (fun xL => (g 50 0 2 - xL).toNat) (fun xL => [some (.inr (.inr (some (50, 0)))), some (.inl v), some (.inl ((wDr v xL).1)), some (.inl ((wDr v xL).2)), some (.inl xL)]) (fun xL => []) (fun xL => (P, g, r0, n)) ?_ (0) ?_
  rotate_left
  · omega
  rintro a hI ih7
  try dsimp only at hI ih7
  obtain ⟨i1, i2⟩ := hI
  change ax_J _ _ _ _ _ _ _ _ _ 7 [some (.inr (.inr (some (50, 0)))), some (.inl v), some (.inl ((wDr v a).1)), some (.inl ((wDr v a).2)), some (.inl a)] [] (P, g, r0, n)
  refine aj_run (C := True) (pc' := 13) (la' := [some (.inr (.inr (some (50, 0)))), some (.inl v), some (.inl ((wDr v a).1)), some (.inl ((wDr v a).2)), some (.inl a)]) (st' := [.inl (g 50 0 2), .inl a]) (M' := (P, g, r0, n)) ok_X11_drawn true 3 rfl trivial ?_
  refine aj_icmp_ge (tgt := 44) (ax_dec2 (i := .if_icmp .ge 31) (n := 3) ok_X11_drawn rfl) (by decide) (fun c1 => ?_) (fun c1 => ?_)
  · refine aj_run (C := True) (pc' := 46) (la' := [some (.inr (.inr (some (50, 0)))), some (.inl v), some (.inl ((wDr v a).1)), some (.inl ((wDr v a).2)), some (.inl a)]) (st' := [.inl ((wDr v a).2), .inr (.inr (some (50, 0)))]) (M' := (P, g, r0, n)) ok_X11_drawn true 2 rfl trivial ?_
    refine aj_callV (av := [.inl ((wDr v a).2)]) (st := []) (f := 50) (o := 0) (ci := 11) cal_X11_goAll lk_11_282 ins_X11_goAll rfl sel_X11_goAll rfl (fun c9 h9 _ => by simpa [ax_ok] using h9) (sp_goAll ((wDr v a).2) _ _ _ _ hn hs) ⟨by decide, by decide, by decide, by decide⟩ (Nat.le_of_ble_eq_true rfl) (ax_dec2 (i := .invokevirtual 282) (n := 3) ok_X11_drawn rfl) (fun r M' hq => ?_)
    obtain ⟨rfl, g2, rfl, hg2, kpg2⟩ := hq
    have zs2 : g2 50 0 2 = g 50 0 2 := kpg2.2 0 2 (by omega)
    have za : a = g 50 0 2 := by omega
    have z135 : g2 135 = gA g (wDr v (g 50 0 2)).2 135 := by rw [← za]; exact hg2 135 rfl
    change ax_J _ _ _ _ _ _ _ _ _ 49 [some (.inr (.inr (some (50, 0)))), some (.inl v), some (.inl ((wDr v a).1)), some (.inl ((wDr v a).2)), some (.inl a)] [] (P, g2, r0, n)
    refine aj_run (C := True) (pc' := 50) (la' := [some (.inr (.inr (some (50, 0)))), some (.inl v), some (.inl ((wDr v a).1)), some (.inl ((wDr v a).2)), some (.inl a)]) (st' := [.inr (.inr (some (50, 0)))]) (M' := (P, g2, r0, n)) ok_X11_drawn true 1 rfl trivial ?_
    refine aj_callV (av := []) (st := []) (f := 50) (o := 0) (ci := 11) cal_X11_lastOff lk_11_288 ins_X11_lastOff rfl sel_X11_lastOff rfl (fun c9 h9 _ => by simpa [ax_ok] using h9) (sp_lastOff _ _ _ _ hn (by rw [zs2]; exact h2)) ⟨by decide, by decide, by decide, by decide⟩ (Nat.le_of_ble_eq_true rfl) (ax_dec2 (i := .invokevirtual 288) (n := 3) ok_X11_drawn rfl) (fun r M' hq => ?_)
    obtain ⟨rfl, rfl⟩ := hq
    change ax_J _ _ _ _ _ _ _ _ _ 53 [some (.inr (.inr (some (50, 0)))), some (.inl v), some (.inl ((wDr v a).1)), some (.inl ((wDr v a).2)), some (.inl a)] [.inl (wLast (g2 135 0) (g2 50 0 2))] (P, g2, r0, n)
    have hl2 : wLast (g2 135 0) (g2 50 0 2) = gLa g (wDr v (g 50 0 2)).2 := by unfold gLa; rw [zs2, z135]
    have hl3 := wLast_in (off := gA g (wDr v (g 50 0 2)).2 135 0) (n := g 50 0 2) (by omega)
    change gLa g (wDr v (g 50 0 2)).2 = -1 ∨ (0 ≤ gLa g (wDr v (g 50 0 2)).2 ∧ gLa g (wDr v (g 50 0 2)).2 < g 50 0 2) at hl3
    rw [hl2]
    refine aj_run (C := True) (pc' := 58) (la' := [some (.inr (.inr (some (50, 0)))), some (.inl v), some (.inl ((wDr v a).1)), some (.inl ((wDr v a).2)), some (.inl (gLa g (wDr v (g 50 0 2)).2))]) (st' := [.inl (-1), .inl (gLa g (wDr v (g 50 0 2)).2)]) (M' := (P, g2, r0, n)) ok_X11_drawn true 3 rfl trivial ?_
    refine aj_icmp_ne (tgt := 65) (ax_dec2 (i := .if_icmp .ne 7) (n := 3) ok_X11_drawn rfl) (by decide) (fun c2 => ?_) (fun c2 => ?_)
    · refine aj_run (C := (0 ≤ gLa g (wDr v (g 50 0 2)).2 ∧ gLa g (wDr v (g 50 0 2)).2 < n 135 0) ∧ True) (pc' := 72) (la' := [some (.inr (.inr (some (50, 0)))), some (.inl v), some (.inl ((wDr v a).1)), some (.inl ((wDr v a).2)), some (.inl (gLa g (wDr v (g 50 0 2)).2))]) (st' := [.inl (g2 135 0 (gLa g (wDr v (g 50 0 2)).2))]) (M' := (P, g2, r0, n)) ok_X11_drawn true 4 rfl (by refine ⟨?_, trivial⟩ <;> (omega)) ?_
      refine aj_ret (r := some (.inl (g2 135 0 (gLa g (wDr v (g 50 0 2)).2)))) (ax_dec2 (i := .ireturn) (n := 1) ok_X11_drawn rfl) ⟨?_, ?_, by decide, by decide⟩ rfl
      · exact ⟨ax_si (by unfold fDrw; first | (rw [if_pos (by omega)]; done) | (rw [if_neg (by omega)]; exact congrFun (congrFun z135 _) _)), _, rfl, kpg2⟩
      · exact ax_ro_i
    · refine aj_run (C := True) (pc' := 72) (la' := [some (.inr (.inr (some (50, 0)))), some (.inl v), some (.inl ((wDr v a).1)), some (.inl ((wDr v a).2)), some (.inl (gLa g (wDr v (g 50 0 2)).2))]) (st' := [.inl (-1)]) (M' := (P, g2, r0, n)) ok_X11_drawn true 2 rfl trivial ?_
      refine aj_ret (r := some (.inl (-1))) (ax_dec2 (i := .ireturn) (n := 1) ok_X11_drawn rfl) ⟨?_, ?_, by decide, by decide⟩ rfl
      · exact ⟨ax_si (by unfold fDrw; first | (rw [if_pos (by omega)]; done) | (rw [if_neg (by omega)]; exact congrFun (congrFun z135 _) _)), _, rfl, kpg2⟩
      · exact ax_ro_i
  · refine aj_run (C := True) (pc' := 20) (la' := [some (.inr (.inr (some (50, 0)))), some (.inl v), some (.inl ((wDr v a).1)), some (.inl ((wDr v a).2)), some (.inl a)]) (st' := [.inl 1103515245, .inl ((wDr v a).1)]) (M' := (P, g, r0, n)) ok_X11_drawn true 2 rfl trivial ?_
    refine aj_run (C := True) (pc' := 25) (la' := [some (.inr (.inr (some (50, 0)))), some (.inl v), some (.inl ((wDr v a).1)), some (.inl ((wDr v a).2)), some (.inl a)]) (st' := [.inl (Int.bmod ((Int.bmod (((wDr v a).1) * 1103515245) 4294967296) + 12345) 4294967296)]) (M' := (P, g, r0, n)) ok_X11_drawn false 3 rfl trivial ?_
    refine aj_run (C := (0 < 2) ∧ (-2147483648 ≤ a + 1 ∧ a + 1 ≤ 2147483647) ∧ True) (pc' := 7) (la' := [some (.inr (.inr (some (50, 0)))), some (.inl v), some (.inl (Int.bmod ((Int.bmod (((wDr v a).1) * 1103515245) 4294967296) + 12345) 4294967296)), some (.inl (ax_or ((wDr v a).2) (ax_shl (Int.tmod (ax_ush (Int.bmod ((Int.bmod (((wDr v a).1) * 1103515245) 4294967296) + 12345) 4294967296) 7) 2) a))), some (.inl (a + 1))]) (st' := []) (M' := (P, g, r0, n)) ok_X11_drawn true 13 rfl (by refine ⟨?_, ?_, trivial⟩ <;> (omega)) ?_
    refine aj_cast (congrArg (fun (z9 : Int) => ([some (.inr (.inr (some (50, 0)))), some (.inl v), some (.inl z9), some (.inl (ax_or ((wDr v a).2) (ax_shl (Int.tmod (ax_ush (Int.bmod ((Int.bmod (((wDr v a).1) * 1103515245) 4294967296) + 12345) 4294967296) 7) 2) a))), some (.inl (a + 1))] : List (Option ax_V))) (show Int.bmod ((Int.bmod (((wDr v a).1) * 1103515245) 4294967296) + 12345) 4294967296 = (wDr v (a + 1)).1 from by (rw [wDr_s i1]))) rfl rfl ?_
    refine aj_cast (congrArg (fun (z9 : Int) => ([some (.inr (.inr (some (50, 0)))), some (.inl v), some (.inl ((wDr v (a + 1)).1)), some (.inl z9), some (.inl (a + 1))] : List (Option ax_V))) (show ax_or ((wDr v a).2) (ax_shl (Int.tmod (ax_ush (Int.bmod ((Int.bmod (((wDr v a).1) * 1103515245) 4294967296) + 12345) 4294967296) 7) 2) a) = (wDr v (a + 1)).2 from by (rw [wDr_s i1]))) rfl rfl ?_
    refine ih7 (a + 1) ?_ ?_
    · omega
    · omega

