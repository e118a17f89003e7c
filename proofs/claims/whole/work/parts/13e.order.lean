/-! ===== the order of ants by their places: the class's and the reference's ===== -/
def ordS (d x : Int) : Int := Int.bmod (Int.bmod (Int.bmod (10 * d) 4294967296 + x) 4294967296 + 1) 4294967296
abbrev keyO (H : Nat → Int → Int → Int) (a : Int) : Int := 7 * H 129 0 a + a
def ordE (H : Nat → Int → Int → Int) (m q : Int) : Int := wFI (fun q d => if q % 7 < m ∧ H 129 0 (q % 7) = q / 7 then ordS d (q % 7) else d) 0 q
theorem ordE_s {H : Nat → Int → Int → Int} {m q : Int} (hq : 0 ≤ q) : ordE H m (q + 1) = if q % 7 < m ∧ H 129 0 (q % 7) = q / 7 then ordS (ordE H m q) (q % 7) else ordE H m q := wFI_s hq
theorem ordE_n {H : Nat → Int → Int → Int} {m t : Int} (ht : 0 ≤ t) : ∀ d : Nat, (∀ a, 0 ≤ a → a < m → a < 7 → ¬ (t ≤ keyO H a ∧ keyO H a < t + d)) → ordE H m (t + d) = ordE H m t
  | 0, _ => by rw [show t + ((0 : Nat) : Int) = t by omega]
  | d + 1, hk => by
    rw [show t + ((d + 1 : Nat) : Int) = (t + d) + 1 by omega, ordE_s (by omega), if_neg]
    · exact ordE_n ht d (fun a z1 z2 z3 z4 => hk a z1 z2 z3 (by omega))
    · rintro ⟨y1, y2⟩
      have := hk ((t + d) % 7) (by omega) y1 (by omega)
      unfold keyO at this
      rw [y2] at this
      omega
theorem ordE_i {H : Nat → Int → Int → Int} {m q : Int} (hm : 0 ≤ m) (hq : 0 ≤ q) : ∀ j : Nat, j ≤ 7 → ordE H m (7 * q + j) = wOrdI H q (if (j : Int) < m then j else m) (ordE H m (7 * q))
  | 0, _ => by
    rw [show 7 * q + ((0 : Nat) : Int) = 7 * q by omega]
    by_cases c : ((0 : Nat) : Int) < m
    · rw [if_pos c]; rfl
    · rw [if_neg c, show m = 0 by omega]; rfl
  | j + 1, hj => by
    rw [show 7 * q + ((j + 1 : Nat) : Int) = (7 * q + j) + 1 by omega, ordE_s (by omega), show (7 * q + (j : Int)) % 7 = j by omega, show (7 * q + (j : Int)) / 7 = q by omega, ordE_i hm hq j (by omega)]
    by_cases c : (j : Int) < m
    · rw [if_pos c, show (if ((j + 1 : Nat) : Int) < m then ((j + 1 : Nat) : Int) else m) = (j : Int) + 1 by split <;> omega, wOrdI_s (by omega)]
      by_cases c2 : H 129 0 j = q
      · rw [if_pos ⟨c, c2⟩, if_pos c2]; rfl
      · rw [if_neg (fun z => c2 z.2), if_neg c2]
    · rw [if_neg (fun z => c z.1), if_neg c, if_neg (by omega)]
theorem ordE_7 {H : Nat → Int → Int → Int} {m : Int} (h0 : 0 ≤ m) (h7 : m ≤ 7) : ∀ q : Nat, ordE H m (7 * (q : Int)) = wOrdO H m q
  | 0 => rfl
  | q + 1 => by
    rw [show ((q + 1 : Nat) : Int) = (q : Int) + 1 by omega, wOrdO_s (by omega), ← ordE_7 h0 h7 q]
    have := ordE_i (H := H) (q := q) h0 (by omega) 7 (by omega)
    rw [show (if ((7 : Nat) : Int) < m then ((7 : Nat) : Int) else m) = m by split <;> omega] at this
    rw [← this]
    congr 1
theorem cN_full {q : Int → Prop} [DecidablePred q] : ∀ m : Nat, (m : Int) ≤ cN q m → ∀ a : Int, 0 ≤ a → a < m → q a
  | 0, _, a, h1, h2 => by omega
  | m + 1, h, a, h1, h2 => by
    rw [show ((m + 1 : Nat) : Int) = (m : Int) + 1 by omega, cN_s (by omega)] at h
    have hi := cN_in (q := q) (m := m) (by omega)
    have hb := bI_01 (p := q m)
    by_cases e : a = m
    · rw [e]
      exact bI_n0 (by omega)
    · exact cN_full m (by omega) a h1 (by omega)
/-- the ant that comes next -/
theorem cNx_c {H : Nat → Int → Int → Int} {c : Int} : ∀ m : Nat, m ≤ 7 → (cNx H c m = -1 → ∀ a : Int, 0 ≤ a → a < m → 0 ≤ H 129 0 a → ax_and (ax_shr c a) 1 ≠ 0) ∧ (cNx H c m ≠ -1 → ax_and (ax_shr c (cNx H c m)) 1 = 0 ∧ ∀ a : Int, 0 ≤ a → a < m → 0 ≤ H 129 0 a → ax_and (ax_shr c a) 1 = 0 → keyO H (cNx H c m) ≤ keyO H a)
  | 0, _ => ⟨fun _ a h1 h2 => by omega, fun h => absurd rfl h⟩
  | m + 1, hm => by
    obtain ⟨i1, i2⟩ := cNx_c (H := H) (c := c) m (by omega)
    have hin := cNx_in (H := H) (c := c) (m := m) (by omega)
    rw [show ((m + 1 : Nat) : Int) = (m : Int) + 1 by omega, cNx_s (by omega)]
    by_cases q : (0 ≤ H 129 0 m ∧ ax_and (ax_shr c m) 1 = 0) ∧ (cNx H c m = -1 ∨ H 129 0 m < H 129 0 (cNx H c m))
    · rw [if_pos q]
      refine ⟨fun z => by omega, fun _ => ⟨q.1.2, fun a z1 z2 z3 z4 => ?_⟩⟩
      unfold keyO
      by_cases e : a = m
      · rw [e]; exact Int.le_refl _
      · by_cases w : cNx H c m = -1
        · exact absurd z4 (i1 w a z1 (by omega) z3)
        · have := (i2 w).2 a z1 (by omega) z3 z4
          have w2 := q.2.resolve_left w
          unfold keyO at this
          omega
    · rw [if_neg q]
      refine ⟨fun z a z1 z2 z3 => ?_, fun z => ⟨(i2 z).1, fun a z1 z2 z3 z4 => ?_⟩⟩
      · by_cases e : a = m
        · intro w
          rw [e] at z3 w
          exact q ⟨⟨z3, w⟩, Or.inl z⟩
        · exact i1 z a z1 (by omega) z3
      · by_cases e : a = m
        · rw [e] at z3 z4 ⊢
          unfold keyO
          have : ¬ H 129 0 m < H 129 0 (cNx H c m) := fun w => q ⟨⟨z3, z4⟩, Or.inr w⟩
          omega
        · exact (i2 z).2 a z1 (by omega) z3 z4
/-- digits and ants counted, behind k rounds of the class -/
def cOr (H : Nat → Int → Int → Int) (m k : Int) : Int × Int := wFI (fun _ s => if cNx H s.2 m = -1 then s else (ordS s.1 (cNx H s.2 m), ax_or s.2 (ax_shl 1 (cNx H s.2 m)))) (0, 0) k
theorem cOr_s {H : Nat → Int → Int → Int} {m k : Int} (hk : 0 ≤ k) : cOr H m (k + 1) = if cNx H (cOr H m k).2 m = -1 then cOr H m k else (ordS (cOr H m k).1 (cNx H (cOr H m k).2 m), ax_or (cOr H m k).2 (ax_shl 1 (cNx H (cOr H m k).2 m))) := wFI_s hk
abbrev qO (H : Nat → Int → Int → Int) (c a : Int) : Prop := 0 ≤ H 129 0 a ∧ ax_and (ax_shr c a) 1 ≠ 0
theorem cOr_i {H : Nat → Int → Int → Int} {m : Int} (h0 : 0 ≤ m) (h7 : m ≤ 7) : ∀ k : Nat, (0 ≤ (cOr H m k).2 ∧ (cOr H m k).2 < 128) ∧ (∃ t : Int, 0 ≤ t ∧ (∀ a, 0 ≤ a → a < m → 0 ≤ H 129 0 a → (ax_and (ax_shr (cOr H m k).2 a) 1 ≠ 0 ↔ keyO H a < t)) ∧ (cOr H m k).1 = ordE H m t) ∧ ((k : Int) ≤ cN (qO H (cOr H m k).2) m ∨ ∀ a, 0 ≤ a → a < m → 0 ≤ H 129 0 a → ax_and (ax_shr (cOr H m k).2 a) 1 ≠ 0)
  | 0 => by
    rw [show cOr H m ((0 : Nat) : Int) = (0, 0) from rfl]
    refine ⟨⟨by decide, by decide⟩, ⟨0, Int.le_refl _, fun a z1 z2 z3 => ⟨fun w => ?_, fun w => by unfold keyO at w; omega⟩, rfl⟩, Or.inl (cN_in h0).1⟩
    exfalso
    apply w
    dsimp only
    have : a = 0 ∨ a = 1 ∨ a = 2 ∨ a = 3 ∨ a = 4 ∨ a = 5 ∨ a = 6 := by omega
    rcases this with rfl | rfl | rfl | rfl | rfl | rfl | rfl <;> decide
  | k + 1 => by
    obtain ⟨b1, ⟨t, t1, t2, t3⟩, b3⟩ := cOr_i (H := H) h0 h7 k
    have hn := cNx_c (H := H) (c := (cOr H m k).2) m.toNat (by omega)
    have hin := cNx_in (H := H) (c := (cOr H m k).2) (m := m) h0
    rw [show ((m.toNat : Nat) : Int) = m by omega] at hn
    rw [show ((k + 1 : Nat) : Int) = (k : Int) + 1 by omega, cOr_s (by omega)]
    by_cases q : cNx H (cOr H m k).2 m = -1
    · rw [if_pos q]
      exact ⟨b1, ⟨t, t1, t2, t3⟩, Or.inr (hn.1 q)⟩
    · rw [if_neg q]
      obtain ⟨n1, n2⟩ := hn.2 q
      generalize (cOr H m k).2 = c at *
      generalize (cOr H m k).1 = d at *
      obtain ⟨x, hx⟩ : ∃ x, x = cNx H c m := ⟨_, rfl⟩
      rw [← hx] at n1 n2 hin q ⊢
      have hin' : (0 ≤ x ∧ x < m) ∧ 0 ≤ H 129 0 x := by omega
      have hs := fun i (z : 0 ≤ i ∧ i < 7) => bitS2 (i := i) (x := c) (y := x) z b1 ⟨by omega, by omega⟩
      have hkt : ¬ keyO H x < t := fun z => (t2 x hin'.1.1 hin'.1.2 hin'.2).mpr z n1
      refine ⟨(hs 0 (by decide)).2, ⟨keyO H x + 1, by unfold keyO; omega, fun a z1 z2 z3 => ?_, ?_⟩, ?_⟩
      · dsimp only
        rw [(hs a ⟨z1, by omega⟩).1]
        by_cases e : a = x
        · rw [if_pos e, e]
          exact ⟨fun _ => by omega, fun _ => by decide⟩
        · rw [if_neg e]
          constructor
          · intro w
            have := (t2 a z1 z2 z3).mp w
            omega
          · intro w w2
            have := n2 a z1 z2 z3 w2
            unfold keyO at this w
            omega
      · dsimp only
        have hk0 : 0 ≤ keyO H x := by unfold keyO; omega
        have he := ordE_n (H := H) (m := m) t1 (keyO H x - t).toNat (fun a z1 z2 z3 z4 => by
          have hon : 0 ≤ H 129 0 a := by unfold keyO at *; omega
          have hnc : ¬ ax_and (ax_shr c a) 1 ≠ 0 := fun w => by have := (t2 a z1 z2 hon).mp w; omega
          have := n2 a z1 z2 hon (by omega)
          omega)
        rw [show t + (((keyO H x - t).toNat : Nat) : Int) = keyO H x by omega] at he
        rw [ordE_s hk0, show keyO H x % 7 = x by unfold keyO; omega, show keyO H x / 7 = H 129 0 x by unfold keyO; omega, if_pos ⟨hin'.1.2, rfl⟩, he, t3]
      · dsimp only
        by_cases b : ∀ a, 0 ≤ a → a < m → 0 ≤ H 129 0 a → ax_and (ax_shr c a) 1 ≠ 0
        · exact absurd n1 (b x hin'.1.1 hin'.1.2 hin'.2)
        · have b3' := b3.resolve_right b
          refine Or.inl ?_
          have ho := cN_one (q := qO H (ax_or c (ax_shl 1 x))) hin'.1.1 ⟨hin'.2, by rw [(hs x ⟨hin'.1.1, by omega⟩).1, if_pos rfl]; decide⟩ m.toNat
          rw [show ((m.toNat : Nat) : Int) = m by omega, bI_t hin'.1.2] at ho
          rw [ho, cN_cg (q' := qO H c) (fun a z1 z2 => ?_)]
          · omega
          · unfold qO
            rw [(hs a ⟨z1, by omega⟩).1]
            by_cases e : a = x
            · rw [e, if_pos rfl]
              exact ⟨fun z => absurd rfl z.1, fun z => absurd n1 z.2⟩
            · rw [if_neg e]
              exact ⟨fun z => z.2, fun z => ⟨e, z⟩⟩
theorem cOr_v {H : Nat → Int → Int → Int} {m z : Int} (h0 : 0 ≤ m) (h7 : m ≤ 7) (hz : 0 ≤ z) (hp : ∀ a, 0 ≤ a → a < m → H 129 0 a < z) : (cOr H m m).1 = wOrdO H m z := by
  obtain ⟨b1, ⟨t, t1, t2, t3⟩, b3⟩ := cOr_i (H := H) h0 h7 m.toNat
  rw [show ((m.toNat : Nat) : Int) = m by omega] at b1 t2 t3 b3
  have hall : ∀ a, 0 ≤ a → a < m → 0 ≤ H 129 0 a → keyO H a < t := fun a z1 z2 z3 => (t2 a z1 z2 z3).mp (by
    rcases b3 with b | b
    · have := cN_full (q := qO H (cOr H m m).2) m.toNat (by rw [show ((m.toNat : Nat) : Int) = m by omega]; exact b) a z1 (by omega)
      exact this.2
    · exact b a z1 z2 z3)
  have e7 := ordE_7 (H := H) h0 h7 z.toNat
  rw [show ((z.toNat : Nat) : Int) = z by omega] at e7
  rw [t3, ← e7]
  by_cases c : t ≤ 7 * z
  · have he := ordE_n (H := H) (m := m) t1 (7 * z - t).toNat (fun a z1 z2 z3 z4 => by
      have hon : 0 ≤ H 129 0 a := by unfold keyO at *; omega
      have := hall a z1 z2 hon
      omega)
    rw [show t + (((7 * z - t).toNat : Nat) : Int) = 7 * z by omega] at he
    exact he.symm
  · have he := ordE_n (H := H) (m := m) (t := 7 * z) (by omega) (t - 7 * z).toNat (fun a z1 z2 z3 z4 => by
      have := hp a z1 z2
      unfold keyO at *
      omega)
    rw [show 7 * z + (((t - 7 * z).toNat : Nat) : Int) = t by omega] at he
    exact he
theorem gT_pl {h : Nat → Int → Int → Int} (hs : wOs h) {b : Int} (hb : 0 ≤ b ∧ b ≤ 1000) {a : Int} (h1 : 0 ≤ a) (h2 : a < h 50 0 2) : gT h b 129 0 a < 2 * h 50 0 0 + 1 := by
  have := (gT_od hs b hb).2 a h1 (by rw [gT_sz]; exact h2)
  have e0 : gT h b 50 0 0 = h 50 0 0 := (wSs.tr (it_ss _) beg_ss).2 _ _ (by omega)
  have e1 : gT h b 50 0 1 = h 50 0 1 := (wSs.tr (it_ss _) beg_ss).2 _ _ (by omega)
  have := hs.2.1
  omega
theorem gT_tr {h : Nat → Int → Int → Int} {b : Int} : gT h b 50 0 0 = h 50 0 0 ∧ gT h b 103 = h 103 ∧ gT h b 107 = h 107 := ⟨(wSs.tr (it_ss _) beg_ss).2 _ _ (by omega), (wSs.tr (it_ss _) beg_ss).1 103 (by decide) (by omega), (wSs.tr (it_ss _) beg_ss).1 107 (by decide) (by omega)⟩
theorem wWei_in {k x : Int} (hk : 0 ≤ k ∧ k ≤ 5) (hx : 0 ≤ x ∧ x ≤ 9) : 0 ≤ wWeighs k x ∧ wWeighs k x ≤ 20 := by
  unfold wWeighs
  have e2 : Int.tdiv x 2 = x / 2 := Int.tdiv_eq_ediv_of_nonneg hx.1
  repeat' split
  all_goals (try rw [e2]) <;> omega
set_option maxRecDepth 100000 in
set_option maxHeartbeats 4000000 in
theorem cp_order (b : Int) (P : Nat → Int → Prop) (g : Nat → Int → Int → Int) (r0 : Nat → Int → Int → Option (Nat × Int)) (n : Nat → Int → Int) (h : Nat → Int → Int → Int) (hs : cSta P r0 n g h) (hd : cDy g h) : ax_S yX10_order cX10_order 6 (some FieldType.int) 13 0 0 [.inr (.inr (some (1, 0))), .inl b] (P, g, r0, n) (fun r M' => r = some (.inl (fOrd h b)) ∧ ∃ g', M' = (P, g', r0, n) ∧ cDy g' h ∧ cFr TW g' g) := by
  have hAs := hs.1.1
  have hPs := hs.1.2.1
  have hOs := hs.1.2.2
  have hP1 := hPs.1
  have hA1 := hAs.1
  have hsz := hOs.2.2.1
  have hm := hd.1
  have hca := hd.2
  have hxz := hPs.1.1
  refine ax_S_of (own := 10) (by decide) rfl (fun h => absurd h (by decide)) rfl (Nat.le_of_ble_eq_true rfl) ?_
  change ax_J _ _ _ _ _ _ _ _ _ _ [some (.inr (.inr (some (1, 0)))), some (.inl b), none, none, none, none] _ _
  refine aj_run (C := True) (pc' := 1) (la' := [some (.inr (.inr (some (1, 0)))), some (.inl b), none, none, none, none]) (st' := [.inl b]) (M' := (P, g, r0, n)) ok_X10_order true 1 rfl trivial ?_
  refine aj_callS (av := [.inl b]) (st := []) cal_X10_isBeat lk_10_160 stc_X10_isBeat (cp_isBeat b _ _ _ _) ⟨by decide, by decide, by decide, by decide⟩ (Nat.le_of_ble_eq_true rfl) (ax_dec2 (i := .invokestatic 160) (n := 3) ok_X10_order rfl) (fun r M' hq => ?_)
  obtain ⟨rfl, rfl⟩ := hq
  change ax_J _ _ _ _ _ _ _ _ _ 4 [some (.inr (.inr (some (1, 0)))), some (.inl b), none, none, none, none] [.inl (bI (0 ≤ b ∧ b ≤ 200))] (P, g, r0, n)
  refine aj_if_ne (tgt := 10) (ax_dec2 (i := .ifCond .ne 6) (n := 3) ok_X10_order rfl) (by decide) (fun c1 => ?_) (fun c1 => ?_)
  · replace c1 := bI_n0 c1
    refine aj_run (C := True) (pc' := 12) (la' := [some (.inr (.inr (some (1, 0)))), some (.inl b), none, none, none, none]) (st' := [.inl b, .inr (.inr (some (1, 0)))]) (M' := (P, g, r0, n)) ok_X10_order true 2 rfl trivial ?_
    refine aj_callV (av := [.inl b]) (st := []) (f := 1) (o := 0) (ci := 10) cal_X10_goTo lk_10_142 ins_X10_goTo rfl sel_X10_goTo rfl (fun c9 h9 _ => by simpa [ax_ok] using h9) (cp_goTo b _ _ _ _ h hs hm (by omega)) ⟨by decide, by decide, by decide, by decide⟩ (Nat.le_of_ble_eq_true rfl) (ax_dec2 (i := .invokevirtual 142) (n := 3) ok_X10_order rfl) (fun r M' hq => ?_)
    obtain ⟨rfl, g3, rfl, sm3, fr3⟩ := hq
    have hd3 : cDy g3 h := ⟨cSm_mz sm3, cCa_g fr3 hca⟩
    have tw3 := cFr_TG fr3
    have hD3 : ∀ a, 0 ≤ a → a < h 50 0 2 → cD1 g3 (gT h b) a := fun a z1 z2 => sm3.1.1 a z1 (by rw [it_sz, beg_sz]; exact z2)
    have hs31 : g3 2 0 1 = g 2 0 1 := fr3 2 0 1 (by unfold TG; omega)
    have hpl := fun a (z1 : 0 ≤ a) (z2 : a < h 50 0 2) => gT_pl hOs (b := b) (by omega) z1 z2
    change ax_J _ _ _ _ _ _ _ _ _ 15 [some (.inr (.inr (some (1, 0)))), some (.inl b), none, none, none, none] [] (P, g3, r0, n)
    refine aj_run (C := True) (pc' := 22) (la' := [some (.inr (.inr (some (1, 0)))), some (.inl b), some (.inl 0), some (.inl 0), some (.inl 0), none]) (st' := []) (M' := (P, g3, r0, n)) ok_X10_order true 6 rfl trivial ?_
    refine aj_cast (congrArg (fun (z9 : Int) => ([some (.inr (.inr (some (1, 0)))), some (.inl b), some (.inl z9), some (.inl 0), some (.inl 0), none] : List (Option ax_V))) (show 0 = (cOr (gT h b) (g 2 0 1) 0).1 from by rfl)) rfl rfl ?_
    refine aj_cast (congrArg (fun (z9 : Int) => ([some (.inr (.inr (some (1, 0)))), some (.inl b), some (.inl ((cOr (gT h b) (g 2 0 1) 0).1)), some (.inl z9), some (.inl 0), none] : List (Option ax_V))) (show 0 = (cOr (gT h b) (g 2 0 1) 0).2 from by rfl)) rfl rfl ?_
    refine aj_forget (la' := [some (.inr (.inr (some (1, 0)))), some (.inl b), some (.inl ((cOr (gT h b) (g 2 0 1) 0).1)), some (.inl ((cOr (gT h b) (g 2 0 1) 0).2)), some (.inl 0), none]) (by simp [ax_fg]) ?_
    refine aj_loop (σ := (Int)) (fun xL => 0 ≤ xL ∧ xL ≤ g 2 0 1) (fun xL => (g 2 0 1 - xL).toNat) (fun xL => [some (.inr (.inr (some (1, 0)))), some (.inl b), some (.inl ((cOr (gT h b) (g 2 0 1) xL).1)), some (.inl ((cOr (gT h b) (g 2 0 1) xL).2)), some (.inl xL), none]) (fun xL => []) (fun xL => (P, g3, r0, n)) ?_ (0) ?_
    rotate_left
    · (try dsimp only); omega
    rintro k hI ih22
    try dsimp only at hI ih22
    obtain ⟨k1, k2⟩ := hI
    change ax_J _ _ _ _ _ _ _ _ _ 22 [some (.inr (.inr (some (1, 0)))), some (.inl b), some (.inl ((cOr (gT h b) (g 2 0 1) k).1)), some (.inl ((cOr (gT h b) (g 2 0 1) k).2)), some (.inl k), none] [] (P, g3, r0, n)
    refine aj_run (C := True) (pc' := 25) (la' := [some (.inr (.inr (some (1, 0)))), some (.inl b), some (.inl ((cOr (gT h b) (g 2 0 1) k).1)), some (.inl ((cOr (gT h b) (g 2 0 1) k).2)), some (.inl k), none]) (st' := [.inr (.inr (some (1, 0))), .inl k]) (M' := (P, g3, r0, n)) ok_X10_order true 2 rfl trivial ?_
    refine aj_getR (f := 1) (k := 0) (g := 2) (o := 0) (u := 0) (ax_lk_ok (q := (1, 0)) rfl) rfl rfl hs.2.2.2.1 hs.2.2.2.2 (ax_dec2 (i := .getfield 10) (n := 3) ok_X10_order rfl) ?_
    refine aj_run (C := True) (pc' := 31) (la' := [some (.inr (.inr (some (1, 0)))), some (.inl b), some (.inl ((cOr (gT h b) (g 2 0 1) k).1)), some (.inl ((cOr (gT h b) (g 2 0 1) k).2)), some (.inl k), none]) (st' := [.inl (g3 2 0 1), .inl k]) (M' := (P, g3, r0, n)) ok_X10_order true 1 rfl trivial ?_
    refine aj_icmp_ge (tgt := 73) (ax_dec2 (i := .if_icmp .ge 42) (n := 3) ok_X10_order rfl) (by decide) (fun c2 => ?_) (fun c2 => ?_)
    · refine aj_run (C := True) (pc' := 74) (la' := [some (.inr (.inr (some (1, 0)))), some (.inl b), some (.inl ((cOr (gT h b) (g 2 0 1) k).1)), some (.inl ((cOr (gT h b) (g 2 0 1) k).2)), some (.inl k), none]) (st' := [.inl ((cOr (gT h b) (g 2 0 1) k).1)]) (M' := (P, g3, r0, n)) ok_X10_order true 1 rfl trivial ?_
      refine aj_ret (r := some (.inl ((cOr (gT h b) (g 2 0 1) k).1))) (ax_dec2 (i := .ireturn) (n := 1) ok_X10_order rfl) ⟨?_, ?_, by decide, by decide⟩ rfl
      · exact ⟨ax_si (by unfold fOrd; rw [if_pos (by omega), ← hxz, ← cOr_v (z := 2 * h 50 0 0 + 1) (by omega) (by omega) (by have := hOs.1; omega) (fun a z1 z2 => hpl a z1 (by omega)), show k = g 2 0 1 by omega]), g3, rfl, hd3, tw3⟩
      · exact ax_ro_i
    · refine aj_run (C := True) (pc' := 35) (la' := [some (.inr (.inr (some (1, 0)))), some (.inl b), some (.inl ((cOr (gT h b) (g 2 0 1) k).1)), some (.inl ((cOr (gT h b) (g 2 0 1) k).2)), some (.inl k), none]) (st' := [.inr (.inr (some (1, 0)))]) (M' := (P, g3, r0, n)) ok_X10_order true 1 rfl trivial ?_
      refine aj_getR (f := 1) (k := 0) (g := 2) (o := 0) (u := 0) (ax_lk_ok (q := (1, 0)) rfl) rfl rfl hs.2.2.2.1 hs.2.2.2.2 (ax_dec2 (i := .getfield 10) (n := 3) ok_X10_order rfl) ?_
      refine aj_run (C := True) (pc' := 39) (la' := [some (.inr (.inr (some (1, 0)))), some (.inl b), some (.inl ((cOr (gT h b) (g 2 0 1) k).1)), some (.inl ((cOr (gT h b) (g 2 0 1) k).2)), some (.inl k), none]) (st' := [.inl ((cOr (gT h b) (g 2 0 1) k).2), .inr (.inr (some (2, 0)))]) (M' := (P, g3, r0, n)) ok_X10_order true 1 rfl trivial ?_
      refine aj_callV (av := [.inl ((cOr (gT h b) (g 2 0 1) k).2)]) (st := []) (f := 2) (o := 0) (ci := 2) cal_X2_nextByPlace lk_10_185 ins_X2_nextByPlace rfl sel_X2_nextByPlace rfl (fun c9 h9 _ => by simpa [ax_ok] using h9) (cp_nextByPlace ((cOr (gT h b) (g 2 0 1) k).2) _ _ _ _ (by rw [hs31]; exact hAs) (gT h b) (by rw [gT_sz]; omega) (fun a z1 z2 => hD3 a z1 (by rw [gT_sz] at z2; exact z2))) ⟨by decide, by decide, by decide, by decide⟩ (Nat.le_of_ble_eq_true rfl) (ax_dec2 (i := .invokevirtual 185) (n := 3) ok_X10_order rfl) (fun r M' hq => ?_)
      obtain ⟨rfl, rfl⟩ := hq
      change ax_J _ _ _ _ _ _ _ _ _ 42 [some (.inr (.inr (some (1, 0)))), some (.inl b), some (.inl ((cOr (gT h b) (g 2 0 1) k).1)), some (.inl ((cOr (gT h b) (g 2 0 1) k).2)), some (.inl k), none] [.inl (cNx (gT h b) ((cOr (gT h b) (g 2 0 1) k).2) (g3 2 0 1))] (P, g3, r0, n)
      refine aj_run (C := True) (pc' := 44) (la' := [some (.inr (.inr (some (1, 0)))), some (.inl b), some (.inl ((cOr (gT h b) (g 2 0 1) k).1)), some (.inl ((cOr (gT h b) (g 2 0 1) k).2)), some (.inl k), some (.inl (cNx (gT h b) ((cOr (gT h b) (g 2 0 1) k).2) (g3 2 0 1)))]) (st' := []) (M' := (P, g3, r0, n)) ok_X10_order true 1 rfl trivial ?_
      have hns := cOr_s (H := gT h b) (m := g 2 0 1) k1
      have hni := cNx_in (H := gT h b) (c := (cOr (gT h b) (g 2 0 1) k).2) (m := g 2 0 1) (by omega)
      refine aj_cast (congrArg (fun (z9 : Int) => ([some (.inr (.inr (some (1, 0)))), some (.inl b), some (.inl ((cOr (gT h b) (g 2 0 1) k).1)), some (.inl ((cOr (gT h b) (g 2 0 1) k).2)), some (.inl k), some (.inl z9)] : List (Option ax_V))) (show cNx (gT h b) ((cOr (gT h b) (g 2 0 1) k).2) (g3 2 0 1) = cNx (gT h b) (cOr (gT h b) (g 2 0 1) k).2 (g 2 0 1) from by rw [hs31])) rfl rfl ?_
      refine aj_run (C := True) (pc' := 47) (la' := [some (.inr (.inr (some (1, 0)))), some (.inl b), some (.inl ((cOr (gT h b) (g 2 0 1) k).1)), some (.inl ((cOr (gT h b) (g 2 0 1) k).2)), some (.inl k), some (.inl (cNx (gT h b) (cOr (gT h b) (g 2 0 1) k).2 (g 2 0 1)))]) (st' := [.inl (-1), .inl (cNx (gT h b) (cOr (gT h b) (g 2 0 1) k).2 (g 2 0 1))]) (M' := (P, g3, r0, n)) ok_X10_order true 2 rfl trivial ?_
      refine aj_icmp_eq (tgt := 67) (ax_dec2 (i := .if_icmp .eq 20) (n := 3) ok_X10_order rfl) (by decide) (fun c3 => ?_) (fun c3 => ?_)
      · refine aj_run (C := (-2147483648 ≤ k + 1 ∧ k + 1 ≤ 2147483647) ∧ True) (pc' := 22) (la' := [some (.inr (.inr (some (1, 0)))), some (.inl b), some (.inl ((cOr (gT h b) (g 2 0 1) k).1)), some (.inl ((cOr (gT h b) (g 2 0 1) k).2)), some (.inl (k + 1)), some (.inl (cNx (gT h b) (cOr (gT h b) (g 2 0 1) k).2 (g 2 0 1)))]) (st' := []) (M' := (P, g3, r0, n)) ok_X10_order true 2 rfl (by refine ⟨?_, trivial⟩ <;> (omega)) ?_
        refine aj_cast (congrArg (fun (z9 : Int) => ([some (.inr (.inr (some (1, 0)))), some (.inl b), some (.inl z9), some (.inl ((cOr (gT h b) (g 2 0 1) k).2)), some (.inl (k + 1)), some (.inl (cNx (gT h b) (cOr (gT h b) (g 2 0 1) k).2 (g 2 0 1)))] : List (Option ax_V))) (show ((cOr (gT h b) (g 2 0 1) k).1) = (cOr (gT h b) (g 2 0 1) (k + 1)).1 from by (rw [hns]; first | rw [if_pos (by omega)] | (rw [if_neg (by omega)] <;> (unfold ordS; rw [Int.mul_comm 10 _]))))) rfl rfl ?_
        refine aj_cast (congrArg (fun (z9 : Int) => ([some (.inr (.inr (some (1, 0)))), some (.inl b), some (.inl ((cOr (gT h b) (g 2 0 1) (k + 1)).1)), some (.inl z9), some (.inl (k + 1)), some (.inl (cNx (gT h b) (cOr (gT h b) (g 2 0 1) k).2 (g 2 0 1)))] : List (Option ax_V))) (show ((cOr (gT h b) (g 2 0 1) k).2) = (cOr (gT h b) (g 2 0 1) (k + 1)).2 from by (rw [hns]; first | rw [if_pos (by omega)] | (rw [if_neg (by omega)] <;> (unfold ordS; rw [Int.mul_comm 10 _]))))) rfl rfl ?_
        refine aj_forget (la' := [some (.inr (.inr (some (1, 0)))), some (.inl b), some (.inl ((cOr (gT h b) (g 2 0 1) (k + 1)).1)), some (.inl ((cOr (gT h b) (g 2 0 1) (k + 1)).2)), some (.inl (k + 1)), none]) (by simp [ax_fg]) ?_
        refine ih22 (k + 1) ?_ ?_
        · (try dsimp only); omega
        · omega
      · refine aj_run (C := True) (pc' := 53) (la' := [some (.inr (.inr (some (1, 0)))), some (.inl b), some (.inl ((cOr (gT h b) (g 2 0 1) k).1)), some (.inl ((cOr (gT h b) (g 2 0 1) k).2)), some (.inl k), some (.inl (cNx (gT h b) (cOr (gT h b) (g 2 0 1) k).2 (g 2 0 1)))]) (st' := [.inl 10, .inl ((cOr (gT h b) (g 2 0 1) k).1)]) (M' := (P, g3, r0, n)) ok_X10_order true 2 rfl trivial ?_
        refine aj_run (C := True) (pc' := 54) (la' := [some (.inr (.inr (some (1, 0)))), some (.inl b), some (.inl ((cOr (gT h b) (g 2 0 1) k).1)), some (.inl ((cOr (gT h b) (g 2 0 1) k).2)), some (.inl k), some (.inl (cNx (gT h b) (cOr (gT h b) (g 2 0 1) k).2 (g 2 0 1)))]) (st' := [.inl (Int.bmod (((cOr (gT h b) (g 2 0 1) k).1) * 10) 4294967296)]) (M' := (P, g3, r0, n)) ok_X10_order false 1 rfl trivial ?_
        refine aj_run (C := True) (pc' := 56) (la' := [some (.inr (.inr (some (1, 0)))), some (.inl b), some (.inl ((cOr (gT h b) (g 2 0 1) k).1)), some (.inl ((cOr (gT h b) (g 2 0 1) k).2)), some (.inl k), some (.inl (cNx (gT h b) (cOr (gT h b) (g 2 0 1) k).2 (g 2 0 1)))]) (st' := [.inl (cNx (gT h b) (cOr (gT h b) (g 2 0 1) k).2 (g 2 0 1)), .inl (Int.bmod (((cOr (gT h b) (g 2 0 1) k).1) * 10) 4294967296)]) (M' := (P, g3, r0, n)) ok_X10_order true 1 rfl trivial ?_
        refine aj_run (C := True) (pc' := 57) (la' := [some (.inr (.inr (some (1, 0)))), some (.inl b), some (.inl ((cOr (gT h b) (g 2 0 1) k).1)), some (.inl ((cOr (gT h b) (g 2 0 1) k).2)), some (.inl k), some (.inl (cNx (gT h b) (cOr (gT h b) (g 2 0 1) k).2 (g 2 0 1)))]) (st' := [.inl (Int.bmod ((Int.bmod (((cOr (gT h b) (g 2 0 1) k).1) * 10) 4294967296) + (cNx (gT h b) (cOr (gT h b) (g 2 0 1) k).2 (g 2 0 1))) 4294967296)]) (M' := (P, g3, r0, n)) ok_X10_order false 1 rfl trivial ?_
        refine aj_run (C := True) (pc' := 58) (la' := [some (.inr (.inr (some (1, 0)))), some (.inl b), some (.inl ((cOr (gT h b) (g 2 0 1) k).1)), some (.inl ((cOr (gT h b) (g 2 0 1) k).2)), some (.inl k), some (.inl (cNx (gT h b) (cOr (gT h b) (g 2 0 1) k).2 (g 2 0 1)))]) (st' := [.inl 1, .inl (Int.bmod ((Int.bmod (((cOr (gT h b) (g 2 0 1) k).1) * 10) 4294967296) + (cNx (gT h b) (cOr (gT h b) (g 2 0 1) k).2 (g 2 0 1))) 4294967296)]) (M' := (P, g3, r0, n)) ok_X10_order true 1 rfl trivial ?_
        refine aj_run (C := True) (pc' := 59) (la' := [some (.inr (.inr (some (1, 0)))), some (.inl b), some (.inl ((cOr (gT h b) (g 2 0 1) k).1)), some (.inl ((cOr (gT h b) (g 2 0 1) k).2)), some (.inl k), some (.inl (cNx (gT h b) (cOr (gT h b) (g 2 0 1) k).2 (g 2 0 1)))]) (st' := [.inl (Int.bmod ((Int.bmod ((Int.bmod (((cOr (gT h b) (g 2 0 1) k).1) * 10) 4294967296) + (cNx (gT h b) (cOr (gT h b) (g 2 0 1) k).2 (g 2 0 1))) 4294967296) + 1) 4294967296)]) (M' := (P, g3, r0, n)) ok_X10_order false 1 rfl trivial ?_
        refine aj_run (C := (-2147483648 ≤ k + 1 ∧ k + 1 ≤ 2147483647) ∧ True) (pc' := 22) (la' := [some (.inr (.inr (some (1, 0)))), some (.inl b), some (.inl (Int.bmod ((Int.bmod ((Int.bmod (((cOr (gT h b) (g 2 0 1) k).1) * 10) 4294967296) + (cNx (gT h b) (cOr (gT h b) (g 2 0 1) k).2 (g 2 0 1))) 4294967296) + 1) 4294967296)), some (.inl (ax_or ((cOr (gT h b) (g 2 0 1) k).2) (ax_shl 1 (cNx (gT h b) (cOr (gT h b) (g 2 0 1) k).2 (g 2 0 1))))), some (.inl (k + 1)), some (.inl (cNx (gT h b) (cOr (gT h b) (g 2 0 1) k).2 (g 2 0 1)))]) (st' := []) (M' := (P, g3, r0, n)) ok_X10_order true 9 rfl (by refine ⟨?_, trivial⟩ <;> (omega)) ?_
        refine aj_cast (congrArg (fun (z9 : Int) => ([some (.inr (.inr (some (1, 0)))), some (.inl b), some (.inl z9), some (.inl (ax_or ((cOr (gT h b) (g 2 0 1) k).2) (ax_shl 1 (cNx (gT h b) (cOr (gT h b) (g 2 0 1) k).2 (g 2 0 1))))), some (.inl (k + 1)), some (.inl (cNx (gT h b) (cOr (gT h b) (g 2 0 1) k).2 (g 2 0 1)))] : List (Option ax_V))) (show (Int.bmod ((Int.bmod ((Int.bmod (((cOr (gT h b) (g 2 0 1) k).1) * 10) 4294967296) + (cNx (gT h b) (cOr (gT h b) (g 2 0 1) k).2 (g 2 0 1))) 4294967296) + 1) 4294967296) = (cOr (gT h b) (g 2 0 1) (k + 1)).1 from by (rw [hns]; first | rw [if_pos (by omega)] | (rw [if_neg (by omega)] <;> (unfold ordS; rw [Int.mul_comm 10 _]))))) rfl rfl ?_
        refine aj_cast (congrArg (fun (z9 : Int) => ([some (.inr (.inr (some (1, 0)))), some (.inl b), some (.inl ((cOr (gT h b) (g 2 0 1) (k + 1)).1)), some (.inl z9), some (.inl (k + 1)), some (.inl (cNx (gT h b) (cOr (gT h b) (g 2 0 1) k).2 (g 2 0 1)))] : List (Option ax_V))) (show (ax_or ((cOr (gT h b) (g 2 0 1) k).2) (ax_shl 1 (cNx (gT h b) (cOr (gT h b) (g 2 0 1) k).2 (g 2 0 1)))) = (cOr (gT h b) (g 2 0 1) (k + 1)).2 from by (rw [hns]; first | rw [if_pos (by omega)] | (rw [if_neg (by omega)] <;> (unfold ordS; rw [Int.mul_comm 10 _]))))) rfl rfl ?_
        refine aj_forget (la' := [some (.inr (.inr (some (1, 0)))), some (.inl b), some (.inl ((cOr (gT h b) (g 2 0 1) (k + 1)).1)), some (.inl ((cOr (gT h b) (g 2 0 1) (k + 1)).2)), some (.inl (k + 1)), none]) (by simp [ax_fg]) ?_
        refine ih22 (k + 1) ?_ ?_
        · (try dsimp only); omega
        · omega
  · replace c1 := bI_e0 c1
    refine aj_run (C := True) (pc' := 9) (la' := [some (.inr (.inr (some (1, 0)))), some (.inl b), none, none, none, none]) (st' := [.inl (-2)]) (M' := (P, g, r0, n)) ok_X10_order true 1 rfl trivial ?_
    refine aj_ret (r := some (.inl (-2))) (ax_dec2 (i := .ireturn) (n := 1) ok_X10_order rfl) ⟨?_, ?_, by decide, by decide⟩ rfl
    · first | (exfalso; omega) | exact ⟨ax_si (by unfold fOrd; (repeat first | rw [if_pos (by omega)] | rw [if_neg (by omega)] | rw [bI_t (by omega)] | rw [bI_f (by omega)]); try first | rfl | omega), g, rfl, hd, fun _ _ _ _ => rfl⟩
    · exact ax_ro_i

set_option maxRecDepth 100000 in
set_option maxHeartbeats 4000000 in
theorem cp_tilt (b : Int) (P : Nat → Int → Prop) (g : Nat → Int → Int → Int) (r0 : Nat → Int → Int → Option (Nat × Int)) (n : Nat → Int → Int) (h : Nat → Int → Int → Int) (hs : cSta P r0 n g h) (hd : cDy g h) : ax_S yX10_tilt cX10_tilt 5 (some FieldType.int) 13 0 0 [.inr (.inr (some (1, 0))), .inl b] (P, g, r0, n) (fun r M' => r = some (.inl (fTil h b)) ∧ ∃ g', M' = (P, g', r0, n) ∧ cDy g' h ∧ cFr TW g' g) := by
  have hAs := hs.1.1
  have hPs := hs.1.2.1
  have hOs := hs.1.2.2
  have hP1 := hPs.1
  have hA1 := hAs.1
  have hsz := hOs.2.2.1
  have hm := hd.1
  have hca := hd.2
  have hxz := hPs.1.1
  refine ax_S_of (own := 10) (by decide) rfl (fun h => absurd h (by decide)) rfl (Nat.le_of_ble_eq_true rfl) ?_
  change ax_J _ _ _ _ _ _ _ _ _ _ [some (.inr (.inr (some (1, 0)))), some (.inl b), none, none, none] _ _
  refine aj_run (C := True) (pc' := 1) (la' := [some (.inr (.inr (some (1, 0)))), some (.inl b), none, none, none]) (st' := [.inl b]) (M' := (P, g, r0, n)) ok_X10_tilt true 1 rfl trivial ?_
  refine aj_callS (av := [.inl b]) (st := []) cal_X10_isBeat lk_10_160 stc_X10_isBeat (cp_isBeat b _ _ _ _) ⟨by decide, by decide, by decide, by decide⟩ (Nat.le_of_ble_eq_true rfl) (ax_dec2 (i := .invokestatic 160) (n := 3) ok_X10_tilt rfl) (fun r M' hq => ?_)
  obtain ⟨rfl, rfl⟩ := hq
  change ax_J _ _ _ _ _ _ _ _ _ 4 [some (.inr (.inr (some (1, 0)))), some (.inl b), none, none, none] [.inl (bI (0 ≤ b ∧ b ≤ 200))] (P, g, r0, n)
  refine aj_if_ne (tgt := 10) (ax_dec2 (i := .ifCond .ne 6) (n := 3) ok_X10_tilt rfl) (by decide) (fun c1 => ?_) (fun c1 => ?_)
  · replace c1 := bI_n0 c1
    refine aj_run (C := True) (pc' := 12) (la' := [some (.inr (.inr (some (1, 0)))), some (.inl b), none, none, none]) (st' := [.inl b, .inr (.inr (some (1, 0)))]) (M' := (P, g, r0, n)) ok_X10_tilt true 2 rfl trivial ?_
    refine aj_callV (av := [.inl b]) (st := []) (f := 1) (o := 0) (ci := 10) cal_X10_goTo lk_10_142 ins_X10_goTo rfl sel_X10_goTo rfl (fun c9 h9 _ => by simpa [ax_ok] using h9) (cp_goTo b _ _ _ _ h hs hm (by omega)) ⟨by decide, by decide, by decide, by decide⟩ (Nat.le_of_ble_eq_true rfl) (ax_dec2 (i := .invokevirtual 142) (n := 3) ok_X10_tilt rfl) (fun r M' hq => ?_)
    obtain ⟨rfl, g3, rfl, sm3, fr3⟩ := hq
    have hd3 : cDy g3 h := ⟨cSm_mz sm3, cCa_g fr3 hca⟩
    have tw3 := cFr_TG fr3
    have hD3 : ∀ a, 0 ≤ a → a < h 50 0 2 → cD1 g3 (gT h b) a := fun a z1 z2 => sm3.1.1 a z1 (by rw [it_sz, beg_sz]; exact z2)
    have hs31 : g3 2 0 1 = g 2 0 1 := fr3 2 0 1 (by unfold TG; omega)
    change ax_J _ _ _ _ _ _ _ _ _ 15 [some (.inr (.inr (some (1, 0)))), some (.inl b), none, none, none] [] (P, g3, r0, n)
    refine aj_run (C := True) (pc' := 19) (la' := [some (.inr (.inr (some (1, 0)))), some (.inl b), some (.inl 0), some (.inl 0), none]) (st' := []) (M' := (P, g3, r0, n)) ok_X10_tilt true 4 rfl trivial ?_
    refine aj_cast (congrArg (fun (z9 : Int) => ([some (.inr (.inr (some (1, 0)))), some (.inl b), some (.inl z9), some (.inl 0), none] : List (Option ax_V))) (show 0 = wTil (gT h b) 0 from by rfl)) rfl rfl ?_
    refine aj_forget (la' := [some (.inr (.inr (some (1, 0)))), some (.inl b), some (.inl (wTil (gT h b) 0)), some (.inl 0), none]) (by simp [ax_fg]) ?_
    refine aj_loop (σ := (Int)) (fun xL => 0 ≤ xL ∧ xL ≤ g 2 0 1) (fun xL => (g 2 0 1 - xL).toNat) (fun xL => [some (.inr (.inr (some (1, 0)))), some (.inl b), some (.inl (wTil (gT h b) xL)), some (.inl xL), none]) (fun xL => []) (fun xL => (P, g3, r0, n)) ?_ (0) ?_
    rotate_left
    · (try dsimp only); omega
    rintro a hI ih19
    try dsimp only at hI ih19
    obtain ⟨a1, a2⟩ := hI
    change ax_J _ _ _ _ _ _ _ _ _ 19 [some (.inr (.inr (some (1, 0)))), some (.inl b), some (.inl (wTil (gT h b) a)), some (.inl a), none] [] (P, g3, r0, n)
    refine aj_run (C := True) (pc' := 21) (la' := [some (.inr (.inr (some (1, 0)))), some (.inl b), some (.inl (wTil (gT h b) a)), some (.inl a), none]) (st' := [.inr (.inr (some (1, 0))), .inl a]) (M' := (P, g3, r0, n)) ok_X10_tilt true 2 rfl trivial ?_
    refine aj_getR (f := 1) (k := 0) (g := 2) (o := 0) (u := 0) (ax_lk_ok (q := (1, 0)) rfl) rfl rfl hs.2.2.2.1 hs.2.2.2.2 (ax_dec2 (i := .getfield 10) (n := 3) ok_X10_tilt rfl) ?_
    refine aj_run (C := True) (pc' := 27) (la' := [some (.inr (.inr (some (1, 0)))), some (.inl b), some (.inl (wTil (gT h b) a)), some (.inl a), none]) (st' := [.inl (g3 2 0 1), .inl a]) (M' := (P, g3, r0, n)) ok_X10_tilt true 1 rfl trivial ?_
    refine aj_icmp_ge (tgt := 79) (ax_dec2 (i := .if_icmp .ge 52) (n := 3) ok_X10_tilt rfl) (by decide) (fun c2 => ?_) (fun c2 => ?_)
    · refine aj_run (C := True) (pc' := 80) (la' := [some (.inr (.inr (some (1, 0)))), some (.inl b), some (.inl (wTil (gT h b) a)), some (.inl a), none]) (st' := [.inl (wTil (gT h b) a)]) (M' := (P, g3, r0, n)) ok_X10_tilt true 1 rfl trivial ?_
      refine aj_ret (r := some (.inl (wTil (gT h b) a))) (ax_dec2 (i := .ireturn) (n := 1) ok_X10_tilt rfl) ⟨?_, ?_, by decide, by decide⟩ rfl
      · exact ⟨ax_si (by unfold fTil; rw [if_pos (by omega), ← hxz, show g 2 0 1 = a by omega]), g3, rfl, hd3, tw3⟩
      · exact ax_ro_i
    · have hah : a < h 50 0 2 := by omega
      obtain ⟨d2, d3, d33, d4⟩ := hD3 a a1 hah
      obtain ⟨e0, e1, e2, e3, e4⟩ := hPs.2 a a1 hah
      have t3 := fr3 500 a 3 (by unfold TG; omega)
      have t22 := fr3 2 0 2 (by unfold TG; omega)
      have hst := hOs.2.2.2.2.2.2 a a1 hah
      have hts := wTil_s (G := gT h b) a1
      rw [gT_tr.1, gT_tr.2.1, gT_tr.2.2] at hts
      have hww := wWei_in hst.1 hst.2.2.2.2
      have hwe : wWeighs (kOf (n 5 a)) (g3 500 a 3) = wWeighs (h 103 0 a) (h 107 0 a) := by rw [e4, t3, e3]
      have hof : g3 5 a 2 = 0 → ¬ 0 ≤ gT h b 129 0 a := fun z => by rw [d2] at z; exact bI_e0 z
      have hon : g3 5 a 2 ≠ 0 → 0 ≤ gT h b 129 0 a := fun z => by rw [d2] at z; exact bI_n0 z
      refine aj_run (C := True) (pc' := 31) (la' := [some (.inr (.inr (some (1, 0)))), some (.inl b), some (.inl (wTil (gT h b) a)), some (.inl a), none]) (st' := [.inr (.inr (some (1, 0)))]) (M' := (P, g3, r0, n)) ok_X10_tilt true 1 rfl trivial ?_
      refine aj_getR (f := 1) (k := 0) (g := 2) (o := 0) (u := 0) (ax_lk_ok (q := (1, 0)) rfl) rfl rfl hs.2.2.2.1 hs.2.2.2.2 (ax_dec2 (i := .getfield 10) (n := 3) ok_X10_tilt rfl) ?_
      refine aj_run (C := True) (pc' := 38) (la' := [some (.inr (.inr (some (1, 0)))), some (.inl b), some (.inl (wTil (gT h b) a)), some (.inl a), none]) (st' := [.inl a, .inr (.inr (some (200, 0)))]) (M' := (P, g3, r0, n)) ok_X10_tilt true 2 rfl trivial ?_
      refine aj_aald (f := 200) (g := 5) (o := 0) (i := a) (u := a) (E := "AntsTurn$Ant") rfl rfl rfl ⟨by omega, by have z9 := hAs.1.1; show a < n 200 0; omega⟩ (hAs.2 a (by omega) (by omega)).1.1 (hAs.2 a (by omega) (by omega)).1.2 (ax_dec2 (i := .aaload) (n := 1) ok_X10_tilt rfl) ?_
      refine aj_run (C := True) (pc' := 46) (la' := [some (.inr (.inr (some (1, 0)))), some (.inl b), some (.inl (wTil (gT h b) a)), some (.inl a), some (.inr (.inr (some (5, a))))]) (st' := [.inl (g3 5 a 2)]) (M' := (P, g3, r0, n)) ok_X10_tilt true 3 rfl trivial ?_
      refine aj_if_eq (tgt := 73) (ax_dec2 (i := .ifCond .eq 27) (n := 3) ok_X10_tilt rfl) (by decide) (fun c3 => ?_) (fun c3 => ?_)
      · refine aj_run (C := (-2147483648 ≤ a + 1 ∧ a + 1 ≤ 2147483647) ∧ True) (pc' := 19) (la' := [some (.inr (.inr (some (1, 0)))), some (.inl b), some (.inl (wTil (gT h b) a)), some (.inl (a + 1)), some (.inr (.inr (some (5, a))))]) (st' := []) (M' := (P, g3, r0, n)) ok_X10_tilt true 2 rfl (by refine ⟨?_, trivial⟩ <;> (omega)) ?_
        refine aj_cast (congrArg (fun (z9 : Int) => ([some (.inr (.inr (some (1, 0)))), some (.inl b), some (.inl z9), some (.inl (a + 1)), some (.inr (.inr (some (5, a))))] : List (Option ax_V))) (show (wTil (gT h b) a) = wTil (gT h b) (a + 1) from by (rw [hts]; first | rw [if_pos hon9] | rw [if_neg (hof (by omega))]))) rfl rfl ?_
        refine aj_forget (la' := [some (.inr (.inr (some (1, 0)))), some (.inl b), some (.inl (wTil (gT h b) (a + 1))), some (.inl (a + 1)), none]) (by simp [ax_fg]) ?_
        refine ih19 (a + 1) ?_ ?_
        · (try dsimp only); omega
        · omega
      · refine aj_run (C := True) (pc' := 52) (la' := [some (.inr (.inr (some (1, 0)))), some (.inl b), some (.inl (wTil (gT h b) a)), some (.inl a), some (.inr (.inr (some (5, a))))]) (st' := [.inr (.inr (some (5, a))), .inl (wTil (gT h b) a)]) (M' := (P, g3, r0, n)) ok_X10_tilt true 2 rfl trivial ?_
        refine aj_d_weighs lk_10_128 (hAs.2 a (by omega) (by omega)).2.2 (hAs.2 a (by omega) (by omega)).2.1.1 (by show 0 ≤ g3 500 a 3 ∧ g3 500 a 3 ≤ 9; omega) ⟨by decide, by decide, by decide, by decide⟩ (Nat.le_of_ble_eq_true rfl) (ax_dec2 (i := .invokevirtual 128) (n := 3) ok_X10_tilt rfl) ?_
        change ax_J _ _ _ _ _ _ _ _ _ 55 [some (.inr (.inr (some (1, 0)))), some (.inl b), some (.inl (wTil (gT h b) a)), some (.inl a), some (.inr (.inr (some (5, a))))] [.inl (wWeighs (kOf (n 5 a)) (g3 500 a 3)), .inl (wTil (gT h b) a)] (P, g3, r0, n)
        refine aj_run (C := True) (pc' := 56) (la' := [some (.inr (.inr (some (1, 0)))), some (.inl b), some (.inl (wTil (gT h b) a)), some (.inl a), some (.inr (.inr (some (5, a))))]) (st' := [.inr (.inr (some (1, 0))), .inl (wWeighs (kOf (n 5 a)) (g3 500 a 3)), .inl (wTil (gT h b) a)]) (M' := (P, g3, r0, n)) ok_X10_tilt true 1 rfl trivial ?_
        refine aj_getR (f := 1) (k := 0) (g := 2) (o := 0) (u := 0) (ax_lk_ok (q := (1, 0)) rfl) rfl rfl hs.2.2.2.1 hs.2.2.2.2 (ax_dec2 (i := .getfield 10) (n := 3) ok_X10_tilt rfl) ?_
        refine aj_run (C := True) (pc' := 67) (la' := [some (.inr (.inr (some (1, 0)))), some (.inl b), some (.inl (wTil (gT h b) a)), some (.inl a), some (.inr (.inr (some (5, a))))]) (st' := [.inl (g3 5 a 3), .inl (g3 2 0 2), .inl (wWeighs (kOf (n 5 a)) (g3 500 a 3)), .inl (wTil (gT h b) a)]) (M' := (P, g3, r0, n)) ok_X10_tilt true 3 rfl trivial ?_
        refine aj_callS (av := [.inl (g3 2 0 2), .inl (g3 5 a 3)]) (st := [.inl (wWeighs (kOf (n 5 a)) (g3 500 a 3)), .inl (wTil (gT h b) a)]) cal_J6_compare_7cf53 lk_10_188 stc_J6_compare_7cf53 (cp_compare (g3 2 0 2) (g3 5 a 3) _ _ _ _) ⟨by decide, by decide, by decide, by decide⟩ (Nat.le_of_ble_eq_true rfl) (ax_dec2 (i := .invokestatic 188) (n := 3) ok_X10_tilt rfl) (fun r M' hq => ?_)
        obtain ⟨rfl, rfl⟩ := hq
        change ax_J _ _ _ _ _ _ _ _ _ 70 [some (.inr (.inr (some (1, 0)))), some (.inl b), some (.inl (wTil (gT h b) a)), some (.inl a), some (.inr (.inr (some (5, a))))] [.inl (if g3 2 0 2 < g3 5 a 3 then -1 else if g3 2 0 2 = g3 5 a 3 then 0 else 1), .inl (wWeighs (kOf (n 5 a)) (g3 500 a 3)), .inl (wTil (gT h b) a)] (P, g3, r0, n)
        have hon9 := hon (by omega)
        have hd39 := d3 hon9
        have hpr : Int.bmod ((wWeighs (kOf (n 5 a)) (g3 500 a 3)) * (if g3 2 0 2 < g3 5 a 3 then -1 else if g3 2 0 2 = g3 5 a 3 then 0 else 1)) 4294967296 = if gT h b 129 0 a < h 50 0 0 then wWeighs (h 103 0 a) (h 107 0 a) else if h 50 0 0 < gT h b 129 0 a then Int.bmod (-wWeighs (h 103 0 a) (h 107 0 a)) 4294967296 else 0 := by
          rw [hwe]
          generalize wWeighs (h 103 0 a) (h 107 0 a) = wv9 at hww ⊢
          rcases Int.lt_trichotomy (gT h b 129 0 a) (h 50 0 0) with y | y | y
          · rw [if_neg (by omega), if_neg (by omega), if_pos y, Int.mul_one, ax_bm (by omega)]
          · rw [if_neg (by omega), if_pos (by omega), if_neg (by omega), if_neg (by omega), Int.mul_zero]; rfl
          · rw [if_pos (by omega), if_neg (by omega), if_pos y, show wv9 * -1 = -wv9 by omega]
        refine aj_run (C := True) (pc' := 71) (la' := [some (.inr (.inr (some (1, 0)))), some (.inl b), some (.inl (wTil (gT h b) a)), some (.inl a), some (.inr (.inr (some (5, a))))]) (st' := [.inl (Int.bmod ((wWeighs (kOf (n 5 a)) (g3 500 a 3)) * (if g3 2 0 2 < g3 5 a 3 then -1 else if g3 2 0 2 = g3 5 a 3 then 0 else 1)) 4294967296), .inl (wTil (gT h b) a)]) (M' := (P, g3, r0, n)) ok_X10_tilt false 1 rfl trivial ?_
        refine aj_cast rfl (congrArg (fun (z9 : Int) => ([.inl z9, .inl (wTil (gT h b) a)] : List ax_V)) (show Int.bmod ((wWeighs (kOf (n 5 a)) (g3 500 a 3)) * (if g3 2 0 2 < g3 5 a 3 then -1 else if g3 2 0 2 = g3 5 a 3 then 0 else 1)) 4294967296 = (if gT h b 129 0 a < h 50 0 0 then wWeighs (h 103 0 a) (h 107 0 a) else if h 50 0 0 < gT h b 129 0 a then Int.bmod (-wWeighs (h 103 0 a) (h 107 0 a)) 4294967296 else 0) from hpr)) rfl ?_
        refine aj_run (C := True) (pc' := 72) (la' := [some (.inr (.inr (some (1, 0)))), some (.inl b), some (.inl (wTil (gT h b) a)), some (.inl a), some (.inr (.inr (some (5, a))))]) (st' := [.inl (Int.bmod ((wTil (gT h b) a) + (if gT h b 129 0 a < h 50 0 0 then wWeighs (h 103 0 a) (h 107 0 a) else if h 50 0 0 < gT h b 129 0 a then Int.bmod (-wWeighs (h 103 0 a) (h 107 0 a)) 4294967296 else 0)) 4294967296)]) (M' := (P, g3, r0, n)) ok_X10_tilt false 1 rfl trivial ?_
        refine aj_run (C := (-2147483648 ≤ a + 1 ∧ a + 1 ≤ 2147483647) ∧ True) (pc' := 19) (la' := [some (.inr (.inr (some (1, 0)))), some (.inl b), some (.inl (Int.bmod ((wTil (gT h b) a) + (if gT h b 129 0 a < h 50 0 0 then wWeighs (h 103 0 a) (h 107 0 a) else if h 50 0 0 < gT h b 129 0 a then Int.bmod (-wWeighs (h 103 0 a) (h 107 0 a)) 4294967296 else 0)) 4294967296)), some (.inl (a + 1)), some (.inr (.inr (some (5, a))))]) (st' := []) (M' := (P, g3, r0, n)) ok_X10_tilt true 3 rfl (by refine ⟨?_, trivial⟩ <;> (omega)) ?_
        refine aj_cast (congrArg (fun (z9 : Int) => ([some (.inr (.inr (some (1, 0)))), some (.inl b), some (.inl z9), some (.inl (a + 1)), some (.inr (.inr (some (5, a))))] : List (Option ax_V))) (show (Int.bmod ((wTil (gT h b) a) + (if gT h b 129 0 a < h 50 0 0 then wWeighs (h 103 0 a) (h 107 0 a) else if h 50 0 0 < gT h b 129 0 a then Int.bmod (-wWeighs (h 103 0 a) (h 107 0 a)) 4294967296 else 0)) 4294967296) = wTil (gT h b) (a + 1) from by (rw [hts]; first | rw [if_pos hon9] | rw [if_neg (hof (by omega))]))) rfl rfl ?_
        refine aj_forget (la' := [some (.inr (.inr (some (1, 0)))), some (.inl b), some (.inl (wTil (gT h b) (a + 1))), some (.inl (a + 1)), none]) (by simp [ax_fg]) ?_
        refine ih19 (a + 1) ?_ ?_
        · (try dsimp only); omega
        · omega
  · replace c1 := bI_e0 c1
    refine aj_run (C := True) (pc' := 9) (la' := [some (.inr (.inr (some (1, 0)))), some (.inl b), none, none, none]) (st' := [.inl (-100000)]) (M' := (P, g, r0, n)) ok_X10_tilt true 1 rfl trivial ?_
    refine aj_ret (r := some (.inl (-100000))) (ax_dec2 (i := .ireturn) (n := 1) ok_X10_tilt rfl) ⟨?_, ?_, by decide, by decide⟩ rfl
    · first | (exfalso; omega) | exact ⟨ax_si (by unfold fTil; (repeat first | rw [if_pos (by omega)] | rw [if_neg (by omega)] | rw [bI_t (by omega)] | rw [bI_f (by omega)]); try first | rfl | omega), g, rfl, hd, fun _ _ _ _ => rfl⟩
    · exact ax_ro_i

