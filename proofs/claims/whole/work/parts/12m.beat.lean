/-! ===== the class's walk and the reference's: what stands behind each beat ===== -/
def wOt (h : Nat → Int → Int → Int) : Prop := ∀ a, 0 ≤ a → a < h 50 0 2 → 0 ≤ h 132 0 a ∧ h 132 0 a ≤ 2 * (h 50 0 39 + 1)
def wOc (h : Nat → Int → Int → Int) : Prop := h 50 0 41 = -1 ∨ (0 ≤ h 50 0 41 ∧ h 50 0 41 < h 50 0 2)
def wOa (h : Nat → Int → Int → Int) : Prop := wOs h ∧ wOd h ∧ wOx h ∧ wOt h ∧ wOc h
theorem step_sz {h : Nat → Int → Int → Int} : wStep h 50 0 2 = h 50 0 2 := step_ss.2 _ _ (by omega)
theorem step_v {h : Nat → Int → Int → Int} : wStep h 50 0 40 = wPrO (wSt1 h) (h 50 0 2) ∧ wStep h 50 0 41 = wNxO (wSt1 h) (h 50 0 2) ∧ wStep h 50 0 42 = h 50 0 42 := by
  unfold wStep
  refine ⟨?_, ?_, ?_⟩
  · rw [en_o rfl (by decide) (by decide), mt_40, st1_sz]
  · rw [en_o rfl (by decide) (by decide), mt_41, st1_sz]
  · rw [en_o rfl (by decide) (by decide), mt_o (by decide) (fun _ => by decide), st1_o (by decide) (fun _ => by decide)]
theorem step_ot {h : Nat → Int → Int → Int} (hs : wOs h) (hd : wOd h) (ht : wOt h) (hb : h 50 0 39 ≤ 1000) : wOt (wStep h) := by
  intro a h1 h3
  rw [step_sz] at h3
  have eb := (step_od hs hd).2
  have hd1 := hd.1
  obtain ⟨t1, t2⟩ := ht a h1 h3
  have ev : wStep h 132 0 a = _ := en_V (g := wMeet (wSt1 h)) (f := 132) rfl h1 (by rw [mt_sz, st1_sz]; exact h3)
  have em := mt_132 (g := wSt1 h) h1 (by rw [st1_sz]; exact h3)
  have e1 : wSt1 h 132 0 a = h 132 0 a := st1_o (by decide) (fun z => absurd z (by decide))
  have hbw := bI_01 (p := wWil (wSt1 h) a ≠ 0)
  have hm : 0 ≤ wMeet (wSt1 h) 132 0 a ∧ wMeet (wSt1 h) 132 0 a ≤ 2 * (h 50 0 39 + 1) + 1 := by
    rw [em, e1]
    split
    · rw [ax_bm (by omega)]; omega
    · omega
  rw [ev, eb]
  split
  · split
    · rw [if_neg (by decide), if_pos rfl, ax_bm (by omega)]; omega
    · rw [if_neg (by decide), if_neg (by decide), if_neg (by decide)]; omega
  · omega
theorem step_oc {h : Nat → Int → Int → Int} (hs : wOs h) (hc : wOc h) : wOc (wStep h) := by
  have h2 := hs.2.2.1
  unfold wOc at *
  rw [step_sz, step_v.2.1, wNxO_v (n := h 50 0 2) (by omega) st1_sz]
  have e : wSt1 h 50 0 41 = h 50 0 41 := st1_o (by decide) (fun _ => by decide)
  rw [e]
  split
  · have := (mS_A (q := cnd (wSt1 h) (h 50 0 41)) (m := h 50 0 2) (by omega) (by omega)).2.2.1
    omega
  · exact hc
theorem step_oa {h : Nat → Int → Int → Int} (ho : wOa h) (hb : h 50 0 39 ≤ 1000) : wOa (wStep h) ∧ wStep h 50 0 39 = h 50 0 39 + 1 := by
  obtain ⟨hs, hd, hx, ht, hc⟩ := ho
  obtain ⟨z1, z2⟩ := step_od hs hd
  exact ⟨⟨wOs_s step_ss hs, z1, step_ox hs hd hx hb, step_ot hs hd ht hb, step_oc hs hc⟩, z2⟩
theorem it_oa {h : Nat → Int → Int → Int} (ho : wOa h) (hb : h 50 0 39 = -1) : ∀ k : Nat, k ≤ 1001 → wOa (wIt h k) ∧ wIt h k 50 0 39 = (k : Int) - 1
  | 0, _ => ⟨ho, by show h 50 0 39 = ((0 : Nat) : Int) - 1; omega⟩
  | k + 1, hk => by
    obtain ⟨z1, z2⟩ := it_oa ho hb k (by omega)
    obtain ⟨y1, y2⟩ := step_oa z1 (by omega)
    exact ⟨y1, by show wStep (wIt h k) 50 0 39 = _; rw [y2, z2]; omega⟩
theorem beg_oa {h : Nat → Int → Int → Int} (hs : wOs h) {ways : Int} : wOa (wBegin h ways) := by
  have v := beg_v (g := h) (ways := ways)
  have e2 : wBegin h ways 50 0 2 = h 50 0 2 := beg_ss.2 _ _ (by omega)
  refine ⟨wOs_s beg_ss hs, beg_od hs, beg_ox hs, fun a h1 h3 => ?_, Or.inl v.2.2.1⟩
  rw [e2] at h3
  rw [beg_r (by decide) h1 h3, v.1]
  unfold wBegA
  rw [if_neg (by decide), if_neg (by decide)]
  decide
theorem oa_u41 {h : Nat → Int → Int → Int} {x : Int} (ho : wOa h) (hx : 0 ≤ x ∧ x < h 50 0 2) : wOa (ax_u3 h 50 0 41 x) := by
  obtain ⟨hs, hd, hX, ht, hc⟩ := ho
  have e : ∀ f o j, ¬ (f = 50 ∧ o = 0 ∧ j = 41) → ax_u3 h 50 0 41 x f o j = h f o j := fun f o j w => ax_u3_n w
  refine ⟨wOs_u (by decide) hs, ?_, ?_, ?_, Or.inr ⟨by rw [ax_u3_s]; exact hx.1, by rw [ax_u3_s, e 50 0 2 (by decide)]; exact hx.2⟩⟩
  · exact hd
  · exact hX
  · exact ht
theorem oa_u42 {h : Nat → Int → Int → Int} {x : Int} (ho : wOa h) : wOa (ax_u3 h 50 0 42 x) := by
  obtain ⟨hs, hd, hX, ht, hc⟩ := ho
  exact ⟨wOs_u (by decide) hs, hd, hX, ht, hc⟩
/-- how many are not off yet -/
def cSt (h : Nat → Int → Int → Int) : Int := cSum (fun a => bI (h 135 0 a < 0)) (h 50 0 2)
theorem cSt_in {h : Nat → Int → Int → Int} (h2 : 0 ≤ h 50 0 2) : 0 ≤ cSt h ∧ cSt h ≤ h 50 0 2 := by
  have := cSum_in (f := fun a => bI (h 135 0 a < 0)) (c := 1) (fun a => by have := bI_01 (p := h 135 0 a < 0); omega) (h 50 0 2).toNat
  rw [show (((h 50 0 2).toNat : Nat) : Int) = h 50 0 2 by omega] at this
  unfold cSt
  omega
theorem cSum_A {f f' : Int → Int} {m : Int} (hm : 0 ≤ m) : cSum (fun a => f a + f' a) m = cSum f m + cSum f' m := by
  have := cSum_a (f := f) (f' := f') m.toNat
  rw [show ((m.toNat : Nat) : Int) = m by omega] at this
  exact this
/-- a sum of nothing -/
theorem cSum_z {f : Int → Int} (h : ∀ a, 0 ≤ f a) : ∀ m : Nat, cSum f m = 0 → ∀ a : Int, 0 ≤ a → a < m → f a = 0
  | 0, _, a, h1, h2 => by omega
  | m + 1, hz, a, h1, h2 => by
    rw [show ((m + 1 : Nat) : Int) = (m : Int) + 1 by omega, cSum_s (by omega)] at hz
    have hm := h m
    have hp : ∀ k : Nat, 0 ≤ cSum f k := by
      intro k
      induction k with
      | zero => exact Int.le_refl _
      | succ k ih => rw [show ((k + 1 : Nat) : Int) = (k : Int) + 1 by omega, cSum_s (by omega)]; have := h k; omega
    have := hp m
    by_cases e : a = m
    · rw [e]; omega
    · exact cSum_z h m (by omega) a h1 (by omega)
theorem cSt_z {h : Nat → Int → Int → Int} (h2 : 0 ≤ h 50 0 2) (hz : cSt h = 0) : ∀ a, 0 ≤ a → a < h 50 0 2 → 0 ≤ h 135 0 a := by
  intro a h1 h3
  have := cSum_z (f := fun a => bI (h 135 0 a < 0)) (fun a => by have := bI_01 (p := h 135 0 a < 0); omega) (h 50 0 2).toNat (by rw [show (((h 50 0 2).toNat : Nat) : Int) = h 50 0 2 by omega]; exact hz) a h1 (by omega)
  have := bI_e0 this
  omega
theorem cSt_step {h : Nat → Int → Int → Int} (hs : wOs h) (hd : wOd h) (hx : wOx h) : cSt (wStep h) = cSt h - cLv (wMeet (wSt1 h)) (h 50 0 2) := by
  have h2 := hs.2.2.1
  have hk := hs.1
  have hd1 := hd.1
  unfold cSt cLv
  rw [step_sz]
  rw [cSum_c (m := h 50 0 2) (f := fun a => bI (h 135 0 a < 0)) (f' := fun a => bI (wStep h 135 0 a < 0) + bI (wAE (wMeet (wSt1 h)) a ≠ 0 ∧ wWb (wMeet (wSt1 h)) a = 0)) (fun a h1 h3 => ?_), cSum_A (by omega)]
  · omega
  · obtain ⟨r1, r2, r3, r4, r5, r6, r7, r8⟩ := st_rd h1 h3
    have ev : wStep h 135 0 a = _ := en_V (g := wMeet (wSt1 h)) (f := 135) rfl h1 (by rw [r8]; exact h3)
    have hA := wAE_v (g := wMeet (wSt1 h)) (a := a)
    rw [r1, r5, r6] at hA
    rw [r2, r7] at ev
    obtain ⟨x1, x2, x3, x4, x5⟩ := hx.2 a h1 h3
    by_cases q : wAE (wMeet (wSt1 h)) a ≠ 0
    · have q' := hA.mp q
      have hn : h 135 0 a = -1 := by
        by_cases c : 0 ≤ h 129 0 a
        · exact (x3 c).1
        · by_cases c2 : h 135 0 a = -1
          · exact c2
          · exfalso
            have y := x2 (by omega)
            have : nW h a = h 129 0 a := by
              unfold nW
              rw [if_neg (by omega), if_pos (by omega)]
            omega
      rw [if_pos q] at ev
      by_cases q2 : wWb (wMeet (wSt1 h)) a ≠ 0
      · rw [if_pos q2, if_neg (by decide), if_neg (by decide), if_neg (by decide)] at ev
        rw [ev, bI_f (p := _ ∧ _) (fun z => q2 z.2)]
        omega
      · rw [if_neg q2, if_pos rfl] at ev
        have q3 : wWb (wMeet (wSt1 h)) a = 0 := by omega
        rw [ev, hn, bI_t (p := _ ∧ _) ⟨q, q3⟩, bI_f (p := h 50 0 39 + 1 < 0) (by omega), bI_t (p := (-1 : Int) < 0) (by decide)]
        omega
    · rw [if_neg q] at ev
      rw [ev, bI_f (p := _ ∧ _) (fun z => q z.1)]
      omega
/-- once all are off nothing changes any more -/
theorem off_step {h : Nat → Int → Int → Int} (ho : wOa h) (hb : h 50 0 39 ≤ 1000) (hz : cSt h = 0) : (∀ a, 0 ≤ a → a < h 50 0 2 → ∀ f, 129 ≤ f → f ≤ 136 → wStep h f 0 a = h f 0 a) ∧ wStep h 50 0 40 = h 50 0 40 ∧ wStep h 50 0 41 = h 50 0 41 ∧ wAny (wSt1 h) (h 50 0 2) = 0 := by
  obtain ⟨hs, hd, hx, ht, hc⟩ := ho
  have h2 := hs.2.2.1
  have hk := hs.1
  have hd1 := hd.1
  have hoff := cSt_z (by omega) hz
  have hp1 : ∀ a, 0 ≤ a → a < h 50 0 2 → h 129 0 a = -1 ∧ nW h a = -1 := fun a h1 h3 => by
    obtain ⟨x1, x2, x3, x4, x5⟩ := hx.2 a h1 h3
    have y := x2 (hoff a h1 h3)
    refine ⟨y.1, ?_⟩
    unfold nW
    rw [if_neg (by omega), if_pos (by omega)]
    exact y.1
  have e129 : ∀ a, 0 ≤ a → a < h 50 0 2 → wSt1 h 129 0 a = -1 := fun a h1 h3 => by rw [st1_129 h1 h3]; exact (hp1 a h1 h3).2
  have hmt : ∀ a k, 0 ≤ a → a < h 50 0 2 → 0 ≤ k → wMt (wSt1 h) a k = 0 := fun a k h1 h3 h4 => by
    by_cases c : wMt (wSt1 h) a k = 0
    · exact c
    · obtain ⟨b, b1, b2, b3⟩ := (wMt_X h4).mp c
      have := b3.1
      rw [e129 a h1 h3] at this
      omega
  have hwAE : ∀ a, 0 ≤ a → a < h 50 0 2 → ¬ wAE (wMeet (wSt1 h)) a ≠ 0 := fun a h1 h3 c => by
    have z := (wAE_v.mp c).2
    obtain ⟨r1, r2, r3, r4, r5, r6, r7, r8⟩ := st_rd h1 h3
    rw [r1, r5, (hp1 a h1 h3).2] at z
    omega
  refine ⟨fun a h1 h3 f f1 f2 => ?_, ?_, ?_, ?_⟩
  · have hm3 : a < wSt1 h 50 0 2 := by rw [st1_sz]; exact h3
    have hme : wStep h f 0 a = wMeet (wSt1 h) f 0 a := by
      by_cases c : wE2C f = true
      · have ev : wStep h f 0 a = _ := en_V (g := wMeet (wSt1 h)) c h1 (by rw [mt_sz, st1_sz]; exact h3)
        rw [ev, if_neg (hwAE a h1 h3)]
      · unfold wStep
        exact en_o (by simpa using c) (by omega) (by omega)
    have hz' : ¬ wMt (wSt1 h) a (wSt1 h 50 0 2) ≠ 0 := fun z => z (hmt a _ h1 h3 (by rw [st1_sz]; omega))
    have e1 : f ≠ 129 → wSt1 h f 0 a = h f 0 a := fun z => st1_o z (fun y => absurd y (by omega))
    rw [hme]
    by_cases c : f = 130 ∨ f = 131 ∨ f = 132 ∨ f = 134
    · rcases c with rfl | rfl | rfl | rfl
      · rw [mt_130 h1 hm3, if_neg (fun z => hz' z.1), e1 (by decide)]
      · rw [mt_131 h1 hm3, if_neg hz', e1 (by decide)]
      · rw [mt_132 h1 hm3, if_neg hz', e1 (by decide)]
      · rw [mt_134 h1 hm3, if_neg hz', e1 (by decide)]
    · rw [mt_o (by omega) (fun y => absurd y (by omega))]
      by_cases c2 : f = 129
      · rw [c2, e129 a h1 h3, (hp1 a h1 h3).1]
      · exact e1 c2
  · have e40 : wSt1 h 50 0 40 = h 50 0 40 := st1_o (by decide) (fun _ => by decide)
    have hp := hx.1
    rw [step_v.1, wPrO_v (by rw [st1_sz]; omega) (by rw [st1_sz]; omega) (by rw [e40]; omega) (by omega) (by omega), e40]
    have : cPr (wSt1 h) (wSt1 h 50 0 2) (h 50 0 2) = 0 := by
      unfold cPr
      rw [cSum_c (m := h 50 0 2) (f' := fun _ => 0) (fun a h1 h3 => ?_)]
      · suffices H : ∀ m : Nat, cSum (fun _ => (0 : Int)) m = 0 by
          have := H (h 50 0 2).toNat
          rw [show (((h 50 0 2).toNat : Nat) : Int) = h 50 0 2 by omega] at this
          exact this
        intro m
        induction m with
        | zero => rfl
        | succ m ih => rw [show ((m + 1 : Nat) : Int) = (m : Int) + 1 by omega, cSum_s (by omega), ih]; rfl
      · rw [cSum_c (f' := fun _ => 0) (fun b b1 b2 => bI_f (fun z => by have := z.1.1; rw [e129 a h1 h3] at this; omega))]
        suffices H : ∀ m : Nat, cSum (fun _ => (0 : Int)) m = 0 by
          have := H (wSt1 h 50 0 2).toNat
          rw [show (((wSt1 h 50 0 2).toNat : Nat) : Int) = wSt1 h 50 0 2 by rw [st1_sz]; omega] at this
          exact this
        intro m
        induction m with
        | zero => rfl
        | succ m ih => rw [show ((m + 1 : Nat) : Int) = (m : Int) + 1 by omega, cSum_s (by omega), ih]; rfl
    omega
  · have e41 : wSt1 h 50 0 41 = h 50 0 41 := st1_o (by decide) (fun _ => by decide)
    rw [step_v.2.1, wNxO_v (n := h 50 0 2) (by omega) st1_sz, e41]
    rw [if_neg]
    rintro ⟨c1, c2⟩
    have := ((cF_V (q := cnd (wSt1 h) (h 50 0 41)) (m := h 50 0 2) (by omega)).1 c2).1
    rw [e129 _ c1.1 c1.2] at this
    omega
  · suffices H : ∀ m : Nat, (m : Int) ≤ h 50 0 2 → wAny (wSt1 h) m = 0 by
      have := H (h 50 0 2).toNat (by omega)
      rw [show (((h 50 0 2).toNat : Nat) : Int) = h 50 0 2 by omega] at this
      exact this
    intro m
    induction m with
    | zero => intro _; rfl
    | succ m ih =>
      intro hm
      rw [show ((m + 1 : Nat) : Int) = (m : Int) + 1 by omega, wAny_s (by omega), ih (by omega), if_neg]
      rintro (c | c)
      · exact c rfl
      · exact c (hmt m _ (by omega) (by omega) (by rw [st1_sz]; omega))
theorem cSt_c {h h' : Nat → Int → Int → Int} (e2 : h' 50 0 2 = h 50 0 2) (e : ∀ a, 0 ≤ a → a < h 50 0 2 → h' 135 0 a = h 135 0 a) : cSt h' = cSt h := by
  unfold cSt
  rw [e2]
  exact cSum_c fun a h1 h3 => by rw [e a h1 h3]
/-- the class's walk g stands where h does -/
def cS3 (g h : Nat → Int → Int → Int) : Prop := (∀ a, 0 ≤ a → a < h 50 0 2 → cD1 g h a) ∧ (g 2 0 5 = h 50 0 41 ∧ g 2 0 6 = h 50 0 40 ∧ g 2 0 8 = cSt h ∧ g 2 0 13 = h 50 0 42) ∧ ∀ p, 0 ≤ p → p ≤ 80 → g 214 0 p = 0 ∧ g 215 0 p = 0
/-- the last beat ahead of the k-th in which any meet -/
def wMi (h : Nat → Int → Int → Int) : Nat → Int
  | 0 => -1
  | k + 1 => if wAny (wSt1 (wIt h k)) (h 50 0 2) ≠ 0 then (k : Int) else wMi h k
def cSm (g hB : Nat → Int → Int → Int) (k : Int) : Prop := cS3 g (wIt hB k.toNat) ∧ g 2 0 7 = wMi hB k.toNat ∧ (0 < g 2 0 8 → g 2 0 12 = k - 1) ∧ (-1 ≤ g 2 0 12 ∧ g 2 0 12 ≤ 1000)
theorem it_sz {h : Nat → Int → Int → Int} {k : Nat} : wIt h k 50 0 2 = h 50 0 2 := (it_ss k).2 _ _ (by omega)
theorem cS3_off {g h : Nat → Int → Int → Int} (ho : wOa h) (hb : h 50 0 39 ≤ 1000) (hz : cSt h = 0) (hS : cS3 g h) : cS3 g (wStep h) := by
  obtain ⟨z1, z2, z3, z4⟩ := off_step ho hb hz
  obtain ⟨s1, ⟨s2, s3, s4, s5⟩, s6⟩ := hS
  refine ⟨fun a h1 h3 => ?_, ⟨by rw [z3]; exact s2, by rw [z2]; exact s3, ?_, by rw [step_v.2.2]; exact s5⟩, s6⟩
  · rw [step_sz] at h3
    have q := z1 a h1 h3
    have := s1 a h1 h3
    unfold cD1 at *
    rw [q 129 (by decide) (by decide), q 130 (by decide) (by decide), q 131 (by decide) (by decide), q 132 (by decide) (by decide), q 133 (by decide) (by decide), q 134 (by decide) (by decide), q 135 (by decide) (by decide), q 136 (by decide) (by decide), step_v.2.2]
    exact this
  · rw [cSt_c step_sz (fun a h1 h3 => z1 a h1 h3 135 (by decide) (by decide))]
    exact s4
/-- once all are off, the walk stands wherever a later beat would be -/
theorem cSm_off {g hB : Nat → Int → Int → Int} (ho : wOa hB) (hb : hB 50 0 39 = -1) {k : Int} (hk : 0 ≤ k) (hz : g 2 0 8 ≤ 0) (hS : cSm g hB k) : ∀ m : Nat, k + m ≤ 1001 → cSm g hB (k + m)
  | 0, _ => by rw [show k + ((0 : Nat) : Int) = k by omega]; exact hS
  | m + 1, hm => by
    obtain ⟨s1, s2, s3, s4⟩ := cSm_off ho hb hk hz hS m (by omega)
    obtain ⟨o1, o2⟩ := it_oa ho hb (k + m).toNat (by omega)
    have hst : cSt (wIt hB (k + m).toNat) = 0 := by
      have := cSt_in (h := wIt hB (k + m).toNat) (by have := o1.1.2.2.1; omega)
      have := s1.2.1.2.2.1
      omega
    have e : (k + ((m + 1 : Nat) : Int)).toNat = (k + m).toNat + 1 := by omega
    unfold cSm
    rw [e]
    refine ⟨cS3_off o1 (by omega) hst s1, ?_, fun z => by omega, s4⟩
    have := (off_step o1 (by omega) hst).2.2.2
    rw [it_sz] at this
    show g 2 0 7 = if wAny (wSt1 (wIt hB (k + m).toNat)) (hB 50 0 2) ≠ 0 then _ else _
    rw [if_neg (fun z => z this)]
    exact s2
theorem cPl_s {g h h' : Nat → Int → Int → Int} {n : Nat → Int → Int} (hss : wSs h' h) (hp : cPl g h n) : cPl g h' n := by
  unfold cPl at *
  rw [hss.2 0 2 (by omega), hss.2 0 0 (by omega), hss.2 0 1 (by omega), hss.1 103 (by decide) (by omega), hss.1 104 (by decide) (by omega), hss.1 105 (by decide) (by omega), hss.1 106 (by decide) (by omega), hss.1 107 (by decide) (by omega)]
  exact hp
theorem cPl_g {g g' h : Nat → Int → Int → Int} {n : Nat → Int → Int} (hg : ∀ j, 1 ≤ j → j ≤ 3 → g' 2 0 j = g 2 0 j) (h5 : ∀ a j, g' 500 a j = g 500 a j) (hp : cPl g h n) : cPl g' h n := by
  unfold cPl at *
  rw [hg 1 (by decide) (by decide), hg 2 (by decide) (by decide), hg 3 (by decide) (by decide)]
  simp only [h5]
  exact hp
