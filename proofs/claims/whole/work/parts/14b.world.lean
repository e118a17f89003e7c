/-! ===== all that stands of the class between calls ===== -/
def cLn (n : Nat → Int → Int) : Prop := n 214 0 = 81 ∧ n 215 0 = 81 ∧ n 216 0 = 6 ∧ n 209 0 = 896 ∧ n 210 0 = 128
def cTop (P : Nat → Int → Prop) (r0 : Nat → Int → Int → Option (Nat × Int)) (n : Nat → Int → Int) (g h : Nat → Int → Int → Int) : Prop := ((r0 1 0 0 = some (2, 0) ∧ P 2 0) ∧ (r0 1 0 1 = some (3, 0) ∧ P 3 0) ∧ n 702 0 = 6) ∧ (g 1 0 4 = h 50 0 10 ∧ g 1 0 5 = h 50 0 11 ∧ r0 2 0 4 = some (6, h 50 0 11)) ∧ ∀ t, 0 ≤ t → t < h 50 0 10 → (r0 702 0 t = some (6, t) ∧ P 6 t) ∧ cRu g n t (fun p nm => wVl h (3 * t + p) nm)
def cIma (g h : Nat → Int → Int → Int) : Prop := (h 50 0 46 = 0 ∧ g 1 0 6 = -1) ∨ (h 50 0 46 = 1 ∧ (g 1 0 6 = h 50 0 47 ∧ g 1 0 7 = h 50 0 48 ∧ g 1 0 8 = h 50 0 49 ∧ g 1 0 9 = h 50 0 50) ∧ ((0 ≤ h 50 0 47 ∧ h 50 0 47 ≤ h 50 0 2) ∧ (2 ≤ h 50 0 48 ∧ h 50 0 48 ≤ 40) ∧ (h 50 0 49 = 0 ∨ h 50 0 49 = 1) ∧ 0 ≤ h 50 0 50 ∧ h 50 0 50 < h 50 0 10) ∧ ∀ a, 0 ≤ a → a < h 50 0 47 → (g 501 a 0 = h 151 0 a ∧ g 501 a 1 = h 152 0 a ∧ g 501 a 2 = h 153 0 a ∧ g 501 a 3 = h 154 0 a) ∧ (1 ≤ h 151 0 a ∧ h 151 0 a ≤ h 50 0 48 - 1) ∧ (h 152 0 a = 0 ∨ h 152 0 a = 1) ∧ (0 ≤ h 153 0 a ∧ h 153 0 a ≤ 20) ∧ 0 ≤ h 154 0 a ∧ h 154 0 a ≤ 9)
def cTap (n : Nat → Int → Int) (g h : Nat → Int → Int → Int) : Prop := (n 302 0 = 160 ∧ n 303 0 = 161 ∧ n 304 0 = 161 ∧ n 305 0 = 161 ∧ n 308 0 = 160 ∧ n 309 0 = 160 ∧ n 310 0 = 160 ∧ n 311 0 = 3) ∧ (g 3 0 0 = h 50 0 9 ∧ 0 ≤ h 50 0 9 ∧ h 50 0 9 ≤ 160) ∧ ∀ i, 0 ≤ i → i < h 50 0 9 → g 302 0 i = h 108 0 i ∧ 0 ≤ h 108 0 i ∧ h 108 0 i ≤ 255
def cWd (P : Nat → Int → Prop) (r0 : Nat → Int → Int → Option (Nat × Int)) (n : Nat → Int → Int) (g h : Nat → Int → Int → Int) : Prop := (cAn P r0 n (g 2 0 1) ∧ cPl g h n ∧ wOs h) ∧ cLn n ∧ cTop P r0 n g h ∧ cDy g h ∧ cShe P r0 n g h ∧ cIma g h ∧ cTap n g h
section CW
variable {P : Nat → Int → Prop} {r0 : Nat → Int → Int → Option (Nat × Int)} {n : Nat → Int → Int} {g g' h h' : Nat → Int → Int → Int}
theorem cWd_sta (hw : cWd P r0 n g h) : cSta P r0 n g h := by
  obtain ⟨w1, w2, ⟨⟨t1, t2, t3⟩, ⟨t4, t5, t6⟩, t7⟩, w4, w5⟩ := hw
  have hr := w1.2.2.2.2.2.2.1
  have := t7 _ hr.1 hr.2
  exact ⟨w1, w2, ⟨⟨t6, this.1.2⟩, this.2⟩, t1⟩
theorem cTop_c (h4 : g' 1 0 4 = g 1 0 4) (h5 : g' 1 0 5 = g 1 0 5) (h6 : ∀ f t j, 600 ≤ f → f ≤ 603 → g' f t j = g f t j) (k10 : h' 50 0 10 = h 50 0 10) (k11 : h' 50 0 11 = h 50 0 11) (kc : ∀ row nm, wVl h' row nm = wVl h row nm) (hs : cTop P r0 n g h) : cTop P r0 n g' h' := by
  obtain ⟨t1, ⟨t4, t5, t6⟩, t7⟩ := hs
  refine ⟨t1, ⟨by rw [h4, k10]; exact t4, by rw [h5, k11]; exact t5, by rw [k11]; exact t6⟩, fun t z1 z2 => ?_⟩
  rw [k10] at z2
  obtain ⟨y1, y2⟩ := t7 t z1 z2
  refine ⟨y1, ?_⟩
  simp only [kc]
  exact cRu_c (fun f j x1 x2 => h6 f t j x1 x2) y2
theorem cIma_c (hg : ∀ j, 6 ≤ j → j ≤ 9 → g' 1 0 j = g 1 0 j) (h5 : ∀ a j, g' 501 a j = g 501 a j) (k : ∀ j, 46 ≤ j → j ≤ 50 → h' 50 0 j = h 50 0 j) (k2 : h 50 0 2 ≤ h' 50 0 2) (k10 : h 50 0 10 ≤ h' 50 0 10) (kt : ∀ f a, 151 ≤ f → f ≤ 154 → h' f 0 a = h f 0 a) (hs : cIma g h) : cIma g' h' := by
  unfold cIma at *
  rw [hg 6 (by decide) (by decide), hg 7 (by decide) (by decide), hg 8 (by decide) (by decide), hg 9 (by decide) (by decide), k 46 (by decide) (by decide), k 47 (by decide) (by decide), k 48 (by decide) (by decide), k 49 (by decide) (by decide), k 50 (by decide) (by decide)]
  rcases hs with s | ⟨s1, s2, s3, s4⟩
  · exact Or.inl s
  · refine Or.inr ⟨s1, s2, by omega, fun a z1 z2 => ?_⟩
    rw [h5, h5, h5, h5, kt 151 a (by decide) (by decide), kt 152 a (by decide) (by decide), kt 153 a (by decide) (by decide), kt 154 a (by decide) (by decide)]
    exact s4 a z1 z2
theorem cTap_c (h0 : g' 3 0 0 = g 3 0 0) (h2 : ∀ i, g' 302 0 i = g 302 0 i) (k9 : h' 50 0 9 = h 50 0 9) (k8 : ∀ i, h' 108 0 i = h 108 0 i) (hs : cTap n g h) : cTap n g' h' := by
  unfold cTap at *
  rw [h0, k9]
  simp only [h2, k8]
  exact hs
theorem cShe_c (e4 : ∀ s j, g' 4 s j = g 4 s j) (e5 : ∀ s j, g' 402 s j = g 402 s j) (k5 : ∀ s, h' 155 0 s = h 155 0 s) (k6 : ∀ s, h' 156 0 s = h 156 0 s) (k7 : ∀ s, h' 157 0 s = h 157 0 s) (hs : cShe P r0 n g h) : cShe P r0 n g' h' := by
  unfold cShe at *
  simp only [e4, e5, k5, k6, k7]
  exact hs
theorem cCa_f (e1 : ∀ w, g' 210 0 w = g 210 0 w) (e2 : g' 2 0 11 = g 2 0 11 + 1) (hs : cCa g h) : cCa g' h' := by
  unfold cCa at *
  rw [e2]
  refine ⟨by omega, fun w z1 z2 => ?_⟩
  have := (hs.2 w z1 z2).1
  rw [e1]
  exact ⟨by omega, fun e => by omega⟩
theorem cCa_k (e0 : ∀ w, g' 209 0 w = g 209 0 w) (e1 : ∀ w, g' 210 0 w = g 210 0 w) (e2 : g' 2 0 11 = g 2 0 11) (hk : wKw h' h) (hs : cCa g h) : cCa g' h' := by
  unfold cCa at *
  rw [e2]
  refine ⟨hs.1, fun w z1 z2 => ?_⟩
  rw [e1]
  refine ⟨(hs.2 w z1 z2).1, fun e a y1 y2 => ?_⟩
  rw [hk.1.2 2 (by decide) (by decide)] at y2
  rw [e0, gA_w hk y1 y2]
  exact (hs.2 w z1 z2).2 e a y1 y2
theorem cMz_c (e0 : ∀ p, g' 214 0 p = g 214 0 p) (e1 : ∀ p, g' 215 0 p = g 215 0 p) (hs : cMz g) : cMz g' := fun p z1 z2 => by rw [e0, e1]; exact hs p z1 z2
/-- behind a question -/
theorem cWd_w (hf : cFr TW g' g) (hd : cDy g' h) (hw : cWd P r0 n g h) : cWd P r0 n g' h := by
  have hs := cSta_w hf (cWd_sta hw)
  obtain ⟨w1, w2, w3, w4, w5, w6, w7⟩ := hw
  have e : ∀ f o j, f ≠ 2 → f ≠ 5 → f ≠ 209 → f ≠ 210 → f ≠ 214 → f ≠ 215 → f ≠ 216 → f ≠ 604 → g' f o j = g f o j := fun f o j a1 a2 a3 a4 a5 a6 a7 a8 => hf f o j (by unfold TW TG; omega)
  exact ⟨hs.1, w2, cTop_c (hf 1 0 4 (by unfold TW TG; omega)) (hf 1 0 5 (by unfold TW TG; omega)) (fun f t j z1 z2 => hf f t j (by unfold TW TG; omega)) rfl rfl (fun _ _ => rfl) w3, hd, cShe_w hf w5, cIma_c (fun j _ _ => hf 1 0 j (by unfold TW TG; omega)) (fun a j => hf 501 a j (by unfold TW TG; omega)) (fun _ _ _ => rfl) (Int.le_refl _) (Int.le_refl _) (fun _ _ _ _ => rfl) w6, cTap_c (hf 3 0 0 (by unfold TW TG; omega)) (fun i => hf 302 0 i (by unfold TW TG; omega)) rfl (fun _ => rfl) w7⟩
end CW
section AI
variable {own : Nat} {cc : ByteArray} {nL : Nat} {scr : Option (Nat × (Nat → Int32))} {R : Room} {p0 : Nat → Int → Prop} {Q : ax_Q} {kc ks pc : Nat} {la : List (Option ax_V)} {st : List ax_V}
variable {P : Nat → Int → Prop} {g : Nat → Int → Int → Int} {r0 : Nat → Int → Int → Option (Nat × Int)} {n : Nat → Int → Int}
theorem aj_i_Stubborn {idx : Nat} {o : Int} (hl : Cond.classLink (ax_nm own) idx "AntsTurn$Stubborn" ∈ ax_GT) (h6 : k6 (n 5 o)) (h : decode cc pc = .ok (.instanceof idx, 3)) (kk : ax_J own cc nL scr R p0 Q kc ks (pc + 3) la (.inl (bI (kOf (n 5 o) = 1 ∨ kOf (n 5 o) = 3)) :: st) (P, g, r0, n)) : ax_J own cc nL scr R p0 Q kc ks pc la (.inr (.inr (some (5, o))) :: st) (P, g, r0, n) := by
  rcases h6 with h6 | h6 | h6 | h6 | h6 | h6
  · rw [bI_f (by rw [h6]; decide)] at kk
    exact aj_instN (ci := 0) hl rfl rfl (fun c9 _ h9 => by have z9 := h9.trans h6; omega) h (by decide) kk
  · rw [bI_t (by rw [h6]; decide)] at kk
    exact aj_inst (ci := 7) hl rfl rfl (fun c9 _ h9 => by have z9 := h9.trans h6; omega) h (by exact Or.inl rfl) kk
  · rw [bI_f (by rw [h6]; decide)] at kk
    exact aj_instN (ci := 6) hl rfl rfl (fun c9 _ h9 => by have z9 := h9.trans h6; omega) h (by decide) kk
  · rw [bI_t (by rw [h6]; decide)] at kk
    exact aj_inst (ci := 9) hl rfl rfl (fun c9 _ h9 => by have z9 := h9.trans h6; omega) h (by exact Or.inr (by decide)) kk
  · rw [bI_f (by rw [h6]; decide)] at kk
    exact aj_instN (ci := 3) hl rfl rfl (fun c9 _ h9 => by have z9 := h9.trans h6; omega) h (by decide) kk
  · rw [bI_f (by rw [h6]; decide)] at kk
    exact aj_instN (ci := 1) hl rfl rfl (fun c9 _ h9 => by have z9 := h9.trans h6; omega) h (by decide) kk
theorem aj_i_Shy {idx : Nat} {o : Int} (hl : Cond.classLink (ax_nm own) idx "AntsTurn$Shy" ∈ ax_GT) (h6 : k6 (n 5 o)) (h : decode cc pc = .ok (.instanceof idx, 3)) (kk : ax_J own cc nL scr R p0 Q kc ks (pc + 3) la (.inl (bI (kOf (n 5 o) = 2 ∨ kOf (n 5 o) = 4 ∨ kOf (n 5 o) = 5)) :: st) (P, g, r0, n)) : ax_J own cc nL scr R p0 Q kc ks pc la (.inr (.inr (some (5, o))) :: st) (P, g, r0, n) := by
  rcases h6 with h6 | h6 | h6 | h6 | h6 | h6
  · rw [bI_f (by rw [h6]; decide)] at kk
    exact aj_instN (ci := 0) hl rfl rfl (fun c9 _ h9 => by have z9 := h9.trans h6; omega) h (by decide) kk
  · rw [bI_f (by rw [h6]; decide)] at kk
    exact aj_instN (ci := 7) hl rfl rfl (fun c9 _ h9 => by have z9 := h9.trans h6; omega) h (by decide) kk
  · rw [bI_t (by rw [h6]; decide)] at kk
    exact aj_inst (ci := 6) hl rfl rfl (fun c9 _ h9 => by have z9 := h9.trans h6; omega) h (by exact Or.inl rfl) kk
  · rw [bI_f (by rw [h6]; decide)] at kk
    exact aj_instN (ci := 9) hl rfl rfl (fun c9 _ h9 => by have z9 := h9.trans h6; omega) h (by decide) kk
  · rw [bI_t (by rw [h6]; decide)] at kk
    exact aj_inst (ci := 3) hl rfl rfl (fun c9 _ h9 => by have z9 := h9.trans h6; omega) h (by exact Or.inr (by decide)) kk
  · rw [bI_t (by rw [h6]; decide)] at kk
    exact aj_inst (ci := 1) hl rfl rfl (fun c9 _ h9 => by have z9 := h9.trans h6; omega) h (by exact Or.inr (by decide)) kk
theorem aj_i_Tired {idx : Nat} {o : Int} (hl : Cond.classLink (ax_nm own) idx "AntsTurn$Tired" ∈ ax_GT) (h6 : k6 (n 5 o)) (h : decode cc pc = .ok (.instanceof idx, 3)) (kk : ax_J own cc nL scr R p0 Q kc ks (pc + 3) la (.inl (bI (kOf (n 5 o) = 3)) :: st) (P, g, r0, n)) : ax_J own cc nL scr R p0 Q kc ks pc la (.inr (.inr (some (5, o))) :: st) (P, g, r0, n) := by
  rcases h6 with h6 | h6 | h6 | h6 | h6 | h6
  · rw [bI_f (by rw [h6]; decide)] at kk
    exact aj_instN (ci := 0) hl rfl rfl (fun c9 _ h9 => by have z9 := h9.trans h6; omega) h (by decide) kk
  · rw [bI_f (by rw [h6]; decide)] at kk
    exact aj_instN (ci := 7) hl rfl rfl (fun c9 _ h9 => by have z9 := h9.trans h6; omega) h (by decide) kk
  · rw [bI_f (by rw [h6]; decide)] at kk
    exact aj_instN (ci := 6) hl rfl rfl (fun c9 _ h9 => by have z9 := h9.trans h6; omega) h (by decide) kk
  · rw [bI_t (by rw [h6]; decide)] at kk
    exact aj_inst (ci := 9) hl rfl rfl (fun c9 _ h9 => by have z9 := h9.trans h6; omega) h (by exact Or.inl rfl) kk
  · rw [bI_f (by rw [h6]; decide)] at kk
    exact aj_instN (ci := 3) hl rfl rfl (fun c9 _ h9 => by have z9 := h9.trans h6; omega) h (by decide) kk
  · rw [bI_f (by rw [h6]; decide)] at kk
    exact aj_instN (ci := 1) hl rfl rfl (fun c9 _ h9 => by have z9 := h9.trans h6; omega) h (by decide) kk
theorem aj_i_Proud {idx : Nat} {o : Int} (hl : Cond.classLink (ax_nm own) idx "AntsTurn$Proud" ∈ ax_GT) (h6 : k6 (n 5 o)) (h : decode cc pc = .ok (.instanceof idx, 3)) (kk : ax_J own cc nL scr R p0 Q kc ks (pc + 3) la (.inl (bI (kOf (n 5 o) = 4)) :: st) (P, g, r0, n)) : ax_J own cc nL scr R p0 Q kc ks pc la (.inr (.inr (some (5, o))) :: st) (P, g, r0, n) := by
  rcases h6 with h6 | h6 | h6 | h6 | h6 | h6
  · rw [bI_f (by rw [h6]; decide)] at kk
    exact aj_instN (ci := 0) hl rfl rfl (fun c9 _ h9 => by have z9 := h9.trans h6; omega) h (by decide) kk
  · rw [bI_f (by rw [h6]; decide)] at kk
    exact aj_instN (ci := 7) hl rfl rfl (fun c9 _ h9 => by have z9 := h9.trans h6; omega) h (by decide) kk
  · rw [bI_f (by rw [h6]; decide)] at kk
    exact aj_instN (ci := 6) hl rfl rfl (fun c9 _ h9 => by have z9 := h9.trans h6; omega) h (by decide) kk
  · rw [bI_f (by rw [h6]; decide)] at kk
    exact aj_instN (ci := 9) hl rfl rfl (fun c9 _ h9 => by have z9 := h9.trans h6; omega) h (by decide) kk
  · rw [bI_t (by rw [h6]; decide)] at kk
    exact aj_inst (ci := 3) hl rfl rfl (fun c9 _ h9 => by have z9 := h9.trans h6; omega) h (by exact Or.inl rfl) kk
  · rw [bI_f (by rw [h6]; decide)] at kk
    exact aj_instN (ci := 1) hl rfl rfl (fun c9 _ h9 => by have z9 := h9.trans h6; omega) h (by decide) kk
theorem aj_i_Edgy {idx : Nat} {o : Int} (hl : Cond.classLink (ax_nm own) idx "AntsTurn$Edgy" ∈ ax_GT) (h6 : k6 (n 5 o)) (h : decode cc pc = .ok (.instanceof idx, 3)) (kk : ax_J own cc nL scr R p0 Q kc ks (pc + 3) la (.inl (bI (kOf (n 5 o) = 5)) :: st) (P, g, r0, n)) : ax_J own cc nL scr R p0 Q kc ks pc la (.inr (.inr (some (5, o))) :: st) (P, g, r0, n) := by
  rcases h6 with h6 | h6 | h6 | h6 | h6 | h6
  · rw [bI_f (by rw [h6]; decide)] at kk
    exact aj_instN (ci := 0) hl rfl rfl (fun c9 _ h9 => by have z9 := h9.trans h6; omega) h (by decide) kk
  · rw [bI_f (by rw [h6]; decide)] at kk
    exact aj_instN (ci := 7) hl rfl rfl (fun c9 _ h9 => by have z9 := h9.trans h6; omega) h (by decide) kk
  · rw [bI_f (by rw [h6]; decide)] at kk
    exact aj_instN (ci := 6) hl rfl rfl (fun c9 _ h9 => by have z9 := h9.trans h6; omega) h (by decide) kk
  · rw [bI_f (by rw [h6]; decide)] at kk
    exact aj_instN (ci := 9) hl rfl rfl (fun c9 _ h9 => by have z9 := h9.trans h6; omega) h (by decide) kk
  · rw [bI_f (by rw [h6]; decide)] at kk
    exact aj_instN (ci := 3) hl rfl rfl (fun c9 _ h9 => by have z9 := h9.trans h6; omega) h (by decide) kk
  · rw [bI_t (by rw [h6]; decide)] at kk
    exact aj_inst (ci := 1) hl rfl rfl (fun c9 _ h9 => by have z9 := h9.trans h6; omega) h (by exact Or.inl rfl) kk
end AI
theorem bI_c {p q : Prop} [Decidable p] [Decidable q] (h : p ↔ q) : bI p = bI q := by
  by_cases c : p
  · rw [bI_t c, bI_t (h.mp c)]
  · rw [bI_f c, bI_f (fun z => c (h.mpr z))]
set_option maxRecDepth 100000 in
set_option maxHeartbeats 4000000 in
theorem cp_isOneOf (o k : Int) (P : Nat → Int → Prop) (g : Nat → Int → Int → Int) (r0 : Nat → Int → Int → Option (Nat × Int)) (n : Nat → Int → Int) (hk6 : k6 (n 5 o)) : ax_S yX10_isOneOf cX10_isOneOf 2 (some FieldType.boolean) 0 0 0 [.inr (.inr (some (5, o))), .inl k] (P, g, r0, n) (fun r M' => r = some (.inl (bI (k < 1 ∨ 5 < k ∨ kOf (n 5 o) = k ∨ (k = 1 ∧ kOf (n 5 o) = 3) ∨ (k = 2 ∧ (kOf (n 5 o) = 4 ∨ kOf (n 5 o) = 5))))) ∧ M' = (P, g, r0, n)) := by
  refine ax_S_of (own := 10) (by decide) rfl (fun h => absurd h (by decide)) rfl (Nat.le_of_ble_eq_true rfl) ?_
  change ax_J _ _ _ _ _ _ _ _ _ _ [some (.inr (.inr (some (5, o)))), some (.inl k)] _ _
  refine aj_run (C := True) (pc' := 1) (la' := [some (.inr (.inr (some (5, o)))), some (.inl k)]) (st' := [.inl k]) (M' := (P, g, r0, n)) ok_X10_isOneOf true 1 rfl trivial ?_
  by_cases s1 : k = 1
  · refine aj_tsw (tgt := 36) (ax_dec2 (i := .tableswitch 60 1 5 #[35, 40, 45, 50, 55]) (n := 35) ok_X10_isOneOf rfl) (by decide) (by rw [s1]; decide) ?_
    refine aj_run (C := True) (pc' := 37) (la' := [some (.inr (.inr (some (5, o)))), some (.inl k)]) (st' := [.inr (.inr (some (5, o)))]) (M' := (P, g, r0, n)) ok_X10_isOneOf true 1 rfl trivial ?_
    refine aj_i_Stubborn (ax_T2 (i := 176) (by decide +kernel) rfl) hk6 (ax_dec2 (i := .instanceof 106) (n := 3) ok_X10_isOneOf rfl) ?_
    refine aj_ret (r := some (.inl (bI (kOf (n 5 o) = 1 ∨ kOf (n 5 o) = 3)))) (ax_dec2 (i := .ireturn) (n := 1) ok_X10_isOneOf rfl) ⟨?_, ?_, by decide, by decide⟩ rfl
    · exact ⟨ax_si (bI_c (by omega)), rfl⟩
    · exact ax_ro_b bI_01
  by_cases s2 : k = 2
  · refine aj_tsw (tgt := 41) (ax_dec2 (i := .tableswitch 60 1 5 #[35, 40, 45, 50, 55]) (n := 35) ok_X10_isOneOf rfl) (by decide) (by rw [s2]; decide) ?_
    refine aj_run (C := True) (pc' := 42) (la' := [some (.inr (.inr (some (5, o)))), some (.inl k)]) (st' := [.inr (.inr (some (5, o)))]) (M' := (P, g, r0, n)) ok_X10_isOneOf true 1 rfl trivial ?_
    refine aj_i_Shy (ax_T3 (i := 20) (by decide +kernel) rfl) hk6 (ax_dec2 (i := .instanceof 109) (n := 3) ok_X10_isOneOf rfl) ?_
    refine aj_ret (r := some (.inl (bI (kOf (n 5 o) = 2 ∨ kOf (n 5 o) = 4 ∨ kOf (n 5 o) = 5)))) (ax_dec2 (i := .ireturn) (n := 1) ok_X10_isOneOf rfl) ⟨?_, ?_, by decide, by decide⟩ rfl
    · exact ⟨ax_si (bI_c (by omega)), rfl⟩
    · exact ax_ro_b bI_01
  by_cases s3 : k = 3
  · refine aj_tsw (tgt := 46) (ax_dec2 (i := .tableswitch 60 1 5 #[35, 40, 45, 50, 55]) (n := 35) ok_X10_isOneOf rfl) (by decide) (by rw [s3]; decide) ?_
    refine aj_run (C := True) (pc' := 47) (la' := [some (.inr (.inr (some (5, o)))), some (.inl k)]) (st' := [.inr (.inr (some (5, o)))]) (M' := (P, g, r0, n)) ok_X10_isOneOf true 1 rfl trivial ?_
    refine aj_i_Tired (ax_T3 (i := 40) (by decide +kernel) rfl) hk6 (ax_dec2 (i := .instanceof 112) (n := 3) ok_X10_isOneOf rfl) ?_
    refine aj_ret (r := some (.inl (bI (kOf (n 5 o) = 3)))) (ax_dec2 (i := .ireturn) (n := 1) ok_X10_isOneOf rfl) ⟨?_, ?_, by decide, by decide⟩ rfl
    · exact ⟨ax_si (bI_c (by omega)), rfl⟩
    · exact ax_ro_b bI_01
  by_cases s4 : k = 4
  · refine aj_tsw (tgt := 51) (ax_dec2 (i := .tableswitch 60 1 5 #[35, 40, 45, 50, 55]) (n := 35) ok_X10_isOneOf rfl) (by decide) (by rw [s4]; decide) ?_
    refine aj_run (C := True) (pc' := 52) (la' := [some (.inr (.inr (some (5, o)))), some (.inl k)]) (st' := [.inr (.inr (some (5, o)))]) (M' := (P, g, r0, n)) ok_X10_isOneOf true 1 rfl trivial ?_
    refine aj_i_Proud (ax_T3 (i := 60) (by decide +kernel) rfl) hk6 (ax_dec2 (i := .instanceof 115) (n := 3) ok_X10_isOneOf rfl) ?_
    refine aj_ret (r := some (.inl (bI (kOf (n 5 o) = 4)))) (ax_dec2 (i := .ireturn) (n := 1) ok_X10_isOneOf rfl) ⟨?_, ?_, by decide, by decide⟩ rfl
    · exact ⟨ax_si (bI_c (by omega)), rfl⟩
    · exact ax_ro_b bI_01
  by_cases s5 : k = 5
  · refine aj_tsw (tgt := 56) (ax_dec2 (i := .tableswitch 60 1 5 #[35, 40, 45, 50, 55]) (n := 35) ok_X10_isOneOf rfl) (by decide) (by rw [s5]; decide) ?_
    refine aj_run (C := True) (pc' := 57) (la' := [some (.inr (.inr (some (5, o)))), some (.inl k)]) (st' := [.inr (.inr (some (5, o)))]) (M' := (P, g, r0, n)) ok_X10_isOneOf true 1 rfl trivial ?_
    refine aj_i_Edgy (ax_T3 (i := 80) (by decide +kernel) rfl) hk6 (ax_dec2 (i := .instanceof 118) (n := 3) ok_X10_isOneOf rfl) ?_
    refine aj_ret (r := some (.inl (bI (kOf (n 5 o) = 5)))) (ax_dec2 (i := .ireturn) (n := 1) ok_X10_isOneOf rfl) ⟨?_, ?_, by decide, by decide⟩ rfl
    · exact ⟨ax_si (bI_c (by omega)), rfl⟩
    · exact ax_ro_b bI_01
  refine aj_tsw (tgt := 61) (ax_dec2 (i := .tableswitch 60 1 5 #[35, 40, 45, 50, 55]) (n := 35) ok_X10_isOneOf rfl) (by decide) (by rw [ax_tsw_d k (by decide) (by decide) (by omega)]; decide) ?_
  refine aj_run (C := True) (pc' := 62) (la' := [some (.inr (.inr (some (5, o)))), some (.inl k)]) (st' := [.inl 1]) (M' := (P, g, r0, n)) ok_X10_isOneOf true 1 rfl trivial ?_
  refine aj_ret (r := some (.inl 1)) (ax_dec2 (i := .ireturn) (n := 1) ok_X10_isOneOf rfl) ⟨?_, ?_, by decide, by decide⟩ rfl
  · exact ⟨ax_si (bI_t (by omega)).symm, rfl⟩
  · exact ax_ro_b (Or.inr rfl)

set_option maxRecDepth 100000 in
set_option maxHeartbeats 4000000 in
theorem cp_told (a w : Int) (P : Nat → Int → Prop) (g : Nat → Int → Int → Int) (r0 : Nat → Int → Int → Option (Nat × Int)) (n : Nat → Int → Int) (h : Nat → Int → Int → Int) (hs : cSta P r0 n g h) : ax_S yX10_told cX10_told 4 (some FieldType.int) 9 0 0 [.inr (.inr (some (1, 0))), .inl a, .inl w] (P, g, r0, n) (fun r M' => r = some (.inl (mTold h a w)) ∧ M' = (P, g, r0, n)) := by
  have hAs := hs.1.1
  have hPs := hs.1.2.1
  have hOs := hs.1.2.2
  have hP1 := hPs.1
  have hA1 := hAs.1
  have hsz := hOs.2.2.1
  have hxz := hPs.1.1
  refine ax_S_of (own := 10) (by decide) rfl (fun h => absurd h (by decide)) rfl (Nat.le_of_ble_eq_true rfl) ?_
  change ax_J _ _ _ _ _ _ _ _ _ _ [some (.inr (.inr (some (1, 0)))), some (.inl a), some (.inl w), none] _ _
  refine aj_run (C := True) (pc' := 2) (la' := [some (.inr (.inr (some (1, 0)))), some (.inl a), some (.inl w), none]) (st' := [.inl a, .inr (.inr (some (1, 0)))]) (M' := (P, g, r0, n)) ok_X10_told true 2 rfl trivial ?_
  refine aj_callV (av := [.inl a]) (st := []) (f := 1) (o := 0) (ci := 10) cal_X10_isAnt lk_10_122 ins_X10_isAnt rfl sel_X10_isAnt rfl (fun c9 h9 _ => by simpa [ax_ok] using h9) (cp_isAnt a _ _ _ _ hs.2.2.2) ⟨by decide, by decide, by decide, by decide⟩ (Nat.le_of_ble_eq_true rfl) (ax_dec2 (i := .invokevirtual 122) (n := 3) ok_X10_told rfl) (fun r M' hq => ?_)
  obtain ⟨rfl, rfl⟩ := hq
  change ax_J _ _ _ _ _ _ _ _ _ 5 [some (.inr (.inr (some (1, 0)))), some (.inl a), some (.inl w), none] [.inl (bI (0 ≤ a ∧ a < g 2 0 1))] (P, g, r0, n)
  refine aj_if_eq (tgt := 17) (ax_dec2 (i := .ifCond .eq 12) (n := 3) ok_X10_told rfl) (by decide) (fun c1 => ?_) (fun c1 => ?_)
  · replace c1 := bI_e0 c1
    refine aj_run (C := True) (pc' := 19) (la' := [some (.inr (.inr (some (1, 0)))), some (.inl a), some (.inl w), none]) (st' := [.inl (-2)]) (M' := (P, g, r0, n)) ok_X10_told true 1 rfl trivial ?_
    refine aj_ret (r := some (.inl (-2))) (ax_dec2 (i := .ireturn) (n := 1) ok_X10_told rfl) ⟨?_, ?_, by decide, by decide⟩ rfl
    · (first | (exfalso; omega) | exact ⟨ax_si (by unfold mTold; (try rw [e4]); (try rw [e3]); (repeat first | rw [if_pos (by omega)] | rw [if_neg (by omega)] | rw [bI_t (by omega)] | rw [bI_f (by omega)]); try first | rfl | omega), rfl⟩)
    · exact ax_ro_i
  · replace c1 := bI_n0 c1
    refine aj_run (C := True) (pc' := 9) (la' := [some (.inr (.inr (some (1, 0)))), some (.inl a), some (.inl w), none]) (st' := [.inl w]) (M' := (P, g, r0, n)) ok_X10_told true 1 rfl trivial ?_
    refine aj_if_lt (tgt := 17) (ax_dec2 (i := .ifCond .lt 8) (n := 3) ok_X10_told rfl) (by decide) (fun c2 => ?_) (fun c2 => ?_)
    · refine aj_run (C := True) (pc' := 19) (la' := [some (.inr (.inr (some (1, 0)))), some (.inl a), some (.inl w), none]) (st' := [.inl (-2)]) (M' := (P, g, r0, n)) ok_X10_told true 1 rfl trivial ?_
      refine aj_ret (r := some (.inl (-2))) (ax_dec2 (i := .ireturn) (n := 1) ok_X10_told rfl) ⟨?_, ?_, by decide, by decide⟩ rfl
      · (first | (exfalso; omega) | exact ⟨ax_si (by unfold mTold; (try rw [e4]); (try rw [e3]); (repeat first | rw [if_pos (by omega)] | rw [if_neg (by omega)] | rw [bI_t (by omega)] | rw [bI_f (by omega)]); try first | rfl | omega), rfl⟩)
      · exact ax_ro_i
    · refine aj_run (C := True) (pc' := 14) (la' := [some (.inr (.inr (some (1, 0)))), some (.inl a), some (.inl w), none]) (st' := [.inl 5, .inl w]) (M' := (P, g, r0, n)) ok_X10_told true 2 rfl trivial ?_
      refine aj_icmp_le (tgt := 20) (ax_dec2 (i := .if_icmp .le 6) (n := 3) ok_X10_told rfl) (by decide) (fun c3 => ?_) (fun c3 => ?_)
      · refine aj_run (C := True) (pc' := 21) (la' := [some (.inr (.inr (some (1, 0)))), some (.inl a), some (.inl w), none]) (st' := [.inr (.inr (some (1, 0)))]) (M' := (P, g, r0, n)) ok_X10_told true 1 rfl trivial ?_
        refine aj_getR (f := 1) (k := 0) (g := 2) (o := 0) (u := 0) (ax_lk_ok (q := (1, 0)) rfl) rfl rfl hs.2.2.2.1 hs.2.2.2.2 (ax_dec2 (i := .getfield 10) (n := 3) ok_X10_told rfl) ?_
        refine aj_run (C := True) (pc' := 28) (la' := [some (.inr (.inr (some (1, 0)))), some (.inl a), some (.inl w), none]) (st' := [.inl a, .inr (.inr (some (200, 0)))]) (M' := (P, g, r0, n)) ok_X10_told true 2 rfl trivial ?_
        refine aj_aald (f := 200) (g := 5) (o := 0) (i := a) (u := a) (E := "AntsTurn$Ant") rfl rfl rfl ⟨by omega, by have z9 := hAs.1.1; show a < n 200 0; omega⟩ (hAs.2 a (by omega) (by omega)).1.1 (hAs.2 a (by omega) (by omega)).1.2 (ax_dec2 (i := .aaload) (n := 1) ok_X10_told rfl) ?_
        obtain ⟨e0, e1, e2, e3, e4⟩ := hPs.2 a (by omega) (by omega)
        have hst := hOs.2.2.2.2.2.2 a (by omega) (by omega)
        have h54 := (hAs.2 a (by omega) (by omega)).2.1.1
        refine aj_run (C := True) (pc' := 32) (la' := [some (.inr (.inr (some (1, 0)))), some (.inl a), some (.inl w), some (.inr (.inr (some (5, a))))]) (st' := [.inl 4, .inl w]) (M' := (P, g, r0, n)) ok_X10_told true 3 rfl trivial ?_
        refine aj_icmp_ge (tgt := 42) (ax_dec2 (i := .if_icmp .ge 10) (n := 3) ok_X10_told rfl) (by decide) (fun c4 => ?_) (fun c4 => ?_)
        · refine aj_run (C := True) (pc' := 44) (la' := [some (.inr (.inr (some (1, 0)))), some (.inl a), some (.inl w), some (.inr (.inr (some (5, a))))]) (st' := [.inl 4, .inl w]) (M' := (P, g, r0, n)) ok_X10_told true 2 rfl trivial ?_
          refine aj_icmp_ne (tgt := 54) (ax_dec2 (i := .if_icmp .ne 10) (n := 3) ok_X10_told rfl) (by decide) (fun c5 => ?_) (fun c5 => ?_)
          · refine aj_run (C := True) (pc' := 55) (la' := [some (.inr (.inr (some (1, 0)))), some (.inl a), some (.inl w), some (.inr (.inr (some (5, a))))]) (st' := [.inr (.inr (some (5, a)))]) (M' := (P, g, r0, n)) ok_X10_told true 1 rfl trivial ?_
            refine aj_d_weighs lk_10_128 (hAs.2 a (by omega) (by omega)).2.2 (hAs.2 a (by omega) (by omega)).2.1.1 (by omega) ⟨by decide, by decide, by decide, by decide⟩ (Nat.le_of_ble_eq_true rfl) (ax_dec2 (i := .invokevirtual 128) (n := 3) ok_X10_told rfl) ?_
            change ax_J _ _ _ _ _ _ _ _ _ 58 [some (.inr (.inr (some (1, 0)))), some (.inl a), some (.inl w), some (.inr (.inr (some (5, a))))] [.inl (wWeighs (kOf (n 5 a)) (g 500 a 3))] (P, g, r0, n)
            refine aj_ret (r := some (.inl (wWeighs (kOf (n 5 a)) (g 500 a 3)))) (ax_dec2 (i := .ireturn) (n := 1) ok_X10_told rfl) ⟨?_, ?_, by decide, by decide⟩ rfl
            · (first | (exfalso; omega) | exact ⟨ax_si (by unfold mTold; (try rw [e4]); (try rw [e3]); (repeat first | rw [if_pos (by omega)] | rw [if_neg (by omega)] | rw [bI_t (by omega)] | rw [bI_f (by omega)]); try first | rfl | omega), rfl⟩)
            · exact ax_ro_i
          · refine aj_run (C := True) (pc' := 48) (la' := [some (.inr (.inr (some (1, 0)))), some (.inl a), some (.inl w), some (.inr (.inr (some (5, a))))]) (st' := [.inr (.inr (some (5, a)))]) (M' := (P, g, r0, n)) ok_X10_told true 1 rfl trivial ?_
            refine aj_d_kind lk_10_125 (hAs.2 a (by omega) (by omega)).2.2 (hAs.2 a (by omega) (by omega)).2.1.1 ⟨by decide, by decide, by decide, by decide⟩ (Nat.le_of_ble_eq_true rfl) (ax_dec2 (i := .invokevirtual 125) (n := 3) ok_X10_told rfl) ?_
            change ax_J _ _ _ _ _ _ _ _ _ 51 [some (.inr (.inr (some (1, 0)))), some (.inl a), some (.inl w), some (.inr (.inr (some (5, a))))] [.inl (kOf (n 5 a))] (P, g, r0, n)
            refine aj_run (C := True) (pc' := 58) (la' := [some (.inr (.inr (some (1, 0)))), some (.inl a), some (.inl w), some (.inr (.inr (some (5, a))))]) (st' := [.inl (kOf (n 5 a))]) (M' := (P, g, r0, n)) ok_X10_told true 1 rfl trivial ?_
            refine aj_ret (r := some (.inl (kOf (n 5 a)))) (ax_dec2 (i := .ireturn) (n := 1) ok_X10_told rfl) ⟨?_, ?_, by decide, by decide⟩ rfl
            · (first | (exfalso; omega) | exact ⟨ax_si (by unfold mTold; (try rw [e4]); (try rw [e3]); (repeat first | rw [if_pos (by omega)] | rw [if_neg (by omega)] | rw [bI_t (by omega)] | rw [bI_f (by omega)]); try first | rfl | omega), rfl⟩)
            · exact ax_ro_i
        · refine aj_run (C := (0 ≤ w ∧ w < n 500 a) ∧ True) (pc' := 41) (la' := [some (.inr (.inr (some (1, 0)))), some (.inl a), some (.inl w), some (.inr (.inr (some (5, a))))]) (st' := [.inl (g 500 a w)]) (M' := (P, g, r0, n)) ok_X10_told true 4 rfl (by refine ⟨?_, trivial⟩ <;> (omega)) ?_
          refine aj_ret (r := some (.inl (g 500 a w))) (ax_dec2 (i := .ireturn) (n := 1) ok_X10_told rfl) ⟨?_, ?_, by decide, by decide⟩ rfl
          · (have hw4 : w = 0 ∨ w = 1 ∨ w = 2 ∨ w = 3 := (by omega); have hai : 0 ≤ a ∧ a < h 50 0 2 := (by omega); rcases hw4 with rfl | rfl | rfl | rfl <;> exact ⟨ax_si (by unfold mTold; rw [if_pos hai]; simp; assumption), rfl⟩)
          · exact ax_ro_i
      · refine aj_run (C := True) (pc' := 19) (la' := [some (.inr (.inr (some (1, 0)))), some (.inl a), some (.inl w), none]) (st' := [.inl (-2)]) (M' := (P, g, r0, n)) ok_X10_told true 1 rfl trivial ?_
        refine aj_ret (r := some (.inl (-2))) (ax_dec2 (i := .ireturn) (n := 1) ok_X10_told rfl) ⟨?_, ?_, by decide, by decide⟩ rfl
        · (first | (exfalso; omega) | exact ⟨ax_si (by unfold mTold; (try rw [e4]); (try rw [e3]); (repeat first | rw [if_pos (by omega)] | rw [if_neg (by omega)] | rw [bI_t (by omega)] | rw [bI_f (by omega)]); try first | rfl | omega), rfl⟩)
        · exact ax_ro_i

set_option maxRecDepth 100000 in
set_option maxHeartbeats 4000000 in
theorem cp_taken (a k : Int) (P : Nat → Int → Prop) (g : Nat → Int → Int → Int) (r0 : Nat → Int → Int → Option (Nat × Int)) (n : Nat → Int → Int) (h : Nat → Int → Int → Int) (hs : cSta P r0 n g h) : ax_S yX10_taken cX10_taken 4 (some FieldType.int) 1 0 0 [.inr (.inr (some (1, 0))), .inl a, .inl k] (P, g, r0, n) (fun r M' => r = some (.inl (mTaken h a k)) ∧ M' = (P, g, r0, n)) := by
  have hAs := hs.1.1
  have hPs := hs.1.2.1
  have hOs := hs.1.2.2
  have hP1 := hPs.1
  have hA1 := hAs.1
  have hsz := hOs.2.2.1
  have hxz := hPs.1.1
  refine ax_S_of (own := 10) (by decide) rfl (fun h => absurd h (by decide)) rfl (Nat.le_of_ble_eq_true rfl) ?_
  change ax_J _ _ _ _ _ _ _ _ _ _ [some (.inr (.inr (some (1, 0)))), some (.inl a), some (.inl k), none] _ _
  refine aj_run (C := True) (pc' := 1) (la' := [some (.inr (.inr (some (1, 0)))), some (.inl a), some (.inl k), none]) (st' := [.inl k]) (M' := (P, g, r0, n)) ok_X10_taken true 1 rfl trivial ?_
  refine aj_if_lt (tgt := 10) (ax_dec2 (i := .ifCond .lt 9) (n := 3) ok_X10_taken rfl) (by decide) (fun c1 => ?_) (fun c1 => ?_)
  · refine aj_run (C := True) (pc' := 12) (la' := [some (.inr (.inr (some (1, 0)))), some (.inl a), some (.inl k), none]) (st' := [.inl (-2)]) (M' := (P, g, r0, n)) ok_X10_taken true 1 rfl trivial ?_
    refine aj_ret (r := some (.inl (-2))) (ax_dec2 (i := .ireturn) (n := 1) ok_X10_taken rfl) ⟨?_, ?_, by decide, by decide⟩ rfl
    · (first | (exfalso; omega) | exact ⟨ax_si (by unfold mTaken; (repeat first | rw [if_pos (by omega)] | rw [if_neg (by omega)] | rw [bI_t (by omega)] | rw [bI_f (by omega)]); try first | rfl | omega), rfl⟩)
    · exact ax_ro_i
  · refine aj_run (C := True) (pc' := 7) (la' := [some (.inr (.inr (some (1, 0)))), some (.inl a), some (.inl k), none]) (st' := [.inl 6, .inl k]) (M' := (P, g, r0, n)) ok_X10_taken true 2 rfl trivial ?_
    refine aj_icmp_lt (tgt := 13) (ax_dec2 (i := .if_icmp .lt 6) (n := 3) ok_X10_taken rfl) (by decide) (fun c2 => ?_) (fun c2 => ?_)
    · refine aj_run (C := True) (pc' := 15) (la' := [some (.inr (.inr (some (1, 0)))), some (.inl a), some (.inl k), none]) (st' := [.inl a, .inr (.inr (some (1, 0)))]) (M' := (P, g, r0, n)) ok_X10_taken true 2 rfl trivial ?_
      refine aj_callV (av := [.inl a]) (st := []) (f := 1) (o := 0) (ci := 10) cal_X10_isAnt lk_10_122 ins_X10_isAnt rfl sel_X10_isAnt rfl (fun c9 h9 _ => by simpa [ax_ok] using h9) (cp_isAnt a _ _ _ _ hs.2.2.2) ⟨by decide, by decide, by decide, by decide⟩ (Nat.le_of_ble_eq_true rfl) (ax_dec2 (i := .invokevirtual 122) (n := 3) ok_X10_taken rfl) (fun r M' hq => ?_)
      obtain ⟨rfl, rfl⟩ := hq
      change ax_J _ _ _ _ _ _ _ _ _ 18 [some (.inr (.inr (some (1, 0)))), some (.inl a), some (.inl k), none] [.inl (bI (0 ≤ a ∧ a < g 2 0 1))] (P, g, r0, n)
      refine aj_if_ne (tgt := 24) (ax_dec2 (i := .ifCond .ne 6) (n := 3) ok_X10_taken rfl) (by decide) (fun c3 => ?_) (fun c3 => ?_)
      · replace c3 := bI_n0 c3
        refine aj_run (C := True) (pc' := 25) (la' := [some (.inr (.inr (some (1, 0)))), some (.inl a), some (.inl k), none]) (st' := [.inr (.inr (some (1, 0)))]) (M' := (P, g, r0, n)) ok_X10_taken true 1 rfl trivial ?_
        refine aj_getR (f := 1) (k := 0) (g := 2) (o := 0) (u := 0) (ax_lk_ok (q := (1, 0)) rfl) rfl rfl hs.2.2.2.1 hs.2.2.2.2 (ax_dec2 (i := .getfield 10) (n := 3) ok_X10_taken rfl) ?_
        refine aj_run (C := True) (pc' := 32) (la' := [some (.inr (.inr (some (1, 0)))), some (.inl a), some (.inl k), none]) (st' := [.inl a, .inr (.inr (some (200, 0)))]) (M' := (P, g, r0, n)) ok_X10_taken true 2 rfl trivial ?_
        refine aj_aald (f := 200) (g := 5) (o := 0) (i := a) (u := a) (E := "AntsTurn$Ant") rfl rfl rfl ⟨by omega, by have z9 := hAs.1.1; show a < n 200 0; omega⟩ (hAs.2 a (by omega) (by omega)).1.1 (hAs.2 a (by omega) (by omega)).1.2 (ax_dec2 (i := .aaload) (n := 1) ok_X10_taken rfl) ?_
        obtain ⟨e0, e1, e2, e3, e4⟩ := hPs.2 a (by omega) (by omega)
        have hst := hOs.2.2.2.2.2.2 a (by omega) (by omega)
        have h54 := (hAs.2 a (by omega) (by omega)).2.1.1
        refine aj_run (C := True) (pc' := 36) (la' := [some (.inr (.inr (some (1, 0)))), some (.inl a), some (.inl k), some (.inr (.inr (some (5, a))))]) (st' := [.inl k, .inr (.inr (some (5, a)))]) (M' := (P, g, r0, n)) ok_X10_taken true 3 rfl trivial ?_
        refine aj_callS (av := [.inr (.inr (some (5, a))), .inl k]) (st := []) cal_X10_isOneOf lk_10_289 stc_X10_isOneOf (cp_isOneOf a k _ _ _ _ (hAs.2 a (by omega) (by omega)).2.2) ⟨by decide, by decide, by decide, by decide⟩ (Nat.le_of_ble_eq_true rfl) (ax_dec2 (i := .invokestatic 289) (n := 3) ok_X10_taken rfl) (fun r M' hq => ?_)
        obtain ⟨rfl, rfl⟩ := hq
        change ax_J _ _ _ _ _ _ _ _ _ 39 [some (.inr (.inr (some (1, 0)))), some (.inl a), some (.inl k), some (.inr (.inr (some (5, a))))] [.inl (bI (k < 1 ∨ 5 < k ∨ kOf (n 5 a) = k ∨ (k = 1 ∧ kOf (n 5 a) = 3) ∨ (k = 2 ∧ (kOf (n 5 a) = 4 ∨ kOf (n 5 a) = 5))))] (P, g, r0, n)
        refine aj_if_eq (tgt := 51) (ax_dec2 (i := .ifCond .eq 12) (n := 3) ok_X10_taken rfl) (by decide) (fun c4 => ?_) (fun c4 => ?_)
        · replace c4 := bI_e0 c4
          refine aj_run (C := True) (pc' := 53) (la' := [some (.inr (.inr (some (1, 0)))), some (.inl a), some (.inl k), some (.inr (.inr (some (5, a))))]) (st' := [.inl (-13)]) (M' := (P, g, r0, n)) ok_X10_taken true 1 rfl trivial ?_
          refine aj_ret (r := some (.inl (-13))) (ax_dec2 (i := .ireturn) (n := 1) ok_X10_taken rfl) ⟨?_, ?_, by decide, by decide⟩ rfl
          · (first | (exfalso; omega) | exact ⟨ax_si (by unfold mTaken; (repeat first | rw [if_pos (by omega)] | rw [if_neg (by omega)] | rw [bI_t (by omega)] | rw [bI_f (by omega)]); try first | rfl | omega), rfl⟩)
          · exact ax_ro_i
        · replace c4 := bI_n0 c4
          refine aj_run (C := (0 ≤ 3 ∧ 3 < n 500 a) ∧ True) (pc' := 53) (la' := [some (.inr (.inr (some (1, 0)))), some (.inl a), some (.inl k), some (.inr (.inr (some (5, a))))]) (st' := [.inl (g 500 a 3)]) (M' := (P, g, r0, n)) ok_X10_taken true 5 rfl (by refine ⟨?_, trivial⟩ <;> (omega)) ?_
          refine aj_ret (r := some (.inl (g 500 a 3))) (ax_dec2 (i := .ireturn) (n := 1) ok_X10_taken rfl) ⟨?_, ?_, by decide, by decide⟩ rfl
          · (first | (exfalso; omega) | exact ⟨ax_si (by unfold mTaken; (repeat first | rw [if_pos (by omega)] | rw [if_neg (by omega)] | rw [bI_t (by omega)] | rw [bI_f (by omega)]); try first | rfl | omega), rfl⟩)
          · exact ax_ro_i
      · replace c3 := bI_e0 c3
        refine aj_run (C := True) (pc' := 23) (la' := [some (.inr (.inr (some (1, 0)))), some (.inl a), some (.inl k), none]) (st' := [.inl (-11)]) (M' := (P, g, r0, n)) ok_X10_taken true 1 rfl trivial ?_
        refine aj_ret (r := some (.inl (-11))) (ax_dec2 (i := .ireturn) (n := 1) ok_X10_taken rfl) ⟨?_, ?_, by decide, by decide⟩ rfl
        · (first | (exfalso; omega) | exact ⟨ax_si (by unfold mTaken; (repeat first | rw [if_pos (by omega)] | rw [if_neg (by omega)] | rw [bI_t (by omega)] | rw [bI_f (by omega)]); try first | rfl | omega), rfl⟩)
        · exact ax_ro_i
    · refine aj_run (C := True) (pc' := 12) (la' := [some (.inr (.inr (some (1, 0)))), some (.inl a), some (.inl k), none]) (st' := [.inl (-2)]) (M' := (P, g, r0, n)) ok_X10_taken true 1 rfl trivial ?_
      refine aj_ret (r := some (.inl (-2))) (ax_dec2 (i := .ireturn) (n := 1) ok_X10_taken rfl) ⟨?_, ?_, by decide, by decide⟩ rfl
      · (first | (exfalso; omega) | exact ⟨ax_si (by unfold mTaken; (repeat first | rw [if_pos (by omega)] | rw [if_neg (by omega)] | rw [bI_t (by omega)] | rw [bI_f (by omega)]); try first | rfl | omega), rfl⟩)
      · exact ax_ro_i

set_option maxRecDepth 100000 in
set_option maxHeartbeats 4000000 in
theorem cp_count (w : Int) (P : Nat → Int → Prop) (g : Nat → Int → Int → Int) (r0 : Nat → Int → Int → Option (Nat × Int)) (n : Nat → Int → Int) (h : Nat → Int → Int → Int) (hw : cWd P r0 n g h) : ax_S yX10_count cX10_count 2 (some FieldType.int) 0 0 0 [.inr (.inr (some (1, 0))), .inl w] (P, g, r0, n) (fun r M' => r = some (.inl (mCount h w)) ∧ M' = (P, g, r0, n)) := by
  have hs := cWd_sta hw
  have hT := hw.2.2.1
  have hTp := hw.2.2.2.2.2.2
  have hT2 := hT.2.1
  have hTp2 := hTp.2.1
  have hAs := hs.1.1
  have hPs := hs.1.2.1
  have hOs := hs.1.2.2
  have hP1 := hPs.1
  have hA1 := hAs.1
  have hsz := hOs.2.2.1
  have hxz := hPs.1.1
  refine ax_S_of (own := 10) (by decide) rfl (fun h => absurd h (by decide)) rfl (Nat.le_of_ble_eq_true rfl) ?_
  change ax_J _ _ _ _ _ _ _ _ _ _ [some (.inr (.inr (some (1, 0)))), some (.inl w)] _ _
  refine aj_run (C := True) (pc' := 1) (la' := [some (.inr (.inr (some (1, 0)))), some (.inl w)]) (st' := [.inl w]) (M' := (P, g, r0, n)) ok_X10_count true 1 rfl trivial ?_
  by_cases s1 : w = 0
  · refine aj_tsw (tgt := 40) (ax_dec2 (i := .tableswitch 81 0 5 #[39, 47, 55, 63, 68, 76]) (n := 39) ok_X10_count rfl) (by decide) (by rw [s1]; decide) ?_
    refine aj_run (C := True) (pc' := 41) (la' := [some (.inr (.inr (some (1, 0)))), some (.inl w)]) (st' := [.inr (.inr (some (1, 0)))]) (M' := (P, g, r0, n)) ok_X10_count true 1 rfl trivial ?_
    refine aj_getR (f := 1) (k := 0) (g := 2) (o := 0) (u := 0) (ax_lk_ok (q := (1, 0)) rfl) rfl rfl hs.2.2.2.1 hs.2.2.2.2 (ax_dec2 (i := .getfield 10) (n := 3) ok_X10_count rfl) ?_
    refine aj_run (C := True) (pc' := 47) (la' := [some (.inr (.inr (some (1, 0)))), some (.inl w)]) (st' := [.inl (g 2 0 1)]) (M' := (P, g, r0, n)) ok_X10_count true 1 rfl trivial ?_
    refine aj_ret (r := some (.inl (g 2 0 1))) (ax_dec2 (i := .ireturn) (n := 1) ok_X10_count rfl) ⟨?_, ?_, by decide, by decide⟩ rfl
    · exact ⟨ax_si (by unfold mCount; (repeat first | rw [if_pos (by omega)] | rw [if_neg (by omega)] | rw [bI_t (by omega)] | rw [bI_f (by omega)]); try first | rfl | omega), rfl⟩
    · exact ax_ro_i
  by_cases s2 : w = 1
  · refine aj_tsw (tgt := 48) (ax_dec2 (i := .tableswitch 81 0 5 #[39, 47, 55, 63, 68, 76]) (n := 39) ok_X10_count rfl) (by decide) (by rw [s2]; decide) ?_
    refine aj_run (C := True) (pc' := 49) (la' := [some (.inr (.inr (some (1, 0)))), some (.inl w)]) (st' := [.inr (.inr (some (1, 0)))]) (M' := (P, g, r0, n)) ok_X10_count true 1 rfl trivial ?_
    refine aj_getR (f := 1) (k := 0) (g := 2) (o := 0) (u := 0) (ax_lk_ok (q := (1, 0)) rfl) rfl rfl hs.2.2.2.1 hs.2.2.2.2 (ax_dec2 (i := .getfield 10) (n := 3) ok_X10_count rfl) ?_
    refine aj_run (C := True) (pc' := 55) (la' := [some (.inr (.inr (some (1, 0)))), some (.inl w)]) (st' := [.inl (g 2 0 2)]) (M' := (P, g, r0, n)) ok_X10_count true 1 rfl trivial ?_
    refine aj_ret (r := some (.inl (g 2 0 2))) (ax_dec2 (i := .ireturn) (n := 1) ok_X10_count rfl) ⟨?_, ?_, by decide, by decide⟩ rfl
    · exact ⟨ax_si (by unfold mCount; (repeat first | rw [if_pos (by omega)] | rw [if_neg (by omega)] | rw [bI_t (by omega)] | rw [bI_f (by omega)]); try first | rfl | omega), rfl⟩
    · exact ax_ro_i
  by_cases s3 : w = 2
  · refine aj_tsw (tgt := 56) (ax_dec2 (i := .tableswitch 81 0 5 #[39, 47, 55, 63, 68, 76]) (n := 39) ok_X10_count rfl) (by decide) (by rw [s3]; decide) ?_
    refine aj_run (C := True) (pc' := 57) (la' := [some (.inr (.inr (some (1, 0)))), some (.inl w)]) (st' := [.inr (.inr (some (1, 0)))]) (M' := (P, g, r0, n)) ok_X10_count true 1 rfl trivial ?_
    refine aj_getR (f := 1) (k := 0) (g := 2) (o := 0) (u := 0) (ax_lk_ok (q := (1, 0)) rfl) rfl rfl hs.2.2.2.1 hs.2.2.2.2 (ax_dec2 (i := .getfield 10) (n := 3) ok_X10_count rfl) ?_
    refine aj_run (C := True) (pc' := 63) (la' := [some (.inr (.inr (some (1, 0)))), some (.inl w)]) (st' := [.inl (g 2 0 3)]) (M' := (P, g, r0, n)) ok_X10_count true 1 rfl trivial ?_
    refine aj_ret (r := some (.inl (g 2 0 3))) (ax_dec2 (i := .ireturn) (n := 1) ok_X10_count rfl) ⟨?_, ?_, by decide, by decide⟩ rfl
    · exact ⟨ax_si (by unfold mCount; (repeat first | rw [if_pos (by omega)] | rw [if_neg (by omega)] | rw [bI_t (by omega)] | rw [bI_f (by omega)]); try first | rfl | omega), rfl⟩
    · exact ax_ro_i
  by_cases s4 : w = 3
  · refine aj_tsw (tgt := 64) (ax_dec2 (i := .tableswitch 81 0 5 #[39, 47, 55, 63, 68, 76]) (n := 39) ok_X10_count rfl) (by decide) (by rw [s4]; decide) ?_
    refine aj_run (C := True) (pc' := 68) (la' := [some (.inr (.inr (some (1, 0)))), some (.inl w)]) (st' := [.inl (g 1 0 4)]) (M' := (P, g, r0, n)) ok_X10_count true 2 rfl trivial ?_
    refine aj_ret (r := some (.inl (g 1 0 4))) (ax_dec2 (i := .ireturn) (n := 1) ok_X10_count rfl) ⟨?_, ?_, by decide, by decide⟩ rfl
    · exact ⟨ax_si (by unfold mCount; (repeat first | rw [if_pos (by omega)] | rw [if_neg (by omega)] | rw [bI_t (by omega)] | rw [bI_f (by omega)]); try first | rfl | omega), rfl⟩
    · exact ax_ro_i
  by_cases s5 : w = 4
  · refine aj_tsw (tgt := 69) (ax_dec2 (i := .tableswitch 81 0 5 #[39, 47, 55, 63, 68, 76]) (n := 39) ok_X10_count rfl) (by decide) (by rw [s5]; decide) ?_
    refine aj_run (C := True) (pc' := 70) (la' := [some (.inr (.inr (some (1, 0)))), some (.inl w)]) (st' := [.inr (.inr (some (1, 0)))]) (M' := (P, g, r0, n)) ok_X10_count true 1 rfl trivial ?_
    refine aj_getR (f := 1) (k := 1) (g := 3) (o := 0) (u := 0) (ax_lk_ok (q := (1, 1)) rfl) rfl rfl hT.1.2.1.1 hT.1.2.1.2 (ax_dec2 (i := .getfield 19) (n := 3) ok_X10_count rfl) ?_
    refine aj_run (C := True) (pc' := 76) (la' := [some (.inr (.inr (some (1, 0)))), some (.inl w)]) (st' := [.inl (g 3 0 0)]) (M' := (P, g, r0, n)) ok_X10_count true 1 rfl trivial ?_
    refine aj_ret (r := some (.inl (g 3 0 0))) (ax_dec2 (i := .ireturn) (n := 1) ok_X10_count rfl) ⟨?_, ?_, by decide, by decide⟩ rfl
    · exact ⟨ax_si (by unfold mCount; (repeat first | rw [if_pos (by omega)] | rw [if_neg (by omega)] | rw [bI_t (by omega)] | rw [bI_f (by omega)]); try first | rfl | omega), rfl⟩
    · exact ax_ro_i
  by_cases s6 : w = 5
  · refine aj_tsw (tgt := 77) (ax_dec2 (i := .tableswitch 81 0 5 #[39, 47, 55, 63, 68, 76]) (n := 39) ok_X10_count rfl) (by decide) (by rw [s6]; decide) ?_
    refine aj_run (C := True) (pc' := 81) (la' := [some (.inr (.inr (some (1, 0)))), some (.inl w)]) (st' := [.inl (g 1 0 5)]) (M' := (P, g, r0, n)) ok_X10_count true 2 rfl trivial ?_
    refine aj_ret (r := some (.inl (g 1 0 5))) (ax_dec2 (i := .ireturn) (n := 1) ok_X10_count rfl) ⟨?_, ?_, by decide, by decide⟩ rfl
    · exact ⟨ax_si (by unfold mCount; (repeat first | rw [if_pos (by omega)] | rw [if_neg (by omega)] | rw [bI_t (by omega)] | rw [bI_f (by omega)]); try first | rfl | omega), rfl⟩
    · exact ax_ro_i
  refine aj_tsw (tgt := 82) (ax_dec2 (i := .tableswitch 81 0 5 #[39, 47, 55, 63, 68, 76]) (n := 39) ok_X10_count rfl) (by decide) (by rw [ax_tsw_d w (by decide) (by decide) (by omega)]; decide) ?_
  refine aj_run (C := True) (pc' := 84) (la' := [some (.inr (.inr (some (1, 0)))), some (.inl w)]) (st' := [.inl (-2)]) (M' := (P, g, r0, n)) ok_X10_count true 1 rfl trivial ?_
  refine aj_ret (r := some (.inl (-2))) (ax_dec2 (i := .ireturn) (n := 1) ok_X10_count rfl) ⟨?_, ?_, by decide, by decide⟩ rfl
  · exact ⟨ax_si (by unfold mCount; (repeat first | rw [if_pos (by omega)] | rw [if_neg (by omega)] | rw [bI_t (by omega)] | rw [bI_f (by omega)]); try first | rfl | omega), rfl⟩
  · exact ax_ro_i

