/-! ===== reading of the class: where it stands ===== -/
def TRd : Nat → Int → Int → Prop := fun f o j => f = 308 ∨ f = 309 ∨ f = 310 ∨ (f = 3 ∧ o = 0 ∧ (j = 1 ∨ j = 7 ∨ j = 12))
def cTs (T V p : Int → Int) (N : Int) (g : Nat → Int → Int → Int) : Prop := (0 ≤ N ∧ N ≤ 160) ∧ g 3 0 6 = N + 1 ∧ T N = 0 ∧ ∀ i, 0 ≤ i → i ≤ N → g 303 0 i = T i ∧ g 304 0 i = p i ∧ (T i = 2 ∨ T i = 3 → g 305 0 i = V i)
def cRd (T V p : Int → Int) (N : Int) (g : Nat → Int → Int → Int) (s : rdS) : Prop := cTs T V p N g ∧ (g 3 0 7 = s.1 ∧ 0 ≤ s.1 ∧ s.1 ≤ N) ∧ (g 3 0 12 = (s.2.1.length : Int) ∧ s.2.1.length ≤ 160) ∧ (∀ (k : Nat) q, s.2.1[k]? = some q → g 308 0 k = q.1 ∧ g 309 0 k = q.2.1 ∧ g 310 0 k = q.2.2) ∧ g 3 0 1 = s.2.2
section RD
variable {T V p : Int → Int} {N : Int} {g g' : Nat → Int → Int → Int} {s : rdS}
theorem cTs_f (hf : cFr TRd g' g) (h : cTs T V p N g) : cTs T V p N g' := ⟨h.1, by rw [hf 3 0 6 (by unfold TRd; omega)]; exact h.2.1, h.2.2.1, fun i z1 z2 => by rw [hf 303 0 i (by unfold TRd; omega), hf 304 0 i (by unfold TRd; omega), hf 305 0 i (by unfold TRd; omega)]; exact h.2.2.2 i z1 z2⟩
theorem cRd_t (h : cRd T V p N g s) : g 303 0 (g 3 0 7) = T s.1 ∧ g 304 0 (g 3 0 7) = p s.1 ∧ (T s.1 = 2 ∨ T s.1 = 3 → g 305 0 (g 3 0 7) = V s.1) := by
  rw [h.2.1.1]
  exact h.1.2.2.2 _ h.2.1.2.1 h.2.1.2.2
theorem fr7 {x : Int} : cFr TRd (ax_u3 g 3 0 7 x) g := fun f o j z => ax_u3_n (by unfold TRd at z; omega)
theorem cRd_adv {t : Int} (h : cRd T V p N g s) (ht : T s.1 = t) (h0 : t ≠ 0) : cRd T V p N (ax_u3 g 3 0 7 (g 3 0 7 + 1)) (rAdv s) := by
  have hi := rAd_i h.1.2.2.1 h.2.1.2.2 ht h0
  refine ⟨cTs_f fr7 h.1, ⟨by rw [ax_u3_s, h.2.1.1]; rfl, ?_, hi⟩, ⟨by rw [ax_u3_n (by omega)]; exact h.2.2.1.1, h.2.2.1.2⟩, fun k q hq => ?_, by rw [ax_u3_n (by omega)]; exact h.2.2.2.2⟩
  · show 0 ≤ s.1 + 1
    have := h.2.1.2.1
    omega
  · rw [ax_u3_n (by omega), ax_u3_n (by omega), ax_u3_n (by omega)]
    exact h.2.2.2.1 k q hq
theorem cRd_ref (h : cRd T V p N g s) (he : s.2.2 = -1) : cRd T V p N (ax_u3 (ax_u3 g 3 0 1 (g 304 0 (g 3 0 7))) 3 0 7 (g 3 0 6 - 1)) (rRef p N s) := by
  have hr : rRef p N s = (N, s.2.1, p s.1) := if_pos he
  rw [hr]
  have hf : cFr TRd (ax_u3 (ax_u3 g 3 0 1 (g 304 0 (g 3 0 7))) 3 0 7 (g 3 0 6 - 1)) g := fun f o j z => by rw [ax_u3_n (by unfold TRd at z; omega), ax_u3_n (by unfold TRd at z; omega)]
  refine ⟨cTs_f hf h.1, ⟨?_, h.1.1.1, Int.le_refl _⟩, ⟨?_, h.2.2.1.2⟩, fun k q hq => ?_, ?_⟩
  · rw [ax_u3_s, h.1.2.1]
    show N + 1 - 1 = N
    omega
  · rw [ax_u3_n (by omega), ax_u3_n (by omega)]
    exact h.2.2.1.1
  · rw [ax_u3_n (by omega), ax_u3_n (by omega), ax_u3_n (by omega), ax_u3_n (by omega), ax_u3_n (by omega), ax_u3_n (by omega)]
    exact h.2.2.2.1 k q hq
  · rw [ax_u3_n (by omega), ax_u3_s]
    exact (cRd_t h).2.1
abbrev gNd (g : Nat → Int → Int → Int) (a b c : Int) : Nat → Int → Int → Int := ax_u3 (ax_u3 (ax_u3 (ax_u3 g 308 0 (g 3 0 12) a) 309 0 (g 3 0 12) b) 310 0 (g 3 0 12) c) 3 0 12 (g 3 0 12 + 1)
theorem frNd {a b c : Int} : cFr TRd (gNd g a b c) g := fun f o j z => by
  show ax_u3 _ 3 0 12 _ f o j = _
  rw [ax_u3_n (by unfold TRd at z; omega), ax_u3_n (by unfold TRd at z; omega), ax_u3_n (by unfold TRd at z; omega), ax_u3_n (by unfold TRd at z; omega)]
theorem cRd_nd {a b c : Int} (h : cRd T V p N g s) (hl : g 3 0 12 < 160) : cRd T V p N (gNd g a b c) (rNd a b c s).2 ∧ (rNd a b c s).1 = g 3 0 12 := by
  have hl2 : s.2.1.length < 160 := by have := h.2.2.1.1; omega
  rw [rNd_y hl2]
  refine ⟨⟨cTs_f frNd h.1, ⟨?_, h.2.1.2⟩, ⟨?_, ?_⟩, fun k q hq => ?_, ?_⟩, h.2.2.1.1.symm⟩
  · show ax_u3 _ 3 0 12 _ 3 0 7 = _
    rw [ax_u3_n (by omega), ax_u3_n (by omega), ax_u3_n (by omega), ax_u3_n (by omega)]
    exact h.2.1.1
  · show ax_u3 _ 3 0 12 _ 3 0 12 = ((s.2.1 ++ [(a, b, c)]).length : Int)
    rw [ax_u3_s, h.2.2.1.1, List.length_append]
    rfl
  · show (s.2.1 ++ [(a, b, c)]).length ≤ 160
    rw [List.length_append]
    show s.2.1.length + 1 ≤ 160
    omega
  · have hq : (s.2.1 ++ [(a, b, c)])[k]? = some q := hq
    have e : ∀ f : Nat, f ≠ 3 → gNd g a b c f 0 k = ax_u3 (ax_u3 (ax_u3 g 308 0 (g 3 0 12) a) 309 0 (g 3 0 12) b) 310 0 (g 3 0 12) c f 0 k := fun f z => ax_u3_n (by omega)
    rw [e 308 (by decide), e 309 (by decide), e 310 (by decide)]
    by_cases ck : k < s.2.1.length
    · rw [List.getElem?_append_left ck] at hq
      have hne : (k : Int) ≠ g 3 0 12 := by rw [h.2.2.1.1]; omega
      rw [ax_u3_n (by omega), ax_u3_n (by omega), ax_u3_n (by omega), ax_u3_n (by omega), ax_u3_n (by omega), ax_u3_n (by omega), ax_u3_n (by omega), ax_u3_n (by omega), ax_u3_n (by omega)]
      exact h.2.2.2.1 k q hq
    · rw [List.getElem?_append_right (by omega)] at hq
      by_cases ck2 : k = s.2.1.length
      · rw [ck2, Nat.sub_self] at hq
        have hq2 : (a, b, c) = q := Option.some.inj hq
        subst hq2
        have hk : (k : Int) = g 3 0 12 := by rw [h.2.2.1.1, ck2]
        rw [hk]
        refine ⟨?_, ?_, ?_⟩
        · rw [ax_u3_n (by omega), ax_u3_n (by omega), ax_u3_s]
        · rw [ax_u3_n (by omega), ax_u3_s]
        · rw [ax_u3_s]
      · rw [List.getElem?_eq_none (by show ([(a, b, c)] : List (Int × Int × Int)).length ≤ _; show 1 ≤ _; omega)] at hq
        cases hq
  · show ax_u3 _ 3 0 12 _ 3 0 1 = _
    rw [ax_u3_n (by omega), ax_u3_n (by omega), ax_u3_n (by omega), ax_u3_n (by omega)]
    exact h.2.2.2.2
end RD
/-- a reading method: from where s stands it goes as f -/
def cRdS (T V p : Int → Int) (N : Int) (y : MethodName) (c : ByteArray) (nL D : Nat) (op : Int) (f : rdF) : Prop := ∀ (s : rdS) (P : Nat → Int → Prop) (g : Nat → Int → Int → Int) (r0 : Nat → Int → Int → Option (Nat × Int)) (n : Nat → Int → Int), cTL n → cRd T V p N g s → ax_S y c nL (some FieldType.int) D 0 0 [.inr (.inr (some (3, 0))), .inl op] (P, g, r0, n) (fun r M' => r = some (.inl (f s).1) ∧ ∃ g', M' = (P, g', r0, n) ∧ cFr TRd g' g ∧ cRd T V p N g' (f s).2)
set_option maxRecDepth 100000 in
set_option maxHeartbeats 4000000 in
theorem cp_takes (t : Int) {T V p : Int → Int} {N : Int} (s : rdS) (P : Nat → Int → Prop) (g : Nat → Int → Int → Int) (r0 : Nat → Int → Int → Option (Nat × Int)) (n : Nat → Int → Int) (hn : cTL n) (hr : cRd T V p N g s) (h0 : t ≠ 0) : ax_S yX8_takes cX8_takes 2 (some FieldType.boolean) 0 0 0 [.inr (.inr (some (3, 0))), .inl t] (P, g, r0, n) (fun r M' => r = some (.inl (bI (T s.1 = t))) ∧ M' = (P, if T s.1 = t then ax_u3 g 3 0 7 (g 3 0 7 + 1) else g, r0, n)) := by
  obtain ⟨n302, n303, n304, n305, n308, n309, n310, n311⟩ := id hn
  obtain ⟨hTs, hr7, hr12, hrl, hr1⟩ := id hr
  obtain ⟨hN, hT6, hT0, hTi⟩ := id hTs
  have htk := cRd_t hr
  refine ax_S_of (own := 8) (by decide) rfl (fun h => absurd h (by decide)) rfl (Nat.le_of_ble_eq_true rfl) ?_
  change ax_J _ _ _ _ _ _ _ _ _ _ [some (.inr (.inr (some (3, 0)))), some (.inl t)] _ _
  refine aj_run (C := (0 ≤ g 3 0 7 ∧ g 3 0 7 < n 303 0) ∧ True) (pc' := 10) (la' := [some (.inr (.inr (some (3, 0)))), some (.inl t)]) (st' := [.inl t, .inl (g 303 0 (g 3 0 7))]) (M' := (P, g, r0, n)) ok_X8_takes true 6 rfl (by refine ⟨?_, trivial⟩ <;> (omega)) ?_
  refine aj_icmp_eq (tgt := 15) (ax_dec2 (i := .if_icmp .eq 5) (n := 3) ok_X8_takes rfl) (by decide) (fun c1 => ?_) (fun c1 => ?_)
  · refine aj_run (C := (-2147483648 ≤ (g 3 0 7) + 1 ∧ (g 3 0 7) + 1 ≤ 2147483647) ∧ True) (pc' := 26) (la' := [some (.inr (.inr (some (3, 0)))), some (.inl t)]) (st' := [.inl 1]) (M' := (P, ax_u3 g 3 0 7 ((g 3 0 7) + 1), r0, n)) ok_X8_takes true 7 rfl (by refine ⟨?_, trivial⟩ <;> (omega)) ?_
    refine aj_ret (r := some (.inl 1)) (ax_dec2 (i := .ireturn) (n := 1) ok_X8_takes rfl) ⟨?_, ?_, by decide, by decide⟩ rfl
    · exact ⟨ax_si (by (repeat first | rw [if_pos (by omega)] | rw [if_neg (by omega)] | rw [bI_t (by omega)] | rw [bI_f (by omega)])), by (repeat first | rw [if_pos (by omega)] | rw [if_neg (by omega)] | rw [bI_t (by omega)] | rw [bI_f (by omega)])⟩
    · exact ax_ro_b (by decide)
  · refine aj_run (C := True) (pc' := 14) (la' := [some (.inr (.inr (some (3, 0)))), some (.inl t)]) (st' := [.inl 0]) (M' := (P, g, r0, n)) ok_X8_takes true 1 rfl trivial ?_
    refine aj_ret (r := some (.inl 0)) (ax_dec2 (i := .ireturn) (n := 1) ok_X8_takes rfl) ⟨?_, ?_, by decide, by decide⟩ rfl
    · exact ⟨ax_si (by (repeat first | rw [if_pos (by omega)] | rw [if_neg (by omega)] | rw [bI_t (by omega)] | rw [bI_f (by omega)])), by (repeat first | rw [if_pos (by omega)] | rw [if_neg (by omega)] | rw [bI_t (by omega)] | rw [bI_f (by omega)])⟩
    · exact ax_ro_b (by decide)

set_option maxRecDepth 100000 in
set_option maxHeartbeats 4000000 in
theorem cp_refuse {T V p : Int → Int} {N : Int} (s : rdS) (P : Nat → Int → Prop) (g : Nat → Int → Int → Int) (r0 : Nat → Int → Int → Option (Nat × Int)) (n : Nat → Int → Int) (hn : cTL n) (hr : cRd T V p N g s) : ax_S yX8_refuse cX8_refuse 1 (some FieldType.int) 0 0 0 [.inr (.inr (some (3, 0)))] (P, g, r0, n) (fun r M' => r = some (.inl 0) ∧ ∃ g', M' = (P, g', r0, n) ∧ cFr TRd g' g ∧ cRd T V p N g' (rRef p N s)) := by
  obtain ⟨n302, n303, n304, n305, n308, n309, n310, n311⟩ := id hn
  obtain ⟨hTs, hr7, hr12, hrl, hr1⟩ := id hr
  obtain ⟨hN, hT6, hT0, hTi⟩ := id hTs
  have htk := cRd_t hr
  refine ax_S_of (own := 8) (by decide) rfl (fun h => absurd h (by decide)) rfl (Nat.le_of_ble_eq_true rfl) ?_
  change ax_J _ _ _ _ _ _ _ _ _ _ [some (.inr (.inr (some (3, 0))))] _ _
  refine aj_run (C := True) (pc' := 5) (la' := [some (.inr (.inr (some (3, 0))))]) (st' := [.inl (-1), .inl (g 3 0 1)]) (M' := (P, g, r0, n)) ok_X8_refuse true 3 rfl trivial ?_
  refine aj_icmp_ne (tgt := 31) (ax_dec2 (i := .if_icmp .ne 26) (n := 3) ok_X8_refuse rfl) (by decide) (fun c1 => ?_) (fun c1 => ?_)
  · refine aj_run (C := True) (pc' := 32) (la' := [some (.inr (.inr (some (3, 0))))]) (st' := [.inl 0]) (M' := (P, g, r0, n)) ok_X8_refuse true 1 rfl trivial ?_
    refine aj_ret (r := some (.inl 0)) (ax_dec2 (i := .ireturn) (n := 1) ok_X8_refuse rfl) ⟨?_, ?_, by decide, by decide⟩ rfl
    · exact ⟨rfl, _, rfl, fun _ _ _ _ => rfl, by rw [rRef_e (by omega)]; exact hr⟩
    · exact ax_ro_i
  · refine aj_run (C := (0 ≤ g 3 0 7 ∧ g 3 0 7 < n 304 0) ∧ (-2147483648 ≤ (g 3 0 6) - 1 ∧ (g 3 0 6) - 1 ≤ 2147483647) ∧ True) (pc' := 32) (la' := [some (.inr (.inr (some (3, 0))))]) (st' := [.inl 0]) (M' := (P, ax_u3 (ax_u3 g 3 0 1 (g 304 0 (g 3 0 7))) 3 0 7 ((g 3 0 6) - 1), r0, n)) ok_X8_refuse true 14 rfl (by refine ⟨?_, ?_, trivial⟩ <;> (omega)) ?_
    refine aj_ret (r := some (.inl 0)) (ax_dec2 (i := .ireturn) (n := 1) ok_X8_refuse rfl) ⟨?_, ?_, by decide, by decide⟩ rfl
    · exact ⟨rfl, _, rfl, fun f o j z => by rw [ax_u3_n (by unfold TRd at z; omega), ax_u3_n (by unfold TRd at z; omega)], cRd_ref hr (by omega)⟩
    · exact ax_ro_i

set_option maxRecDepth 100000 in
set_option maxHeartbeats 4000000 in
theorem cp_node (a b c : Int) {T V p : Int → Int} {N : Int} (s : rdS) (P : Nat → Int → Prop) (g : Nat → Int → Int → Int) (r0 : Nat → Int → Int → Option (Nat × Int)) (n : Nat → Int → Int) (hn : cTL n) (hr : cRd T V p N g s) : ax_S yX8_node cX8_node 4 (some FieldType.int) 0 0 0 [.inr (.inr (some (3, 0))), .inl a, .inl b, .inl c] (P, g, r0, n) (fun r M' => r = some (.inl (rNd a b c s).1) ∧ ∃ g', M' = (P, g', r0, n) ∧ cFr TRd g' g ∧ cRd T V p N g' (rNd a b c s).2) := by
  obtain ⟨n302, n303, n304, n305, n308, n309, n310, n311⟩ := id hn
  obtain ⟨hTs, hr7, hr12, hrl, hr1⟩ := id hr
  obtain ⟨hN, hT6, hT0, hTi⟩ := id hTs
  have htk := cRd_t hr
  refine ax_S_of (own := 8) (by decide) rfl (fun h => absurd h (by decide)) rfl (Nat.le_of_ble_eq_true rfl) ?_
  change ax_J _ _ _ _ _ _ _ _ _ _ [some (.inr (.inr (some (3, 0)))), some (.inl a), some (.inl b), some (.inl c)] _ _
  refine aj_run (C := True) (pc' := 7) (la' := [some (.inr (.inr (some (3, 0)))), some (.inl a), some (.inl b), some (.inl c)]) (st' := [.inl 160, .inl (g 3 0 12)]) (M' := (P, g, r0, n)) ok_X8_node true 3 rfl trivial ?_
  refine aj_icmp_lt (tgt := 12) (ax_dec2 (i := .if_icmp .lt 5) (n := 3) ok_X8_node rfl) (by decide) (fun c1 => ?_) (fun c1 => ?_)
  · refine aj_run (C := (0 ≤ g 3 0 12 ∧ g 3 0 12 < n 308 0) ∧ (0 ≤ g 3 0 12 ∧ g 3 0 12 < n 309 0) ∧ (0 ≤ g 3 0 12 ∧ g 3 0 12 < n 310 0) ∧ (-2147483648 ≤ (g 3 0 12) + 1 ∧ (g 3 0 12) + 1 ≤ 2147483647) ∧ (-2147483648 ≤ ((g 3 0 12) + 1) - 1 ∧ ((g 3 0 12) + 1) - 1 ≤ 2147483647) ∧ True) (pc' := 58) (la' := [some (.inr (.inr (some (3, 0)))), some (.inl a), some (.inl b), some (.inl c)]) (st' := [.inl (((g 3 0 12) + 1) - 1)]) (M' := (P, ax_u3 (ax_u3 (ax_u3 (ax_u3 g 308 0 (g 3 0 12) a) 309 0 (g 3 0 12) b) 310 0 (g 3 0 12) c) 3 0 12 ((g 3 0 12) + 1), r0, n)) ok_X8_node true 28 rfl (by refine ⟨?_, ?_, ?_, ?_, ?_, trivial⟩ <;> (omega)) ?_
    refine aj_ret (r := some (.inl (((g 3 0 12) + 1) - 1))) (ax_dec2 (i := .ireturn) (n := 1) ok_X8_node rfl) ⟨?_, ?_, by decide, by decide⟩ rfl
    · (have hnd := cRd_nd (a := a) (b := b) (c := c) hr (by omega); exact ⟨ax_si (by rw [hnd.2]; omega), _, rfl, frNd, hnd.1⟩)
    · exact ax_ro_i
  · refine aj_run (C := True) (pc' := 11) (la' := [some (.inr (.inr (some (3, 0)))), some (.inl a), some (.inl b), some (.inl c)]) (st' := [.inl 0]) (M' := (P, g, r0, n)) ok_X8_node true 1 rfl trivial ?_
    refine aj_ret (r := some (.inl 0)) (ax_dec2 (i := .ireturn) (n := 1) ok_X8_node rfl) ⟨?_, ?_, by decide, by decide⟩ rfl
    · exact ⟨ax_si (by have hge : 160 ≤ s.2.1.length := (by omega); unfold rNd; rw [if_pos hge]), g, rfl, fun _ _ _ _ => rfl, by have hge : 160 ≤ s.2.1.length := (by omega); unfold rNd; rw [if_pos hge]; exact hr⟩
    · exact ax_ro_i

set_option maxRecDepth 100000 in
set_option maxHeartbeats 4000000 in
theorem cp_need (t : Int) {T V p : Int → Int} {N : Int} (s : rdS) (P : Nat → Int → Prop) (g : Nat → Int → Int → Int) (r0 : Nat → Int → Int → Option (Nat × Int)) (n : Nat → Int → Int) (hn : cTL n) (hr : cRd T V p N g s) (h0 : t ≠ 0) : ax_S yX8_need cX8_need 2 none 1 0 0 [.inr (.inr (some (3, 0))), .inl t] (P, g, r0, n) (fun r M' => r = none ∧ ∃ g', M' = (P, g', r0, n) ∧ cFr TRd g' g ∧ cRd T V p N g' (rNeed T p N t s)) := by
  obtain ⟨n302, n303, n304, n305, n308, n309, n310, n311⟩ := id hn
  obtain ⟨hTs, hr7, hr12, hrl, hr1⟩ := id hr
  obtain ⟨hN, hT6, hT0, hTi⟩ := id hTs
  have htk := cRd_t hr
  refine ax_S_of (own := 8) (by decide) rfl (fun h => absurd h (by decide)) rfl (Nat.le_of_ble_eq_true rfl) ?_
  change ax_J _ _ _ _ _ _ _ _ _ _ [some (.inr (.inr (some (3, 0)))), some (.inl t)] _ _
  refine aj_run (C := True) (pc' := 2) (la' := [some (.inr (.inr (some (3, 0)))), some (.inl t)]) (st' := [.inl t, .inr (.inr (some (3, 0)))]) (M' := (P, g, r0, n)) ok_X8_need true 2 rfl trivial ?_
  refine aj_callV (av := [.inl t]) (st := []) (f := 3) (o := 0) (ci := 8) cal_X8_takes lk_8_141 ins_X8_takes rfl sel_X8_takes rfl (fun c9 h9 _ => by simpa [ax_ok] using h9) (cp_takes t s _ _ _ _ hn hr h0) ⟨by decide, by decide, by decide, by decide⟩ (Nat.le_of_ble_eq_true rfl) (ax_dec2 (i := .invokevirtual 141) (n := 3) ok_X8_need rfl) (fun r M' hq => ?_)
  obtain ⟨rfl, rfl⟩ := hq
  by_cases ht1 : T s.1 = t
  · rw [bI_t ht1, if_pos ht1]
    have hr2 := cRd_adv hr ht1 h0
    change ax_J _ _ _ _ _ _ _ _ _ 5 [some (.inr (.inr (some (3, 0)))), some (.inl t)] [.inl 1] (P, ax_u3 g 3 0 7 (g 3 0 7 + 1), r0, n)
    refine aj_if_ne (tgt := 13) (ax_dec2 (i := .ifCond .ne 8) (n := 3) ok_X8_need rfl) (by decide) (fun c1 => ?_) (fun c1 => ?_)
    · refine aj_ret (r := none) (ax_dec2 (i := .return_) (n := 1) ok_X8_need rfl) ⟨?_, ?_, by decide, by decide⟩ rfl
      · exact ⟨rfl, _, rfl, fr7, by unfold rNeed; rw [if_pos ht1]; exact hr2⟩
      · exact trivial
    · exact absurd c1 (by omega)
  · rw [bI_f ht1, if_neg ht1]
    change ax_J _ _ _ _ _ _ _ _ _ 5 [some (.inr (.inr (some (3, 0)))), some (.inl t)] [.inl 0] (P, g, r0, n)
    refine aj_if_ne (tgt := 13) (ax_dec2 (i := .ifCond .ne 8) (n := 3) ok_X8_need rfl) (by decide) (fun c2 => ?_) (fun c2 => ?_)
    · exact absurd c2 (by omega)
    · refine aj_run (C := True) (pc' := 9) (la' := [some (.inr (.inr (some (3, 0)))), some (.inl t)]) (st' := [.inr (.inr (some (3, 0)))]) (M' := (P, g, r0, n)) ok_X8_need true 1 rfl trivial ?_
      refine aj_callV (av := []) (st := []) (f := 3) (o := 0) (ci := 8) cal_X8_refuse lk_8_56 ins_X8_refuse rfl sel_X8_refuse rfl (fun c9 h9 _ => by simpa [ax_ok] using h9) (cp_refuse s _ _ _ _ hn hr) ⟨by decide, by decide, by decide, by decide⟩ (Nat.le_of_ble_eq_true rfl) (ax_dec2 (i := .invokevirtual 56) (n := 3) ok_X8_need rfl) (fun r M' hq => ?_)
      obtain ⟨rfl, g103, rfl, fr103, hr3⟩ := hq
      have fs3 := cFr_t fr103 (fun _ _ _ _ => rfl)
      change ax_J _ _ _ _ _ _ _ _ _ 12 [some (.inr (.inr (some (3, 0)))), some (.inl t)] [.inl 0] (P, g103, r0, n)
      refine aj_run (C := True) (pc' := 13) (la' := [some (.inr (.inr (some (3, 0)))), some (.inl t)]) (st' := []) (M' := (P, g103, r0, n)) ok_X8_need true 1 rfl trivial ?_
      refine aj_ret (r := none) (ax_dec2 (i := .return_) (n := 1) ok_X8_need rfl) ⟨?_, ?_, by decide, by decide⟩ rfl
      · exact ⟨rfl, _, rfl, fs3, by unfold rNeed; rw [if_neg ht1]; exact hr3⟩
      · exact trivial

