/-! ===== the class reads its tape ===== -/
def rS1 (T V p : Int → Int) (N : Int) : rdS := rPart T V p N 5 (0, [], -1)
def rS2 (T V p : Int → Int) (N : Int) : rdS := rPart T V p N 6 (rS1 T V p N)
def rS3 (T V p : Int → Int) (N : Int) : rdS := rPart T V p N 7 (rS2 T V p N)
def rSZ (T V p : Int → Int) (N : Int) : rdS := if T (rS3 T V p N).1 = 0 then rS3 T V p N else rRef p N (rS3 T V p N)
def rRo (T V p : Int → Int) (N q : Int) : Int := if q = 0 then rRoot T V p N 5 (0, [], -1) else if q = 1 then rRoot T V p N 6 (rS1 T V p N) else rRoot T V p N 7 (rS2 T V p N)
def TRx : Nat → Int → Int → Prop := fun f o j => (303 ≤ f ∧ f ≤ 311) ∨ (f = 3 ∧ o = 0 ∧ (j = 1 ∨ j = 6 ∨ j = 7 ∨ j = 12))
theorem TRp_x {f : Nat} {o j : Int} (h : ¬ TRx f o j) : ¬ TRp f o j := fun z => h (by unfold TRx; unfold TRp TRd at z; omega)
theorem TLx_x {f : Nat} {o j : Int} (h : ¬ TRx f o j) : ¬ TLx f o j := fun z => h (by unfold TRx; unfold TLx at z; omega)
theorem TRd_x {f : Nat} {o j : Int} (h : ¬ TRx f o j) : ¬ TRd f o j := fun z => h (by unfold TRx; unfold TRd at z; omega)
/-- a rule that came: t its number, L its nodes, ro its roots -/
def cRul (P : Nat → Int → Prop) (g : Nat → Int → Int → Int) (r0 : Nat → Int → Int → Option (Nat × Int)) (n : Nat → Int → Int) (t : Int) (L : List (Int × Int × Int)) (ro : Int → Int) (P' : Nat → Int → Prop) (g' : Nat → Int → Int → Int) (r' : Nat → Int → Int → Option (Nat × Int)) (n' : Nat → Int → Int) : Prop :=
  (∀ f o, P' f o ↔ (P f o ∨ ((f = 6 ∨ (600 ≤ f ∧ f ≤ 604)) ∧ o = t))) ∧
  ((n' 600 t = L.length ∧ n' 601 t = L.length ∧ n' 602 t = L.length ∧ n' 603 t = 3 ∧ n' 604 t = L.length) ∧ ∀ f o, ¬ (((f = 6 ∨ (600 ≤ f ∧ f ≤ 604)) ∧ o = t) ∨ f = 1006) → n' f o = n f o) ∧
  ((∀ (k : Nat) q, L[k]? = some q → g' 600 t k = q.1 ∧ g' 601 t k = q.2.1 ∧ g' 602 t k = q.2.2) ∧ (∀ j, 0 ≤ j → j < 3 → g' 603 t j = ro j) ∧ ∀ f o j, ¬ (((f = 6 ∨ (600 ≤ f ∧ f ≤ 604)) ∧ o = t) ∨ f = 1006 ∨ TRx f o j) → g' f o j = g f o j) ∧
  (∀ f o j, ¬ (((f = 6 ∨ (600 ≤ f ∧ f ≤ 604)) ∧ o = t) ∨ f = 1006) → r' f o j = r0 f o j) ∧ ax_nd (P', g', r', n')
theorem of_rul {P : Nat → Int → Prop} {g ga gb : Nat → Int → Int → Int} {r0 : Nat → Int → Int → Option (Nat × Int)} {n : Nat → Int → Int} {t m : Int} {L : List (Int × Int × Int)} {ro : Int → Int} (hnd : ax_nd (P, ga, r0, n)) (hp : ∀ f o, P f o → f ≠ 1006) (hfr : ¬ P 6 t) (hm : m = L.length)
    (hga : cFr TRx ga g) (hL : ∀ (k : Nat) q, L[k]? = some q → ga 308 0 k = q.1 ∧ ga 309 0 k = q.2.1 ∧ ga 310 0 k = q.2.2) (hro : ∀ j, 0 ≤ j → j < 3 → ga 311 0 j = ro j)
    (b1 : ∀ j, 0 ≤ j → j < m → gb 600 t j = mkG ga 1006 t 308 0 j ∧ gb 601 t j = mkG ga 1006 t 309 0 j ∧ gb 602 t j = mkG ga 1006 t 310 0 j) (b2 : ∀ j, 0 ≤ j → j < 3 → gb 603 t j = mkG ga 1006 t 311 0 j) (b3 : ∀ f o j, ¬ ((600 ≤ f ∧ f ≤ 604) ∧ o = t) → gb f o j = mkG ga 1006 t f o j) :
    ∃ P' g' r' n', ax_rn (rlP (mkP P 1006 t) t, gb, rlR (mkR r0 1006 t) t, rlN (mkN n 1006 t 4) t m) 6 t = (P', g', r', n') ∧ cRul P g r0 n t L ro P' g' r' n' := by
  have hnd2 : ax_nd (rlP (mkP P 1006 t) t, gb, rlR (mkR r0 1006 t) t, rlN (mkN n 1006 t 4) t m) := nd_rl (nd_mk (x := 4) hnd)
  have hnr2 : ax_nr (rlP (mkP P 1006 t) t, gb, rlR (mkR r0 1006 t) t, rlN (mkN n 1006 t 4) t m) 1006 t := nr_rl (nr_mk (x := 4) (nr_0 hnd (fun z => by have := hp _ _ z; omega) (by decide)))
  obtain ⟨k0, k1, k2, k3, k4⟩ := rlN_k (n := mkN n 1006 t 4) (t := t) (m := m)
  refine ⟨_, _, _, _, rfl, fun f o => ⟨fun h => ?_, fun h => ?_⟩, ⟨⟨?_, ?_, ?_, ?_, ?_⟩, fun f o h => ?_⟩, ⟨fun k q hq => ?_, fun j z1 z2 => ?_, fun f o j h => ?_⟩, fun f o j h => ?_, ax_nd_rn hnd2 hnr2 (rlP_i.mpr (Or.inl (Or.inl ⟨rfl, rfl⟩)))⟩
  · rcases h with y | ⟨y, z⟩
    · exact Or.inr ⟨Or.inl y.1, y.2⟩
    · rcases rlP_i.mp y with x | x
      · rcases x with w | w
        · exact absurd w z
        · exact Or.inl w
      · exact Or.inr ⟨Or.inr x.1, x.2⟩
  · rcases h with y | ⟨y | y, z⟩
    · exact Or.inr ⟨rlP_i.mpr (Or.inl (Or.inr y)), fun z => by have := hp _ _ y; omega⟩
    · exact Or.inl ⟨y, z⟩
    · exact Or.inr ⟨rlP_i.mpr (Or.inr ⟨y, z⟩), fun w => by omega⟩
  · show (if (600 = 6 ∧ t = t) then _ else rlN (mkN n 1006 t 4) t m 600 t) = _
    rw [if_neg (by omega), k0, hm]
  · show (if (601 = 6 ∧ t = t) then _ else rlN (mkN n 1006 t 4) t m 601 t) = _
    rw [if_neg (by omega), k1, hm]
  · show (if (602 = 6 ∧ t = t) then _ else rlN (mkN n 1006 t 4) t m 602 t) = _
    rw [if_neg (by omega), k2, hm]
  · show (if (603 = 6 ∧ t = t) then _ else rlN (mkN n 1006 t 4) t m 603 t) = _
    rw [if_neg (by omega), k3]
  · show (if (604 = 6 ∧ t = t) then _ else rlN (mkN n 1006 t 4) t m 604 t) = _
    rw [if_neg (by omega), k4, hm]
  · show (if (f = 6 ∧ o = t) then _ else rlN (mkN n 1006 t 4) t m f o) = _
    rw [if_neg (by omega), rlN_o (by omega), mkN_n (by omega)]
  · have hk : k < L.length := by
      by_cases c : k < L.length
      · exact c
      · rw [List.getElem?_eq_none (by omega)] at hq
        cases hq
    obtain ⟨q1, q2, q3⟩ := hL k q hq
    obtain ⟨c1, c2, c3⟩ := b1 k (by omega) (by omega)
    refine ⟨?_, ?_, ?_⟩
    · show (if (600 = 6 ∧ t = t) then _ else gb 600 t k) = _
      rw [if_neg (by omega), c1, mkG_n (by omega), q1]
    · show (if (601 = 6 ∧ t = t) then _ else gb 601 t k) = _
      rw [if_neg (by omega), c2, mkG_n (by omega), q2]
    · show (if (602 = 6 ∧ t = t) then _ else gb 602 t k) = _
      rw [if_neg (by omega), c3, mkG_n (by omega), q3]
  · show (if (603 = 6 ∧ t = t) then _ else gb 603 t j) = _
    rw [if_neg (by omega), b2 j z1 z2, mkG_n (by omega), hro j z1 z2]
  · show (if (f = 6 ∧ o = t) then _ else gb f o j) = _
    rw [if_neg (by omega), b3 f o j (by omega), mkG_n (by omega)]
    exact hga f o j (fun z => h (Or.inr (Or.inr z)))
  · show (if (f = 6 ∧ o = t) then _ else rlR (mkR r0 1006 t) t f o j) = _
    rw [if_neg (by omega), rlR_o (by omega), mkR_n (by omega)]
set_option maxRecDepth 100000 in
set_option maxHeartbeats 4000000 in
theorem cp_read (t : Int) (P : Nat → Int → Prop) (g : Nat → Int → Int → Int) (r0 : Nat → Int → Int → Option (Nat × Int)) (n : Nat → Int → Int) (hn : cTL n) (hz : 0 ≤ g 3 0 0 ∧ g 3 0 0 ≤ 160) (hS : cStr P) (hfr : ¬ P 6 t ∧ ∀ k : Nat, 600 ≤ k → k ≤ 604 → ¬ P k t) (hp : ∀ f o, P f o → f ≠ 1006) (hnd : ax_nd (P, g, r0, n)) : ax_S yX8_read cX8_read 1 (some (FieldType.object "AntsTurn$Rule")) 40 6 648 [.inr (.inr (some (3, 0)))] (P, g, r0, n) (fun r M' => ((rSZ (tT (g 302 0) (g 3 0 0)) (tV (g 302 0) (g 3 0 0)) (tkP (g 302 0) (g 3 0 0)) (tkN (g 302 0) (g 3 0 0))).2.2 ≠ -1 ∧ r = some (.inr (.inr none)) ∧ ∃ g', M' = (P, g', r0, n) ∧ cFr TRx g' g ∧ g' 3 0 1 = (rSZ (tT (g 302 0) (g 3 0 0)) (tV (g 302 0) (g 3 0 0)) (tkP (g 302 0) (g 3 0 0)) (tkN (g 302 0) (g 3 0 0))).2.2) ∨ ((rSZ (tT (g 302 0) (g 3 0 0)) (tV (g 302 0) (g 3 0 0)) (tkP (g 302 0) (g 3 0 0)) (tkN (g 302 0) (g 3 0 0))).2.2 = -1 ∧ r = some (.inr (.inr (some (6, t)))) ∧ ∃ P' g' r' n', M' = (P', g', r', n') ∧ cRul P g r0 n t (rSZ (tT (g 302 0) (g 3 0 0)) (tV (g 302 0) (g 3 0 0)) (tkP (g 302 0) (g 3 0 0)) (tkN (g 302 0) (g 3 0 0))).2.1 (rRo (tT (g 302 0) (g 3 0 0)) (tV (g 302 0) (g 3 0 0)) (tkP (g 302 0) (g 3 0 0)) (tkN (g 302 0) (g 3 0 0))) P' g' r' n')) := by
  obtain ⟨n302, n303, n304, n305, n308, n309, n310, n311⟩ := id hn
  refine ax_S_of (own := 8) (by decide) rfl (fun h => absurd h (by decide)) rfl (Nat.le_of_ble_eq_true rfl) ?_
  change ax_J _ _ _ _ _ _ _ _ _ _ [some (.inr (.inr (some (3, 0))))] _ _
  refine aj_run (C := True) (pc' := 1) (la' := [some (.inr (.inr (some (3, 0))))]) (st' := [.inr (.inr (some (3, 0)))]) (M' := (P, g, r0, n)) ok_X8_read true 1 rfl trivial ?_
  refine aj_callV (av := []) (st := []) (f := 3) (o := 0) (ci := 8) cal_X8_split lk_8_40 ins_X8_split rfl sel_X8_split rfl (fun c9 h9 _ => by simpa [ax_ok] using h9) (cp_split _ _ _ _ hn hz hS) ⟨by decide, by decide, by decide, by decide⟩ (Nat.le_of_ble_eq_true rfl) (ax_dec2 (i := .invokevirtual 40) (n := 3) ok_X8_read rfl) (fun r M' hq => ?_)
  obtain ⟨rfl, g1, rfl, fr1, h61, htk1⟩ := hq
  change ax_J _ _ _ _ _ _ _ _ _ 4 [some (.inr (.inr (some (3, 0))))] [] (P, g1, r0, n)
  refine aj_run (C := True) (pc' := 19) (la' := [some (.inr (.inr (some (3, 0))))]) (st' := []) (M' := (P, ax_u3 (ax_u3 (ax_u3 g1 3 0 7 0) 3 0 12 0) 3 0 1 (-1), r0, n)) ok_X8_read true 9 rfl trivial ?_
  have hts : cTs (tT (g 302 0) (g 3 0 0)) (tV (g 302 0) (g 3 0 0)) (tkP (g 302 0) (g 3 0 0)) (tkN (g 302 0) (g 3 0 0)) (g1) := ⟨by have := tkN_in (B := (g 302 0)) hz.1; omega, h61, tT_N hz.1, fun i z1 z2 => htk1 i z1 (by omega)⟩
  have hr0 : cRd (tT (g 302 0) (g 3 0 0)) (tV (g 302 0) (g 3 0 0)) (tkP (g 302 0) (g 3 0 0)) (tkN (g 302 0) (g 3 0 0)) (ax_u3 (ax_u3 (ax_u3 g1 3 0 7 0) 3 0 12 0) 3 0 1 (-1)) (0, [], -1) := ⟨⟨hts.1, by rw [ax_u3_n (by omega), ax_u3_n (by omega), ax_u3_n (by omega)]; exact hts.2.1, hts.2.2.1, fun i z1 z2 => by rw [ax_u3_n (by omega), ax_u3_n (by omega), ax_u3_n (by omega), ax_u3_n (by omega), ax_u3_n (by omega), ax_u3_n (by omega), ax_u3_n (by omega), ax_u3_n (by omega), ax_u3_n (by omega)]; exact hts.2.2.2 i z1 z2⟩, ⟨by rw [ax_u3_n (by omega), ax_u3_n (by omega), ax_u3_s], Int.le_refl 0, hts.1.1⟩, ⟨by rw [ax_u3_n (by omega), ax_u3_s]; rfl, Nat.zero_le _⟩, (fun k q hq => by cases hq), ax_u3_s⟩
  have fr0 : cFr TRx (ax_u3 (ax_u3 (ax_u3 g1 3 0 7 0) 3 0 12 0) 3 0 1 (-1)) g := fun f o j z => by rw [ax_u3_n (fun y => z (Or.inr ⟨y.1, y.2.1, by omega⟩)), ax_u3_n (fun y => z (Or.inr ⟨y.1, y.2.1, by omega⟩)), ax_u3_n (fun y => z (Or.inr ⟨y.1, y.2.1, by omega⟩))]; exact fr1 f o j (TLx_x z)
  refine aj_run (C := True) (pc' := 22) (la' := [some (.inr (.inr (some (3, 0))))]) (st' := [.inl 0, .inl 5, .inr (.inr (some (3, 0)))]) (M' := (P, ax_u3 (ax_u3 (ax_u3 g1 3 0 7 0) 3 0 12 0) 3 0 1 (-1), r0, n)) ok_X8_read true 3 rfl trivial ?_
  refine aj_callV (av := [.inl 5, .inl 0]) (st := []) (f := 3) (o := 0) (ci := 8) cal_X8_readPart lk_8_52 ins_X8_readPart rfl sel_X8_readPart rfl (fun c9 h9 _ => by simpa [ax_ok] using h9) (cp_readPart 5 0 (0, [], -1) _ _ _ _ hn hr0 (by decide) (by decide)) ⟨by decide, by decide, by decide, by decide⟩ (Nat.le_of_ble_eq_true rfl) (ax_dec2 (i := .invokevirtual 52) (n := 3) ok_X8_read rfl) (fun r M' hq => ?_)
  obtain ⟨rfl, gp1, rfl, frp1, hr1, ro1, rq1⟩ := hq
  have fr1x : cFr TRx gp1 g := fun f o j z => (frp1 f o j (TRp_x z)).trans (fr0 f o j z)
  change ax_J _ _ _ _ _ _ _ _ _ 25 [some (.inr (.inr (some (3, 0))))] [] (P, gp1, r0, n)
  refine aj_run (C := True) (pc' := 29) (la' := [some (.inr (.inr (some (3, 0))))]) (st' := [.inl 1, .inl 6, .inr (.inr (some (3, 0)))]) (M' := (P, gp1, r0, n)) ok_X8_read true 3 rfl trivial ?_
  refine aj_callV (av := [.inl 6, .inl 1]) (st := []) (f := 3) (o := 0) (ci := 8) cal_X8_readPart lk_8_52 ins_X8_readPart rfl sel_X8_readPart rfl (fun c9 h9 _ => by simpa [ax_ok] using h9) (cp_readPart 6 1 (rS1 (tT (g 302 0) (g 3 0 0)) (tV (g 302 0) (g 3 0 0)) (tkP (g 302 0) (g 3 0 0)) (tkN (g 302 0) (g 3 0 0))) _ _ _ _ hn hr1 (by decide) (by decide)) ⟨by decide, by decide, by decide, by decide⟩ (Nat.le_of_ble_eq_true rfl) (ax_dec2 (i := .invokevirtual 52) (n := 3) ok_X8_read rfl) (fun r M' hq => ?_)
  obtain ⟨rfl, gp2, rfl, frp2, hr2, ro2, rq2⟩ := hq
  have fr2x : cFr TRx gp2 g := fun f o j z => (frp2 f o j (TRp_x z)).trans (fr1x f o j z)
  change ax_J _ _ _ _ _ _ _ _ _ 32 [some (.inr (.inr (some (3, 0))))] [] (P, gp2, r0, n)
  refine aj_run (C := True) (pc' := 36) (la' := [some (.inr (.inr (some (3, 0))))]) (st' := [.inl 2, .inl 7, .inr (.inr (some (3, 0)))]) (M' := (P, gp2, r0, n)) ok_X8_read true 3 rfl trivial ?_
  refine aj_callV (av := [.inl 7, .inl 2]) (st := []) (f := 3) (o := 0) (ci := 8) cal_X8_readPart lk_8_52 ins_X8_readPart rfl sel_X8_readPart rfl (fun c9 h9 _ => by simpa [ax_ok] using h9) (cp_readPart 7 2 (rS2 (tT (g 302 0) (g 3 0 0)) (tV (g 302 0) (g 3 0 0)) (tkP (g 302 0) (g 3 0 0)) (tkN (g 302 0) (g 3 0 0))) _ _ _ _ hn hr2 (by decide) (by decide)) ⟨by decide, by decide, by decide, by decide⟩ (Nat.le_of_ble_eq_true rfl) (ax_dec2 (i := .invokevirtual 52) (n := 3) ok_X8_read rfl) (fun r M' hq => ?_)
  obtain ⟨rfl, gp3, rfl, frp3, hr3, ro3, rq3⟩ := hq
  have fr3x : cFr TRx gp3 g := fun f o j z => (frp3 f o j (TRp_x z)).trans (fr2x f o j z)
  change ax_J _ _ _ _ _ _ _ _ _ 39 [some (.inr (.inr (some (3, 0))))] [] (P, gp3, r0, n)
  have hro9 : ∀ j, 0 ≤ j → j < 3 → gp3 311 0 j = rRo (tT (g 302 0) (g 3 0 0)) (tV (g 302 0) (g 3 0 0)) (tkP (g 302 0) (g 3 0 0)) (tkN (g 302 0) (g 3 0 0)) j := fun j z1 z2 => by
      unfold rRo
      by_cases c0 : j = 0
      · rw [c0, if_pos rfl, rq3 0 (by decide), rq2 0 (by decide), ro1]
      · rw [if_neg c0]
        by_cases c1 : j = 1
        · rw [c1, if_pos rfl, rq3 1 (by decide), ro2]
        · rw [if_neg c1, show j = 2 by omega, ro3]
  have htk3 := cRd_t hr3
  obtain ⟨-, hb3, -⟩ := id hr3
  have hN9 := hts.1
  have hT39 : tT (g 302 0) (g 3 0 0) (rS3 (tT (g 302 0) (g 3 0 0)) (tV (g 302 0) (g 3 0 0)) (tkP (g 302 0) (g 3 0 0)) (tkN (g 302 0) (g 3 0 0))).1 = gp3 303 0 (gp3 3 0 7) := htk3.1.symm
  refine aj_run (C := (0 ≤ gp3 3 0 7 ∧ gp3 3 0 7 < n 303 0) ∧ True) (pc' := 48) (la' := [some (.inr (.inr (some (3, 0))))]) (st' := [.inl (gp3 303 0 (gp3 3 0 7))]) (M' := (P, gp3, r0, n)) ok_X8_read true 5 rfl (by refine ⟨?_, trivial⟩ <;> (omega)) ?_
  refine aj_if_eq (tgt := 56) (ax_dec2 (i := .ifCond .eq 8) (n := 3) ok_X8_read rfl) (by decide) (fun c1 => ?_) (fun c1 => ?_)
  · have hrZ : cRd (tT (g 302 0) (g 3 0 0)) (tV (g 302 0) (g 3 0 0)) (tkP (g 302 0) (g 3 0 0)) (tkN (g 302 0) (g 3 0 0)) gp3 (rSZ (tT (g 302 0) (g 3 0 0)) (tV (g 302 0) (g 3 0 0)) (tkP (g 302 0) (g 3 0 0)) (tkN (g 302 0) (g 3 0 0))) := by unfold rSZ; rw [if_pos (by omega)]; exact hr3
    have frZ := fr3x
    have hroZ := hro9
    have hf9 := hrZ.2.2.2.2
    have hl9 := hrZ.2.2.1
    have hndZ : ax_nd (P, gp3, r0, n) := hnd
    refine aj_run (C := True) (pc' := 61) (la' := [some (.inr (.inr (some (3, 0))))]) (st' := [.inl (-1), .inl (gp3 3 0 1)]) (M' := (P, gp3, r0, n)) ok_X8_read true 3 rfl trivial ?_
    refine aj_icmp_ne (tgt := 94) (ax_dec2 (i := .if_icmp .ne 33) (n := 3) ok_X8_read rfl) (by decide) (fun c2 => ?_) (fun c2 => ?_)
    · refine aj_run (C := True) (pc' := 95) (la' := [some (.inr (.inr (some (3, 0))))]) (st' := [.inr (.inr none)]) (M' := (P, gp3, r0, n)) ok_X8_read true 1 rfl trivial ?_
      refine aj_ret (r := some (.inr (.inr none))) (ax_dec2 (i := .areturn) (n := 1) ok_X8_read rfl) ⟨?_, ?_, by decide, by decide⟩ rfl
      · exact Or.inl ⟨by rw [← hf9]; omega, rfl, _, rfl, frZ, hf9⟩
      · exact trivial
    · refine aj_new (ci := 4) (f := 1006) (o := t) rfl rfl (by decide) (by decide) (ax_T2 (i := 79) (by decide +kernel) rfl) (ax_T2 (i := 80) (by decide +kernel) rfl) (ax_T1 (i := 9) (by decide +kernel) rfl) (fun z => by have := hp _ _ z; omega) hndZ ⟨by decide, by decide⟩ (ax_dec2 (i := .new 60) (n := 3) ok_X8_read rfl) ?_
      change ax_J _ _ _ _ _ _ _ _ _ 67 [some (.inr (.inr (some (3, 0))))] [.inr (.inr (some (1006, t)))] (mkP P 1006 t, mkG gp3 1006 t, mkR r0 1006 t, mkN n 1006 t 4)
      have nd1 : ax_nd (mkP P 1006 t, mkG gp3 1006 t, mkR r0 1006 t, mkN n 1006 t 4) := nd_mk hndZ
      refine aj_run (C := True) (pc' := 88) (la' := [some (.inr (.inr (some (3, 0))))]) (st' := [.inl (gp3 3 0 12), .inr (.inr (some (311, 0))), .inr (.inr (some (310, 0))), .inr (.inr (some (309, 0))), .inr (.inr (some (308, 0))), .inr (.inr (some (1006, t))), .inr (.inr (some (1006, t)))]) (M' := (mkP P 1006 t, mkG gp3 1006 t, mkR r0 1006 t, mkN n 1006 t 4)) ok_X8_read true 11 rfl trivial ?_
      refine aj_callI (av := [.inr (.inr (some (308, 0))), .inr (.inr (some (309, 0))), .inr (.inr (some (310, 0))), .inr (.inr (some (311, 0))), .inl (gp3 3 0 12)]) (st := [.inr (.inr (some (1006, t)))]) (f := 1006) (o := t) cal_X4_init rfl lk_8_62 ins_X4_init (cp_X4_init t (gp3 3 0 12) _ _ _ _ (by unfold cTL at hn ⊢; simpa [mkN] using hn) (by omega) (fun k z1 z2 => mkP_n (by omega) (hfr.2 k z1 z2)) nd1) ⟨by decide, by decide, by decide, by decide⟩ (Nat.le_of_ble_eq_true rfl) (ax_dec2 (i := .invokespecial 62) (n := 3) ok_X8_read rfl) (fun r M' hq => ?_)
      obtain ⟨rfl, gb, rfl, b1, b2, b3⟩ := hq
      obtain ⟨P9, g8, r9, n9, e9, hrul⟩ := of_rul (L := (rSZ (tT (g 302 0) (g 3 0 0)) (tV (g 302 0) (g 3 0 0)) (tkP (g 302 0) (g 3 0 0)) (tkN (g 302 0) (g 3 0 0))).2.1) (ro := rRo (tT (g 302 0) (g 3 0 0)) (tV (g 302 0) (g 3 0 0)) (tkP (g 302 0) (g 3 0 0)) (tkN (g 302 0) (g 3 0 0))) (m := gp3 3 0 12) hndZ hp hfr.1 (by omega) frZ hrZ.2.2.2.1 hroZ b1 b2 b3
      have hndB : ax_nd (rlP (mkP P 1006 t) t, gb, rlR (mkR r0 1006 t) t, rlN (mkN n 1006 t 4) t (gp3 3 0 12)) := nd_rl (nd_mk (x := 4) hndZ)
      have hk6 := rlR_k (r := mkR r0 1006 t) (t := t)
      change ax_J _ _ _ _ _ _ _ _ _ 91 [some (.inr (.inr (some (3, 0))))] [.inr (.inr (some (1006, t)))] (rlP (mkP P 1006 t) t, gb, rlR (mkR r0 1006 t) t, rlN (mkN n 1006 t 4) t (gp3 3 0 12))
      refine aj_name (f := 6) (o := t) (by decide) rfl (rlP_i.mpr (Or.inl (Or.inl ⟨rfl, rfl⟩))) (fun z9 => by rcases rlP_i.mp z9 with y | y; exact mkP_n (fun w => absurd w.1 (by decide)) hfr.1 y; omega) (fun z9 => by have := hp _ _ z9; omega) hndB (nr_rl (nr_mk (x := 4) (nr_0 hndZ (fun z => by have := hp _ _ z; omega) (by decide)))) (by decide) ?_ (by intro v9 h9; simp at h9; subst h9; rfl) (by intro v9 h9; simp at h9) ?_
      · intro k9 h8 h9
        have hk9 : k9 = 0 ∨ k9 = 1 ∨ k9 = 2 ∨ k9 = 3 ∨ k9 = 4 := by have : k9 < 5 := h9; omega
        rcases hk9 with rfl | rfl | rfl | rfl | rfl
        · exact ⟨hk6.1, rlP_i.mpr (Or.inr ⟨by decide, rfl⟩)⟩
        · exact ⟨hk6.2.1, rlP_i.mpr (Or.inr ⟨by decide, rfl⟩)⟩
        · exact ⟨hk6.2.2.1, rlP_i.mpr (Or.inr ⟨by decide, rfl⟩)⟩
        · exact ⟨hk6.2.2.2.1, rlP_i.mpr (Or.inr ⟨by decide, rfl⟩)⟩
        · exact ⟨hk6.2.2.2.2, rlP_i.mpr (Or.inr ⟨by decide, rfl⟩)⟩
      rw [e9]
      change ax_J _ _ _ _ _ _ _ _ _ 91 [some (.inr (.inr (some (3, 0))))] [.inr (.inr (some (6, t)))] (P9, g8, r9, n9)
      refine aj_run (C := True) (pc' := 95) (la' := [some (.inr (.inr (some (3, 0))))]) (st' := [.inr (.inr (some (6, t)))]) (M' := (P9, g8, r9, n9)) ok_X8_read true 1 rfl trivial ?_
      refine aj_ret (r := some (.inr (.inr (some (6, t))))) (ax_dec2 (i := .areturn) (n := 1) ok_X8_read rfl) ⟨?_, ?_, by decide, by decide⟩ rfl
      · exact Or.inr ⟨by rw [← hf9]; omega, rfl, P9, g8, r9, n9, rfl, hrul⟩
      · exact trivial
  · refine aj_run (C := True) (pc' := 52) (la' := [some (.inr (.inr (some (3, 0))))]) (st' := [.inr (.inr (some (3, 0)))]) (M' := (P, gp3, r0, n)) ok_X8_read true 1 rfl trivial ?_
    refine aj_callV (av := []) (st := []) (f := 3) (o := 0) (ci := 8) cal_X8_refuse lk_8_56 ins_X8_refuse rfl sel_X8_refuse rfl (fun c9 h9 _ => by simpa [ax_ok] using h9) (cp_refuse (rS3 (tT (g 302 0) (g 3 0 0)) (tV (g 302 0) (g 3 0 0)) (tkP (g 302 0) (g 3 0 0)) (tkN (g 302 0) (g 3 0 0))) _ _ _ _ hn hr3) ⟨by decide, by decide, by decide, by decide⟩ (Nat.le_of_ble_eq_true rfl) (ax_dec2 (i := .invokevirtual 56) (n := 3) ok_X8_read rfl) (fun r M' hq => ?_)
    obtain ⟨rfl, g9, rfl, fr9, hr9⟩ := hq
    have hrZ : cRd (tT (g 302 0) (g 3 0 0)) (tV (g 302 0) (g 3 0 0)) (tkP (g 302 0) (g 3 0 0)) (tkN (g 302 0) (g 3 0 0)) g9 (rSZ (tT (g 302 0) (g 3 0 0)) (tV (g 302 0) (g 3 0 0)) (tkP (g 302 0) (g 3 0 0)) (tkN (g 302 0) (g 3 0 0))) := by unfold rSZ; rw [if_neg (by omega)]; exact hr9
    have frZ : cFr TRx g9 g := fun f o j z => (fr9 f o j (TRd_x z)).trans (fr3x f o j z)
    have hroZ : ∀ j, 0 ≤ j → j < 3 → g9 311 0 j = rRo (tT (g 302 0) (g 3 0 0)) (tV (g 302 0) (g 3 0 0)) (tkP (g 302 0) (g 3 0 0)) (tkN (g 302 0) (g 3 0 0)) j := fun j z1 z2 => (fr9 311 0 j (by unfold TRd; omega)).trans (hro9 j z1 z2)
    change ax_J _ _ _ _ _ _ _ _ _ 55 [some (.inr (.inr (some (3, 0))))] [.inl 0] (P, g9, r0, n)
    refine aj_run (C := True) (pc' := 56) (la' := [some (.inr (.inr (some (3, 0))))]) (st' := []) (M' := (P, g9, r0, n)) ok_X8_read true 1 rfl trivial ?_
    have hf9 := hrZ.2.2.2.2
    have hl9 := hrZ.2.2.1
    have hndZ : ax_nd (P, g9, r0, n) := hnd
    refine aj_run (C := True) (pc' := 61) (la' := [some (.inr (.inr (some (3, 0))))]) (st' := [.inl (-1), .inl (g9 3 0 1)]) (M' := (P, g9, r0, n)) ok_X8_read true 3 rfl trivial ?_
    refine aj_icmp_ne (tgt := 94) (ax_dec2 (i := .if_icmp .ne 33) (n := 3) ok_X8_read rfl) (by decide) (fun c3 => ?_) (fun c3 => ?_)
    · refine aj_run (C := True) (pc' := 95) (la' := [some (.inr (.inr (some (3, 0))))]) (st' := [.inr (.inr none)]) (M' := (P, g9, r0, n)) ok_X8_read true 1 rfl trivial ?_
      refine aj_ret (r := some (.inr (.inr none))) (ax_dec2 (i := .areturn) (n := 1) ok_X8_read rfl) ⟨?_, ?_, by decide, by decide⟩ rfl
      · exact Or.inl ⟨by rw [← hf9]; omega, rfl, _, rfl, frZ, hf9⟩
      · exact trivial
    · refine aj_new (ci := 4) (f := 1006) (o := t) rfl rfl (by decide) (by decide) (ax_T2 (i := 79) (by decide +kernel) rfl) (ax_T2 (i := 80) (by decide +kernel) rfl) (ax_T1 (i := 9) (by decide +kernel) rfl) (fun z => by have := hp _ _ z; omega) hndZ ⟨by decide, by decide⟩ (ax_dec2 (i := .new 60) (n := 3) ok_X8_read rfl) ?_
      change ax_J _ _ _ _ _ _ _ _ _ 67 [some (.inr (.inr (some (3, 0))))] [.inr (.inr (some (1006, t)))] (mkP P 1006 t, mkG g9 1006 t, mkR r0 1006 t, mkN n 1006 t 4)
      have nd2 : ax_nd (mkP P 1006 t, mkG g9 1006 t, mkR r0 1006 t, mkN n 1006 t 4) := nd_mk hndZ
      refine aj_run (C := True) (pc' := 88) (la' := [some (.inr (.inr (some (3, 0))))]) (st' := [.inl (g9 3 0 12), .inr (.inr (some (311, 0))), .inr (.inr (some (310, 0))), .inr (.inr (some (309, 0))), .inr (.inr (some (308, 0))), .inr (.inr (some (1006, t))), .inr (.inr (some (1006, t)))]) (M' := (mkP P 1006 t, mkG g9 1006 t, mkR r0 1006 t, mkN n 1006 t 4)) ok_X8_read true 11 rfl trivial ?_
      refine aj_callI (av := [.inr (.inr (some (308, 0))), .inr (.inr (some (309, 0))), .inr (.inr (some (310, 0))), .inr (.inr (some (311, 0))), .inl (g9 3 0 12)]) (st := [.inr (.inr (some (1006, t)))]) (f := 1006) (o := t) cal_X4_init rfl lk_8_62 ins_X4_init (cp_X4_init t (g9 3 0 12) _ _ _ _ (by unfold cTL at hn ⊢; simpa [mkN] using hn) (by omega) (fun k z1 z2 => mkP_n (by omega) (hfr.2 k z1 z2)) nd2) ⟨by decide, by decide, by decide, by decide⟩ (Nat.le_of_ble_eq_true rfl) (ax_dec2 (i := .invokespecial 62) (n := 3) ok_X8_read rfl) (fun r M' hq => ?_)
      obtain ⟨rfl, gb, rfl, b1, b2, b3⟩ := hq
      obtain ⟨P9, g8, r9, n9, e9, hrul⟩ := of_rul (L := (rSZ (tT (g 302 0) (g 3 0 0)) (tV (g 302 0) (g 3 0 0)) (tkP (g 302 0) (g 3 0 0)) (tkN (g 302 0) (g 3 0 0))).2.1) (ro := rRo (tT (g 302 0) (g 3 0 0)) (tV (g 302 0) (g 3 0 0)) (tkP (g 302 0) (g 3 0 0)) (tkN (g 302 0) (g 3 0 0))) (m := g9 3 0 12) hndZ hp hfr.1 (by omega) frZ hrZ.2.2.2.1 hroZ b1 b2 b3
      have hndB : ax_nd (rlP (mkP P 1006 t) t, gb, rlR (mkR r0 1006 t) t, rlN (mkN n 1006 t 4) t (g9 3 0 12)) := nd_rl (nd_mk (x := 4) hndZ)
      have hk6 := rlR_k (r := mkR r0 1006 t) (t := t)
      change ax_J _ _ _ _ _ _ _ _ _ 91 [some (.inr (.inr (some (3, 0))))] [.inr (.inr (some (1006, t)))] (rlP (mkP P 1006 t) t, gb, rlR (mkR r0 1006 t) t, rlN (mkN n 1006 t 4) t (g9 3 0 12))
      refine aj_name (f := 6) (o := t) (by decide) rfl (rlP_i.mpr (Or.inl (Or.inl ⟨rfl, rfl⟩))) (fun z9 => by rcases rlP_i.mp z9 with y | y; exact mkP_n (fun w => absurd w.1 (by decide)) hfr.1 y; omega) (fun z9 => by have := hp _ _ z9; omega) hndB (nr_rl (nr_mk (x := 4) (nr_0 hndZ (fun z => by have := hp _ _ z; omega) (by decide)))) (by decide) ?_ (by intro v9 h9; simp at h9; subst h9; rfl) (by intro v9 h9; simp at h9) ?_
      · intro k9 h8 h9
        have hk9 : k9 = 0 ∨ k9 = 1 ∨ k9 = 2 ∨ k9 = 3 ∨ k9 = 4 := by have : k9 < 5 := h9; omega
        rcases hk9 with rfl | rfl | rfl | rfl | rfl
        · exact ⟨hk6.1, rlP_i.mpr (Or.inr ⟨by decide, rfl⟩)⟩
        · exact ⟨hk6.2.1, rlP_i.mpr (Or.inr ⟨by decide, rfl⟩)⟩
        · exact ⟨hk6.2.2.1, rlP_i.mpr (Or.inr ⟨by decide, rfl⟩)⟩
        · exact ⟨hk6.2.2.2.1, rlP_i.mpr (Or.inr ⟨by decide, rfl⟩)⟩
        · exact ⟨hk6.2.2.2.2, rlP_i.mpr (Or.inr ⟨by decide, rfl⟩)⟩
      rw [e9]
      change ax_J _ _ _ _ _ _ _ _ _ 91 [some (.inr (.inr (some (3, 0))))] [.inr (.inr (some (6, t)))] (P9, g8, r9, n9)
      refine aj_run (C := True) (pc' := 95) (la' := [some (.inr (.inr (some (3, 0))))]) (st' := [.inr (.inr (some (6, t)))]) (M' := (P9, g8, r9, n9)) ok_X8_read true 1 rfl trivial ?_
      refine aj_ret (r := some (.inr (.inr (some (6, t))))) (ax_dec2 (i := .areturn) (n := 1) ok_X8_read rfl) ⟨?_, ?_, by decide, by decide⟩ rfl
      · exact Or.inr ⟨by rw [← hf9]; omega, rfl, P9, g8, r9, n9, rfl, hrul⟩
      · exact trivial

