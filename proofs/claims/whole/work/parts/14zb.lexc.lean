/-! ===== tokens of bytes that agree below m ===== -/
theorem lx_c {q q' : Int → Bool} {m : Int} : ∀ (d : Nat) (k : Int), (m - k).toNat = d → (∀ j, k ≤ j → j < m → q j = q' j) → lx q m k = lx q' m k
  | 0, k, h, _ => by unfold lx; rw [h]; rfl
  | d + 1, k, h, hq => by
    have e := hq k (Int.le_refl _) (by omega)
    by_cases c : q k = true
    · rw [lx_y c (by omega), lx_y (q := q') (k := k) (by rw [← e]; exact c) (by omega)]
      exact lx_c d (k + 1) (by omega) (fun j z1 z2 => hq j (by omega) z2)
    · have c : q k = false := by simpa using c
      rw [lx_n c, lx_n (by rw [← e]; exact c)]
section LC
variable {B B' : Int → Int} {m : Int}
theorem bLet_c {j : Int} (hB : ∀ i, 0 ≤ i → i < m → B i = B' i) (h : 0 ≤ j) : bLet B m j = bLet B' m j := by
  unfold bLet
  by_cases c : j < m
  · rw [hB j h c]
  · rw [decide_eq_false (fun z => c z.1), decide_eq_false (fun z => c z.1)]
theorem bDig_c {j : Int} (hB : ∀ i, 0 ≤ i → i < m → B i = B' i) (h : 0 ≤ j) : bDig B m j = bDig B' m j := by
  unfold bDig
  by_cases c : j < m
  · rw [hB j h c]
  · rw [decide_eq_false (fun z => c z.1), decide_eq_false (fun z => c z.1)]
theorem bSp_c {j : Int} (hB : ∀ i, 0 ≤ i → i < m → B i = B' i) (h : 0 ≤ j) : bSp B m j = bSp B' m j := by
  unfold bSp
  by_cases c : j < m
  · rw [hB j h c]
  · rw [decide_eq_false (fun z => c z.1), decide_eq_false (fun z => c z.1)]
theorem tkE_c {k : Int} (hB : ∀ i, 0 ≤ i → i < m → B i = B' i) (h : 0 ≤ k) : tkE B m k = tkE B' m k := by
  unfold tkE
  rw [bLet_c hB h, bDig_c hB h, lx_c _ k rfl (fun j z1 z2 => bLet_c hB (by omega)), lx_c (q := bDig B m) _ k rfl (fun j z1 z2 => bDig_c hB (by omega))]
theorem wMb_c {f t w : Int} (hB : ∀ i, 0 ≤ i → i < m → B i = B' i) (h : 0 ≤ f) (ht : t ≤ m) : wMb B f t w = wMb B' f t w := by
  have hi : wMb B f t w = true ↔ wMb B' f t w = true := by
    rw [wMb_i, wMb_i]
    refine ⟨fun z => ⟨z.1, fun i z1 z2 => ?_⟩, fun z => ⟨z.1, fun i z1 z2 => ?_⟩⟩
    · rw [← hB (f + i) (by omega) (by omega)]; exact z.2 i z1 z2
    · rw [hB (f + i) (by omega) (by omega)]; exact z.2 i z1 z2
  cases e : wMb B f t w with
  | true => exact (hi.mp e).symm
  | false =>
    cases e2 : wMb B' f t w with
    | true => rw [hi.mpr e2] at e; cases e
    | false => rfl
theorem tkW_c {f t : Int} (hB : ∀ i, 0 ≤ i → i < m → B i = B' i) (h : 0 ≤ f) (ht : t ≤ m) : tkW B f t = tkW B' f t := by
  unfold tkW
  refine lx_c _ 0 rfl (fun j z1 z2 => ?_)
  unfold wNo
  rw [wMb_c hB h ht]
theorem tkD_c {f n : Int} (hB : ∀ i, 0 ≤ i → i < m → B i = B' i) (h : 0 ≤ f) (hn : f + n ≤ m) : tkD B f n = tkD B' f n := by
  unfold tkD
  exact wFI_c fun i v z1 z2 => by rw [hB (f + i) (by omega) (by omega)]
theorem tkT_c {k : Int} (hB : ∀ i, 0 ≤ i → i < m → B i = B' i) (h : 0 ≤ k) (hk : k < m) : tkT B m k = tkT B' m k := by
  have he := tkE_in (B := B) hk
  unfold tkT
  rw [bLet_c hB h, bDig_c hB h, ← tkE_c hB h, tkW_c hB h he.2, hB k h hk]
theorem tkV_c {k : Int} (hB : ∀ i, 0 ≤ i → i < m → B i = B' i) (h : 0 ≤ k) (hk : k < m) : tkV B m k = tkV B' m k := by
  have he := tkE_in (B := B) hk
  unfold tkV
  rw [bLet_c hB h, ← tkE_c hB h, tkW_c hB h he.2, tkD_c hB h (by omega)]
theorem tkP_c (hm : 0 ≤ m) (hB : ∀ i, 0 ≤ i → i < m → B i = B' i) (j : Int) : tkP B m j = tkP B' m j := by
  have e0 : lx (bSp B m) m 0 = lx (bSp B' m) m 0 := lx_c _ 0 rfl (fun j z1 z2 => bSp_c hB z1)
  have key : ∀ k : Nat, tkP B m k = tkP B' m k := fun k => by
    induction k with
    | zero => exact e0
    | succ k ih =>
      have hp := (tkP_i (B := B) (j := (k : Int)) hm).1
      rw [show ((k + 1 : Nat) : Int) = (k : Int) + 1 by omega, tkP_s (by omega), tkP_s (by omega), ← ih]
      by_cases c : tkP B m k < m
      · have he := tkE_in (B := B) c
        rw [if_pos c, if_pos c, ← tkE_c hB hp.1]
        exact lx_c _ _ rfl (fun j z1 z2 => bSp_c hB (by omega))
      · rw [if_neg c, if_neg c]
  have e : ∀ X : Int → Int, tkP X m j = tkP X m (j.toNat : Nat) := fun X => rfl
  rw [e B, e B']
  exact key _
theorem tkN_c (hm : 0 ≤ m) (hB : ∀ i, 0 ≤ i → i < m → B i = B' i) : tkN B m = tkN B' m := by
  unfold tkN
  exact lx_c _ 0 rfl (fun j z1 z2 => by rw [tkP_c hm hB])
theorem tT_c (hm : 0 ≤ m) (hB : ∀ i, 0 ≤ i → i < m → B i = B' i) : tT B m = tT B' m := by
  funext j
  have hp := (tkP_i (B := B) (j := j) hm).1
  unfold tT
  rw [← tkP_c hm hB]
  by_cases c : tkP B m j < m
  · rw [if_pos c, if_pos c, tkT_c hB hp.1 c]
  · rw [if_neg c, if_neg c]
theorem tV_c (hm : 0 ≤ m) (hB : ∀ i, 0 ≤ i → i < m → B i = B' i) {j : Int} (h : tT B m j ≠ 0) : tV B m j = tV B' m j := by
  have hp := (tkP_i (B := B) (j := j) hm).1
  have c : tkP B m j < m := by
    by_cases c : tkP B m j < m
    · exact c
    · exact absurd (if_neg c) h
  unfold tV
  rw [← tkP_c hm hB, tkV_c hB hp.1 c]
end LC
theorem rOne_v {T V V' p : Int → Int} {N : Int} (hV : ∀ i, T i ≠ 0 → V i = V' i) : rOne T V p N = rOne T V' p N := by
  funext sub s
  unfold rOne
  by_cases c : T s.1 = 2 ∨ T s.1 = 3
  · rw [if_pos c, if_pos c, hV s.1 (by omega)]
  · rw [if_neg c, if_neg c]
theorem rAll_v {T V V' p : Int → Int} {N : Int} (hV : ∀ i, T i ≠ 0 → V i = V' i) : ∀ d, rAll T V p N d = rAll T V' p N d
  | 0 => by unfold rAll; rw [rOne_v hV]
  | d + 1 => by
    show (rOne T V p N (some ((rAll T V p N d).1, rEith T (rAll T V p N d).2)), rNot T p N (some (rAll T V p N d).2) (rOne T V p N (some ((rAll T V p N d).1, rEith T (rAll T V p N d).2)))) = _
    rw [rAll_v hV d, rOne_v hV]
    rfl
theorem rPart_v {T V V' p : Int → Int} {N t : Int} {s : rdS} (hV : ∀ i, T i ≠ 0 → V i = V' i) : rPart T V p N t s = rPart T V' p N t s := by
  unfold rPart
  rw [rAll_v hV]
theorem rRoot_v {T V V' p : Int → Int} {N t : Int} {s : rdS} (hV : ∀ i, T i ≠ 0 → V i = V' i) : rRoot T V p N t s = rRoot T V' p N t s := by
  unfold rRoot
  rw [rAll_v hV]
theorem rSk_v {T V V' p : Int → Int} {N : Int} (hV : ∀ i, T i ≠ 0 → V i = V' i) : rSk T V p N = rSk T V' p N := by
  funext q
  unfold rSk rS3 rS2 rS1
  rw [rPart_v hV, rPart_v hV, rPart_v hV]
theorem rSZ_v {T V V' p : Int → Int} {N : Int} (hV : ∀ i, T i ≠ 0 → V i = V' i) : rSZ T V p N = rSZ T V' p N := by
  have e : rS3 T V p N = rS3 T V' p N := congrFun (rSk_v hV) 3
  unfold rSZ
  rw [e]
theorem rRo_v {T V V' p : Int → Int} {N : Int} (hV : ∀ i, T i ≠ 0 → V i = V' i) : rRo T V p N = rRo T V' p N := by
  funext q
  have e1 : rS1 T V p N = rS1 T V' p N := congrFun (rSk_v hV) 1
  have e2 : rS2 T V p N = rS2 T V' p N := congrFun (rSk_v hV) 2
  unfold rRo
  rw [e1, e2, rRoot_v hV, rRoot_v hV, rRoot_v hV]
