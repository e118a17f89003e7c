/-! ===== tokens out of bytes, purely ===== -/
def lxF (q : Int → Bool) : Nat → Int → Int
  | 0, k => k
  | n + 1, k => if q k = true then lxF q n (k + 1) else k
/-- the first place from k on at which q fails (it fails from m on) -/
def lx (q : Int → Bool) (m k : Int) : Int := lxF q (m - k).toNat k
theorem lx_n {q : Int → Bool} {m k : Int} (h : q k = false) : lx q m k = k := by
  unfold lx
  cases (m - k).toNat with
  | zero => rfl
  | succ n =>
    show (if q k = true then lxF q n (k + 1) else k) = k
    rw [if_neg (by rw [h]; decide)]
theorem lx_y {q : Int → Bool} {m k : Int} (h : q k = true) (hk : k < m) : lx q m k = lx q m (k + 1) := by
  unfold lx
  rw [show (m - k).toNat = (m - (k + 1)).toNat + 1 by omega]
  show (if q k = true then lxF q (m - (k + 1)).toNat (k + 1) else k) = _
  rw [if_pos h]
theorem lx_all {q : Int → Bool} {m : Int} (hq : ∀ j, q j = true → j < m) : ∀ (d : Nat) (k : Int), (m - k).toNat = d → (k ≤ lx q m k ∧ (k ≤ m → lx q m k ≤ m)) ∧ q (lx q m k) = false ∧ ∀ j, k ≤ j → j < lx q m k → q j = true
  | d, k, hd => by
    cases h : q k with
    | false =>
      rw [lx_n h]
      exact ⟨⟨Int.le_refl _, id⟩, h, fun j h1 h2 => by omega⟩
    | true =>
      have hk := hq k h
      cases d with
      | zero => omega
      | succ d =>
        rw [lx_y h hk]
        obtain ⟨⟨a1, a2⟩, a3, a4⟩ := lx_all hq d (k + 1) (by omega)
        refine ⟨⟨by omega, fun _ => a2 (by omega)⟩, a3, fun j h1 h2 => ?_⟩
        by_cases c : j = k
        · rw [c]; exact h
        · exact a4 j (by omega) h2
theorem lx_in {q : Int → Bool} {m k : Int} (hq : ∀ j, q j = true → j < m) : k ≤ lx q m k ∧ (k ≤ m → lx q m k ≤ m) := (lx_all hq _ k rfl).1
theorem lx_e {q : Int → Bool} {m k : Int} (hq : ∀ j, q j = true → j < m) : q (lx q m k) = false := (lx_all hq _ k rfl).2.1
theorem lx_a {q : Int → Bool} {m k j : Int} (hq : ∀ j, q j = true → j < m) (h1 : k ≤ j) (h2 : j < lx q m k) : q j = true := (lx_all hq _ k rfl).2.2 j h1 h2
def bLet (B : Int → Int) (m j : Int) : Bool := decide (j < m ∧ 97 ≤ B j ∧ B j ≤ 122)
def bDig (B : Int → Int) (m j : Int) : Bool := decide (j < m ∧ 48 ≤ B j ∧ B j ≤ 57)
def bSp (B : Int → Int) (m j : Int) : Bool := decide (j < m ∧ (B j = 32 ∨ B j = 10))
theorem bLet_m {B : Int → Int} {m : Int} : ∀ j, bLet B m j = true → j < m := fun j h => (of_decide_eq_true h).1
theorem bDig_m {B : Int → Int} {m : Int} : ∀ j, bDig B m j = true → j < m := fun j h => (of_decide_eq_true h).1
theorem bSp_m {B : Int → Int} {m : Int} : ∀ j, bSp B m j = true → j < m := fun j h => (of_decide_eq_true h).1
/-- a word of the twelve stands there -/
def wMb (B : Int → Int) (f t w : Int) : Bool := decide (t - f = kL (w + 1)) && (List.range (kL (w + 1)).toNat).all (fun i => decide (B (f + i) = kB (w + 1) i))
theorem kL_0 {o : Int} : 0 ≤ kL o := by unfold kL; omega
theorem wMb_i {B : Int → Int} {f t w : Int} : wMb B f t w = true ↔ (t - f = kL (w + 1) ∧ ∀ i, 0 ≤ i → i < kL (w + 1) → B (f + i) = kB (w + 1) i) := by
  unfold wMb
  rw [Bool.and_eq_true, decide_eq_true_eq, List.all_eq_true]
  constructor
  · rintro ⟨h1, h2⟩
    refine ⟨h1, fun i z1 z2 => ?_⟩
    have := h2 i.toNat (List.mem_range.mpr (by omega))
    rw [decide_eq_true_eq, show ((i.toNat : Nat) : Int) = i by omega] at this
    exact this
  · rintro ⟨h1, h2⟩
    refine ⟨h1, fun i z => ?_⟩
    rw [decide_eq_true_eq]
    exact h2 i (by omega) (by have := List.mem_range.mp z; omega)
def wNo (B : Int → Int) (f t j : Int) : Bool := decide (j < 12) && !wMb B f t j
theorem wNo_m {B : Int → Int} {f t : Int} : ∀ j, wNo B f t j = true → j < 12 := fun j h => by
  unfold wNo at h
  rw [Bool.and_eq_true, decide_eq_true_eq] at h
  exact h.1
/-- which word, 12: none -/
def tkW (B : Int → Int) (f t : Int) : Int := lx (wNo B f t) 12 0
theorem wApart : (List.range 12).all (fun w => (List.range 12).all fun v => decide (w = v) || (decide (kL ((w : Int) + 1) ≠ kL ((v : Int) + 1)) || (List.range (kL ((w : Int) + 1)).toNat).any (fun i => decide (kB ((w : Int) + 1) i ≠ kB ((v : Int) + 1) i)))) = true := by decide +kernel
theorem wMb_1 {B : Int → Int} {f t w v : Int} (hw : 0 ≤ w ∧ w < 12) (hv : 0 ≤ v ∧ v < 12) (h1 : wMb B f t w = true) (h2 : wMb B f t v = true) : w = v := by
  obtain ⟨a1, a2⟩ := wMb_i.mp h1
  obtain ⟨b1, b2⟩ := wMb_i.mp h2
  have h := wApart
  rw [List.all_eq_true] at h
  have h := h w.toNat (List.mem_range.mpr (by omega))
  rw [List.all_eq_true] at h
  have h := h v.toNat (List.mem_range.mpr (by omega))
  rw [show ((w.toNat : Nat) : Int) = w by omega, show ((v.toNat : Nat) : Int) = v by omega, Bool.or_eq_true, Bool.or_eq_true, decide_eq_true_eq, decide_eq_true_eq, List.any_eq_true] at h
  rcases h with h | h | ⟨i, hi, h⟩
  · omega
  · exact absurd (a1.symm.trans b1) h
  · rw [decide_eq_true_eq] at h
    have hi := List.mem_range.mp hi
    exact absurd ((a2 i (by omega) (by omega)).symm.trans (b2 i (by omega) (by omega))) h
theorem tkW_in {B : Int → Int} {f t : Int} : 0 ≤ tkW B f t ∧ tkW B f t ≤ 12 := ⟨(lx_in wNo_m).1, (lx_in wNo_m).2 (by decide)⟩
theorem tkW_y {B : Int → Int} {f t w : Int} (hw : 0 ≤ w ∧ w < 12) (h : wMb B f t w = true) : tkW B f t = w := by
  have hi := tkW_in (B := B) (f := f) (t := t)
  have he := lx_e (k := 0) (wNo_m (B := B) (f := f) (t := t))
  have he : wNo B f t (tkW B f t) = false := he
  by_cases c : tkW B f t < 12
  · unfold wNo at he
    rw [decide_eq_true c, Bool.true_and] at he
    exact wMb_1 ⟨hi.1, c⟩ hw (by simpa using he) h
  · have := lx_a (j := w) (wNo_m (B := B) (f := f) (t := t)) hw.1 (by show w < tkW B f t; omega)
    unfold wNo at this
    rw [h] at this
    simp at this
theorem tkW_n {B : Int → Int} {f t w : Int} (hw : 0 ≤ w ∧ w < 12) (h : wMb B f t w = false) : tkW B f t ≠ w := fun c => by
  have he := lx_e (k := 0) (wNo_m (B := B) (f := f) (t := t))
  have he : wNo B f t (tkW B f t) = false := he
  rw [c] at he
  unfold wNo at he
  rw [h, decide_eq_true hw.2] at he
  simp at he
/-- digits' number -/
def tkD (B : Int → Int) (f n : Int) : Int := wFI (fun i v => 10 * v + B (f + i) - 48) 0 n
theorem tkD_s {B : Int → Int} {f n : Int} (h : 0 ≤ n) : tkD B f (n + 1) = 10 * tkD B f n + B (f + n) - 48 := wFI_s h
theorem tkD_in {B : Int → Int} {f : Int} {n : Int} (h0 : 0 ≤ n) (h4 : n ≤ 4) (hd : ∀ i, 0 ≤ i → i < n → 48 ≤ B (f + i) ∧ B (f + i) ≤ 57) : 0 ≤ tkD B f n ∧ tkD B f n ≤ 9999 ∧ (n ≤ 3 → tkD B f n ≤ 999) := by
  have e0 : tkD B f 0 = 0 := rfl
  have e1 : tkD B f 1 = 10 * tkD B f 0 + B (f + 0) - 48 := tkD_s (n := 0) (by decide)
  have e2 : tkD B f 2 = 10 * tkD B f 1 + B (f + 1) - 48 := tkD_s (n := 1) (by decide)
  have e3 : tkD B f 3 = 10 * tkD B f 2 + B (f + 2) - 48 := tkD_s (n := 2) (by decide)
  have e4 : tkD B f 4 = 10 * tkD B f 3 + B (f + 3) - 48 := tkD_s (n := 3) (by decide)
  have hn : n = 0 ∨ n = 1 ∨ n = 2 ∨ n = 3 ∨ n = 4 := by omega
  rcases hn with rfl | rfl | rfl | rfl | rfl
  · omega
  · have := hd 0 (by decide) (by decide)
    omega
  · have := hd 0 (by decide) (by decide)
    have := hd 1 (by decide) (by decide)
    omega
  · have := hd 0 (by decide) (by decide)
    have := hd 1 (by decide) (by decide)
    have := hd 2 (by decide) (by decide)
    omega
  · have := hd 0 (by decide) (by decide)
    have := hd 1 (by decide) (by decide)
    have := hd 2 (by decide) (by decide)
    have := hd 3 (by decide) (by decide)
    omega
def isSg (c : Int) : Prop := c = 40 ∨ c = 41 ∨ c = 59 ∨ c = 43 ∨ c = 45 ∨ c = 42 ∨ c = 60 ∨ c = 61
def isSgB (c : Int) : Bool := c == 40 || (c == 41 || (c == 59 || (c == 43 || (c == 45 || (c == 42 || (c == 60 || c == 61))))))
theorem isSg_b {c : Int} : isSgB c = true ↔ isSg c := by simp [isSgB, isSg]
/-- a token that begins at k: its end, what it is, its number -/
def tkE (B : Int → Int) (m k : Int) : Int := if bLet B m k = true then lx (bLet B m) m k else if bDig B m k = true then lx (bDig B m) m k else k + 1
def tkT (B : Int → Int) (m k : Int) : Int := if bLet B m k = true then (if tkW B k (tkE B m k) < 6 then 5 + tkW B k (tkE B m k) else if tkW B k (tkE B m k) < 12 then 3 else 1) else if bDig B m k = true then (if 4 < tkE B m k - k then 1 else 2) else if isSgB (B k) = true then B k else 1
def tkV (B : Int → Int) (m k : Int) : Int := if bLet B m k = true then tkW B k (tkE B m k) - 6 else tkD B k (tkE B m k - k)
theorem tkE_in {B : Int → Int} {m k : Int} (hk : k < m) : k < tkE B m k ∧ tkE B m k ≤ m := by
  unfold tkE
  split
  · rename_i c
    rw [lx_y c hk]
    have := lx_in (k := k + 1) (bLet_m (B := B) (m := m))
    omega
  · split
    · rename_i c
      rw [lx_y c hk]
      have := lx_in (k := k + 1) (bDig_m (B := B) (m := m))
      omega
    · omega
theorem tkV_2 {B : Int → Int} {m k : Int} (hk : k < m) (h : tkT B m k = 2) : (bLet B m k = false ∧ bDig B m k = true ∧ tkE B m k - k ≤ 4) ∧ tkV B m k = tkD B k (tkE B m k - k) ∧ 0 ≤ tkV B m k ∧ tkV B m k ≤ 9999 := by
  have hw := tkW_in (B := B) (f := k) (t := tkE B m k)
  have he := tkE_in (B := B) hk
  unfold tkT at h
  by_cases c1 : bLet B m k = true
  · rw [if_pos c1] at h
    repeat' split at h
    all_goals omega
  · rw [if_neg c1] at h
    by_cases c2 : bDig B m k = true
    · rw [if_pos c2] at h
      split at h
      · omega
      · rename_i c3
        have ev : tkV B m k = tkD B k (tkE B m k - k) := by unfold tkV; rw [if_neg c1]
        have hd : ∀ i, 0 ≤ i → i < tkE B m k - k → 48 ≤ B (k + i) ∧ B (k + i) ≤ 57 := fun i z1 z2 => by
          have ee : tkE B m k = lx (bDig B m) m k := by unfold tkE; rw [if_neg c1, if_pos c2]
          have := lx_a (k := k) (j := k + i) (bDig_m (B := B) (m := m)) (by omega) (by omega)
          exact (of_decide_eq_true this).2
        have := tkD_in (B := B) (f := k) (n := tkE B m k - k) (by omega) (by omega) hd
        rw [ev]
        exact ⟨⟨by simpa using c1, c2, by omega⟩, rfl, this.1, this.2.1⟩
    · rw [if_neg c2] at h
      split at h
      · rename_i c3
        have := isSg_b.mp c3
        unfold isSg at this
        omega
      · omega
theorem tkV_3 {B : Int → Int} {m k : Int} (h : tkT B m k = 3) : bLet B m k = true ∧ (6 ≤ tkW B k (tkE B m k) ∧ tkW B k (tkE B m k) < 12) ∧ tkV B m k = tkW B k (tkE B m k) - 6 := by
  have hw := tkW_in (B := B) (f := k) (t := tkE B m k)
  unfold tkT at h
  by_cases c1 : bLet B m k = true
  · rw [if_pos c1] at h
    unfold tkV
    rw [if_pos c1]
    split at h
    · omega
    · split at h
      · exact ⟨c1, by omega, rfl⟩
      · omega
  · rw [if_neg c1] at h
    by_cases c2 : bDig B m k = true
    · rw [if_pos c2] at h
      split at h <;> omega
    · rw [if_neg c2] at h
      split at h
      · rename_i c3
        have := isSg_b.mp c3
        unfold isSg at this
        omega
      · omega
theorem tkT_0 {B : Int → Int} {m k : Int} : tkT B m k ≠ 0 := by
  have hw := tkW_in (B := B) (f := k) (t := tkE B m k)
  unfold tkT
  repeat' split
  all_goals try omega
  rename_i c3
  have := isSg_b.mp c3
  unfold isSg at this
  omega
/-- where tokens begin, one behind another -/
def tkP (B : Int → Int) (m : Int) (j : Int) : Int := wFI (fun _ q => if q < m then lx (bSp B m) m (tkE B m q) else q) (lx (bSp B m) m 0) j
theorem tkP_s {B : Int → Int} {m j : Int} (h : 0 ≤ j) : tkP B m (j + 1) = if tkP B m j < m then lx (bSp B m) m (tkE B m (tkP B m j)) else tkP B m j := wFI_s h
theorem tkP_in {B : Int → Int} {m : Int} (hm : 0 ≤ m) : ∀ j : Nat, (0 ≤ tkP B m j ∧ tkP B m j ≤ m) ∧ (tkP B m j < m → (j : Int) ≤ tkP B m j) ∧ bSp B m (tkP B m j) = false
  | 0 => by
    have := lx_in (k := 0) (bSp_m (B := B) (m := m))
    exact ⟨⟨this.1, this.2 hm⟩, fun _ => this.1, lx_e bSp_m⟩
  | j + 1 => by
    obtain ⟨⟨a1, a2⟩, a3, a4⟩ := tkP_in (B := B) hm j
    rw [show ((j + 1 : Nat) : Int) = (j : Int) + 1 by omega, tkP_s (by omega)]
    split
    · rename_i c
      have he := tkE_in (B := B) c
      have := lx_in (k := tkE B m (tkP B m j)) (bSp_m (B := B) (m := m))
      exact ⟨⟨by omega, by omega⟩, fun _ => by have := a3 c; omega, lx_e bSp_m⟩
    · exact ⟨⟨a1, a2⟩, fun z => by omega, a4⟩
theorem tkP_i {B : Int → Int} {m j : Int} (hm : 0 ≤ m) : (0 ≤ tkP B m j ∧ tkP B m j ≤ m) ∧ (tkP B m j < m → j ≤ tkP B m j) ∧ bSp B m (tkP B m j) = false := by
  have h := tkP_in (B := B) hm j.toNat
  have e : tkP B m ((j.toNat : Nat) : Int) = tkP B m j := by
    unfold tkP wFI
    rw [show (((j.toNat : Nat) : Int)).toNat = j.toNat by omega]
  rw [e] at h
  exact ⟨h.1, fun z => by have := h.2.1 z; omega, h.2.2⟩
def tkN (B : Int → Int) (m : Int) : Int := lx (fun j => decide (tkP B m j < m)) m 0
theorem tkN_m {B : Int → Int} {m : Int} (hm : 0 ≤ m) : ∀ j, (fun j => decide (tkP B m j < m)) j = true → j < m := fun j h => by
  have h := of_decide_eq_true h
  have := (tkP_i (B := B) (j := j) hm).2.1 h
  omega
theorem tkN_in {B : Int → Int} {m : Int} (hm : 0 ≤ m) : (0 ≤ tkN B m ∧ tkN B m ≤ m) ∧ tkP B m (tkN B m) = m ∧ ∀ j, 0 ≤ j → j < tkN B m → tkP B m j < m := by
  have h1 := lx_in (k := 0) (tkN_m (B := B) hm)
  have h2 := lx_e (k := 0) (tkN_m (B := B) hm)
  refine ⟨⟨h1.1, h1.2 hm⟩, ?_, fun j z1 z2 => of_decide_eq_true (lx_a (tkN_m hm) z1 z2)⟩
  have h2 : ¬ tkP B m (tkN B m) < m := of_decide_eq_false h2
  have := (tkP_i (B := B) (j := tkN B m) hm).1
  omega
def tT (B : Int → Int) (m j : Int) : Int := if tkP B m j < m then tkT B m (tkP B m j) else 0
def tV (B : Int → Int) (m j : Int) : Int := tkV B m (tkP B m j)
theorem tT_N {B : Int → Int} {m : Int} (hm : 0 ≤ m) : tT B m (tkN B m) = 0 := by
  unfold tT
  rw [(tkN_in hm).2.1, if_neg (Int.lt_irrefl _)]
theorem tT_n {B : Int → Int} {m j : Int} (hm : 0 ≤ m) (h1 : 0 ≤ j) (h2 : j < tkN B m) : tT B m j = tkT B m (tkP B m j) := if_pos ((tkN_in hm).2.2 j h1 h2)
theorem tV_ok {B : Int → Int} {m : Int} : ∀ j, (tT B m j = 2 → 0 ≤ tV B m j ∧ tV B m j ≤ 9999) ∧ (tT B m j = 3 → 0 ≤ tV B m j ∧ tV B m j < 6) := fun j => by
  unfold tT tV
  split
  · rename_i c
    exact ⟨fun h => (tkV_2 c h).2.2, fun h => by have := tkV_3 h; omega⟩
  · exact ⟨fun h => by omega, fun h => by omega⟩
theorem tkP_ne {B : Int → Int} {m : Int} (hm : 0 ≤ m) : ∀ j, tkP B m j ≠ -1 := fun j => by have := (tkP_i (B := B) (j := j) hm).1; omega
