/-! ===== what waits, purely; that both readings come to the same ===== -/
def yOp (t : Int) : Int := if t = 43 then 15 else if t = 45 then 16 else if t = 42 then 17 else if t = 60 then 13 else if t = 61 then 14 else if t = 9 then 11 else if t = 8 then 10 else -1
def yPop (r : Int) : List Int → List Int → Int → List Int × List Int × Int
  | [], em, o => ([], em, o)
  | t :: w, em, o => if t ≠ 30 ∧ r ≤ wRank t then yPop r w (em ++ [t]) (o - (if t = 12 ∨ t = 18 then 1 else 0)) else (t :: w, em, o)
theorem yPop_y {r t : Int} {w em : List Int} {o : Int} (h : t ≠ 30 ∧ r ≤ wRank t) : yPop r (t :: w) em o = yPop r w (em ++ [t]) (o - (if t = 12 ∨ t = 18 then 1 else 0)) := if_pos h
theorem yPop_n {r t : Int} {w em : List Int} {o : Int} (h : ¬ (t ≠ 30 ∧ r ≤ wRank t)) : yPop r (t :: w) em o = (t :: w, em, o) := if_neg h
theorem yPop_le {r r' : Int} (hr : r ≤ r') : ∀ (w em : List Int) (o : Int), yPop r (yPop r' w em o).1 (yPop r' w em o).2.1 (yPop r' w em o).2.2 = yPop r w em o
  | [], _, _ => rfl
  | t :: w, em, o => by
    by_cases h : t ≠ 30 ∧ r' ≤ wRank t
    · rw [yPop_y h, yPop_le hr w, yPop_y ⟨h.1, by omega⟩]
    · rw [yPop_n h]
/-- equal behind the higher is equal behind the lower -/
theorem yPop_dn {r r' : Int} (hr : r ≤ r') {w1 em1 w2 em2 : List Int} {o1 o2 : Int} (h : yPop r' w1 em1 o1 = yPop r' w2 em2 o2) : yPop r w1 em1 o1 = yPop r w2 em2 o2 := by
  rw [← yPop_le hr w1, ← yPop_le hr w2, h]
def yTop (r : Int) (w : List Int) : Prop := ∀ t w', w = t :: w' → t = 30 ∨ wRank t < r
theorem yPop_t {r : Int} {w em : List Int} {o : Int} (h : yTop r w) : yPop r w em o = (w, em, o) := by
  cases w with
  | nil => rfl
  | cons t w' => exact yPop_n (fun z => by rcases h t w' rfl with q | q; exact z.1 q; omega)
theorem yTop_c {r t : Int} {w : List Int} (h : t = 30 ∨ wRank t < r) : yTop r (t :: w) := fun _ _ e => by cases e; exact h
theorem yTop_le {r r' : Int} (hr : r ≤ r') {w : List Int} (h : yTop r w) : yTop r' w := fun t w' e => by rcases h t w' e with q | q; exact Or.inl q; exact Or.inr (by omega)
/-- nodes set one behind another: each works on what stands last -/
def wf1 (q : Int × Int × Int) (k : Int) (st : List Int) : Option (List Int) :=
  if (q.1 = 2 ∧ 0 ≤ q.2.1 ∧ q.2.1 ≤ 9999) ∨ (q.1 = 3 ∧ 0 ≤ q.2.1 ∧ q.2.1 < 6) then some (k :: st)
  else if q.1 = 4 ∨ q.1 = 10 then (match st with
    | a :: st' => if a = q.2.1 then some (k :: st') else none
    | [] => none)
  else if yOp q.1 ≠ -1 then (match st with
    | b :: a :: st' => if a = q.2.1 ∧ b = q.2.2 then some (k :: st') else none
    | _ => none)
  else none
def wfx : List (Int × Int × Int) → Int → List Int → Option (List Int)
  | [], _, st => some st
  | q :: M, k, st => (wf1 q k st).bind (wfx M (k + 1))
theorem wfx_app : ∀ (M1 M2 : List (Int × Int × Int)) (k : Int) (st : List Int), wfx (M1 ++ M2) k st = (wfx M1 k st).bind (wfx M2 (k + M1.length))
  | [], M2, k, st => by
    show wfx M2 k st = wfx M2 (k + ((0 : Nat) : Int)) st
    rw [show k + ((0 : Nat) : Int) = k by omega]
  | q :: M1, M2, k, st => by
    show (wf1 q k st).bind (wfx (M1 ++ M2) (k + 1)) = ((wf1 q k st).bind (wfx M1 (k + 1))).bind _
    cases wf1 q k st with
    | none => rfl
    | some st' =>
      show wfx (M1 ++ M2) (k + 1) st' = (wfx M1 (k + 1) st').bind _
      rw [wfx_app M1 M2 (k + 1) st', show k + 1 + (M1.length : Int) = k + ((q :: M1).length : Int) by rw [List.length_cons]; omega]
def cdN (q : Int × Int × Int) : Int := if q.1 = 2 then -1 - q.2.1 else if q.1 = 3 then q.2.1 else if q.1 = 4 then 18 else if q.1 = 10 then 12 else yOp q.1
abbrev syS : Type := Int × (Bool × Bool) × (List Int × List Int × Int) × Int × (Int → Int)
def yStp (T V : Int → Int) (i : Int) (wa mn : Bool) (w em : List Int) (o nst : Int) (c : Int → Int) : Option syS :=
  if wa = true then
    (if T i = 2 ∨ T i = 3 then some (i + 1, (false, mn), yPop 7 w (em ++ [if T i = 2 then -1 - V i else V i]) o, nst, c)
    else if (T i = 40 ∨ T i = 45 ∨ (mn = true ∧ T i = 10)) ∧ o ≠ 5 then some (i + 1, (true, decide (T i ≠ 45)), ((if T i = 40 then 30 else if T i = 10 then 12 else 18) :: w, em, o + 1), (if T i = 40 then nst + 1 else nst), (if T i = 40 then wUp c (nst + 1) 0 else c))
    else none)
  else if T i = 59 ∧ nst = 0 then none
  else if yOp (T i) ≠ -1 ∧ ¬ (wRank (yOp (T i)) = 4 ∧ c nst ≠ 0) then some (i + 1, (true, decide (T i = 9 ∨ T i = 8)), (yOp (T i) :: (yPop (wRank (yOp (T i))) w em o).1, (yPop (wRank (yOp (T i))) w em o).2), nst, wUp c nst (if wRank (yOp (T i)) = 4 ∨ (4 < wRank (yOp (T i)) ∧ c nst ≠ 0) then 1 else 0))
  else if T i = 41 ∧ nst ≠ 0 then some (i + 1, (false, mn), yPop 7 (yPop 1 w em o).1.tail (yPop 1 w em o).2.1 ((yPop 1 w em o).2.2 - 1), nst - 1, c)
  else none
def yStep (T V : Int → Int) (a : syS) : Option syS := yStp T V a.1 a.2.1.1 a.2.1.2 a.2.2.1.1 a.2.2.1.2.1 a.2.2.1.2.2 a.2.2.2.1 a.2.2.2.2
def yDn (T : Int → Int) (a : syS) : Prop := a.2.1.1 = false ∧ T a.1 = 59 ∧ a.2.2.2.1 = 0
def yIt (T V : Int → Int) : Nat → syS → Option syS
  | 0, a => some a
  | k + 1, a => (yStep T V a).bind (yIt T V k)
def yRe (T V : Int → Int) (a b : syS) : Prop := ∃ k : Nat, yIt T V k a = some b
def yFl (T V p : Int → Int) (a : syS) (q : Int) : Prop := ∃ b, yRe T V a b ∧ yStep T V b = none ∧ ¬ yDn T b ∧ p b.1 = q
theorem yRe_0 {T V : Int → Int} {a : syS} : yRe T V a a := ⟨0, rfl⟩
theorem yRe_s {T V : Int → Int} {a a' b : syS} (h : yStep T V a = some a') (hb : yRe T V a' b) : yRe T V a b := by
  obtain ⟨k, hk⟩ := hb
  exact ⟨k + 1, by show (yStep T V a).bind (yIt T V k) = some b; rw [h]; exact hk⟩
theorem yIt_t {T V : Int → Int} : ∀ (k : Nat) (a b c : syS), yIt T V k a = some b → yRe T V b c → yRe T V a c
  | 0, a, b, c, h, hc => by cases h; exact hc
  | k + 1, a, b, c, h, hc => by
    have h' : (yStep T V a).bind (yIt T V k) = some b := h
    cases e : yStep T V a with
    | none => rw [e] at h'; cases h'
    | some a' =>
      rw [e] at h'
      exact yRe_s e (yIt_t k a' b c h' hc)
theorem yRe_t {T V : Int → Int} {a b c : syS} (h : yRe T V a b) (h' : yRe T V b c) : yRe T V a c := by
  obtain ⟨k, hk⟩ := h
  exact yIt_t k a b c hk h'
theorem yFl_t {T V p : Int → Int} {a b : syS} {q : Int} (h : yRe T V a b) (hb : yFl T V p b q) : yFl T V p a q := by
  obtain ⟨z, z1, z2⟩ := hb
  exact ⟨z, yRe_t h z1, z2⟩
theorem yFl_0 {T V p : Int → Int} {a : syS} (h : yStep T V a = none) (hd : ¬ yDn T a) : yFl T V p a (p a.1) := ⟨a, yRe_0, h, hd, rfl⟩
/-- one end alone -/
theorem yRe_end {T V : Int → Int} {a b c : syS} (h : yRe T V a b) (hb : yStep T V b = none) (h' : yRe T V a c) (hc : yStep T V c = none) : b = c := by
  obtain ⟨k, hk⟩ := h
  obtain ⟨m, hm⟩ := h'
  induction k generalizing a m with
  | zero =>
    have e0 : a = b := Option.some.inj hk
    subst e0
    cases m with
    | zero => cases hm; rfl
    | succ m =>
      have hm' : (yStep T V a).bind (yIt T V m) = some c := hm
      rw [hb] at hm'
      cases hm'
  | succ k ih =>
    have hk' : (yStep T V a).bind (yIt T V k) = some b := hk
    cases m with
    | zero =>
      cases hm
      rw [hc] at hk'
      cases hk'
    | succ m =>
      have hm' : (yStep T V a).bind (yIt T V m) = some c := hm
      cases e : yStep T V a with
      | none => rw [e] at hk'; cases hk'
      | some a' =>
        rw [e] at hk' hm'
        exact ih hk' m hm'
