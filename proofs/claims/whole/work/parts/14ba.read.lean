/-! ===== reading a text, purely: by descent, and by what waits ===== -/
abbrev rdS : Type := Int × List (Int × Int × Int) × Int
abbrev rdF : Type := rdS → Int × rdS
def rRef (p : Int → Int) (N : Int) (s : rdS) : rdS := if s.2.2 = -1 then (N, s.2.1, p s.1) else s
def rNd (sg x y : Int) (s : rdS) : Int × rdS := if 160 ≤ s.2.1.length then (0, s) else ((s.2.1.length : Int), (s.1, s.2.1 ++ [(sg, x, y)], s.2.2))
def rAdv (s : rdS) : rdS := (s.1 + 1, s.2)
def rNeed (T p : Int → Int) (N t : Int) (s : rdS) : rdS := if T s.1 = t then rAdv s else rRef p N s
def rOne (T V p : Int → Int) (N : Int) (sub : Option (rdF × rdF)) (s : rdS) : Int × rdS :=
  if T s.1 = 2 ∨ T s.1 = 3 then rNd (T s.1) (V s.1) 0 (rAdv s) else match sub with
  | none => (0, rRef p N s)
  | some q => if T s.1 = 45 then rNd 4 (q.1 (rAdv s)).1 0 (q.1 (rAdv s)).2 else if T s.1 = 40 then ((q.2 (rAdv s)).1, rNeed T p N 41 (q.2 (rAdv s)).2) else (0, rRef p N s)
def rLp (T : Int → Int) (ops : Int → Bool) (sub : rdF) : Nat → Int × rdS → Int × rdS
  | 0, r => r
  | k + 1, r => if ops (T r.2.1) = true then rLp T ops sub k (rNd (T r.2.1) r.1 (sub (rAdv r.2)).1 (sub (rAdv r.2)).2) else r
def oTi (t : Int) : Bool := t == 42
def oPl (t : Int) : Bool := t == 43 || t == 45
def oAn (t : Int) : Bool := t == 9
def oOr (t : Int) : Bool := t == 8
def rTerm (T : Int → Int) (one : rdF) : rdF := fun s => rLp T oTi one 160 (one s)
def rSum (T : Int → Int) (one : rdF) : rdF := fun s => rLp T oPl (rTerm T one) 160 (rTerm T one s)
def rNot (T p : Int → Int) (N : Int) (sub : Option rdF) (one : rdF) : rdF := fun s =>
  if T s.1 = 10 then (match sub with
    | none => (0, rRef p N s)
    | some f => rNd 10 (f (rAdv s)).1 0 (f (rAdv s)).2)
  else if T (rSum T one s).2.1 = 60 ∨ T (rSum T one s).2.1 = 61 then rNd (T (rSum T one s).2.1) (rSum T one s).1 (rSum T one (rAdv (rSum T one s).2)).1 (rSum T one (rAdv (rSum T one s).2)).2
  else rSum T one s
def rBoth (T : Int → Int) (nt : rdF) : rdF := fun s => rLp T oAn nt 160 (nt s)
def rEith (T : Int → Int) (nt : rdF) : rdF := fun s => rLp T oOr (rBoth T nt) 160 (rBoth T nt s)
/-- one thing, and all behind 'not', with d brackets or signs to go -/
def rAll (T V p : Int → Int) (N : Int) : Nat → rdF × rdF
  | 0 => (rOne T V p N none, rNot T p N none (rOne T V p N none))
  | d + 1 => (rOne T V p N (some ((rAll T V p N d).1, rEith T (rAll T V p N d).2)), rNot T p N (some (rAll T V p N d).2) (rOne T V p N (some ((rAll T V p N d).1, rEith T (rAll T V p N d).2))))
/-- the first fault stays -/
def rEp (f : rdF) : Prop := ∀ s : rdS, s.2.2 ≠ -1 → (f s).2.2.2 = s.2.2
theorem rNd_e {sg x y : Int} {s : rdS} : (rNd sg x y s).2.2.2 = s.2.2 := by unfold rNd; split <;> rfl
theorem rRef_e {p : Int → Int} {N : Int} {s : rdS} (h : s.2.2 ≠ -1) : rRef p N s = s := if_neg h
theorem rNeed_e {T p : Int → Int} {N t : Int} {s : rdS} (h : s.2.2 ≠ -1) : (rNeed T p N t s).2.2 = s.2.2 := by
  unfold rNeed
  split
  · rfl
  · rw [rRef_e h]
theorem rLp_e {T : Int → Int} {ops : Int → Bool} {sub : rdF} (hs : rEp sub) : ∀ (k : Nat) (r : Int × rdS), r.2.2.2 ≠ -1 → (rLp T ops sub k r).2.2.2 = r.2.2.2
  | 0, _, _ => rfl
  | k + 1, r, h => by
    show (if ops (T r.2.1) = true then rLp T ops sub k (rNd (T r.2.1) r.1 (sub (rAdv r.2)).1 (sub (rAdv r.2)).2) else r).2.2.2 = _
    split
    · have e1 : (sub (rAdv r.2)).2.2.2 = r.2.2.2 := hs (rAdv r.2) h
      rw [rLp_e hs k _ (by rw [rNd_e, e1]; exact h), rNd_e, e1]
    · rfl
theorem rLq_e {T : Int → Int} {ops : Int → Bool} {sub : rdF} (hs : rEp sub) : rEp (fun s => rLp T ops sub 160 (sub s)) := fun s h => by
  have e1 : (sub s).2.2.2 = s.2.2 := hs s h
  show (rLp T ops sub 160 (sub s)).2.2.2 = _
  rw [rLp_e hs 160 _ (by rw [e1]; exact h), e1]
theorem rTerm_e {T : Int → Int} {one : rdF} (h : rEp one) : rEp (rTerm T one) := rLq_e h
theorem rSum_e {T : Int → Int} {one : rdF} (h : rEp one) : rEp (rSum T one) := rLq_e (rTerm_e h)
theorem rBoth_e {T : Int → Int} {nt : rdF} (h : rEp nt) : rEp (rBoth T nt) := rLq_e h
theorem rEith_e {T : Int → Int} {nt : rdF} (h : rEp nt) : rEp (rEith T nt) := rLq_e (rBoth_e h)
theorem rNot_e {T p : Int → Int} {N : Int} {sub : Option rdF} {one : rdF} (h : rEp one) (hf : ∀ f, sub = some f → rEp f) : rEp (rNot T p N sub one) := fun s hs => by
  unfold rNot
  split
  · cases sub with
    | none => exact congrArg (fun z : rdS => z.2.2) (rRef_e hs)
    | some f => exact (rNd_e).trans (hf f rfl (rAdv s) hs)
  · have e1 := rSum_e (T := T) h s hs
    split
    · rw [rNd_e, rSum_e h (rAdv (rSum T one s).2) (by show (rSum T one s).2.2.2 ≠ -1; rw [e1]; exact hs)]
      exact e1
    · exact e1
theorem rOne_e {T V p : Int → Int} {N : Int} {sub : Option (rdF × rdF)} (hf : ∀ q, sub = some q → rEp q.1 ∧ rEp q.2) : rEp (rOne T V p N sub) := fun s hs => by
  unfold rOne
  split
  · exact rNd_e
  · cases sub with
    | none => exact congrArg (fun z : rdS => z.2.2) (rRef_e hs)
    | some q =>
      show (if T s.1 = 45 then rNd 4 (q.1 (rAdv s)).1 0 (q.1 (rAdv s)).2 else if T s.1 = 40 then ((q.2 (rAdv s)).1, rNeed T p N 41 (q.2 (rAdv s)).2) else (0, rRef p N s)).2.2.2 = _
      split
      · exact (rNd_e).trans ((hf q rfl).1 (rAdv s) hs)
      · split
        · have e1 : (q.2 (rAdv s)).2.2.2 = s.2.2 := (hf q rfl).2 (rAdv s) hs
          exact (rNeed_e (by rw [e1]; exact hs)).trans e1
        · exact congrArg (fun z : rdS => z.2.2) (rRef_e hs)
theorem rAll_e {T V p : Int → Int} {N : Int} : ∀ d, rEp (rAll T V p N d).1 ∧ rEp (rAll T V p N d).2
  | 0 => ⟨rOne_e (fun _ h => by cases h), rNot_e (rOne_e (fun _ h => by cases h)) (fun _ h => by cases h)⟩
  | d + 1 => by
    obtain ⟨h1, h2⟩ := rAll_e (T := T) (V := V) (p := p) (N := N) d
    have h3 : rEp (rOne T V p N (some ((rAll T V p N d).1, rEith T (rAll T V p N d).2))) := rOne_e (fun q hq => by cases hq; exact ⟨h1, rEith_e h2⟩)
    exact ⟨h3, rNot_e h3 (fun f hf => by cases hf; exact h2)⟩
/-- where it reads stays inside, and so many nodes -/
def rIn (N : Int) (f : rdF) : Prop := ∀ s : rdS, 0 ≤ s.1 → s.1 ≤ N → (s.1 ≤ (f s).2.1 ∧ (f s).2.1 ≤ N) ∧ (s.2.1.length ≤ 160 → (f s).2.2.1.length ≤ 160)
theorem rNd_i {sg x y : Int} {s : rdS} : (rNd sg x y s).2.1 = s.1 ∧ (s.2.1.length ≤ 160 → (rNd sg x y s).2.2.1.length ≤ 160) := by
  unfold rNd
  split
  · exact ⟨rfl, id⟩
  · rename_i h
    refine ⟨rfl, fun _ => ?_⟩
    show (s.2.1 ++ [(sg, x, y)]).length ≤ 160
    rw [List.length_append]
    show s.2.1.length + 1 ≤ 160
    omega
theorem rRef_i {p : Int → Int} {N : Int} {s : rdS} (h : s.1 ≤ N) : (s.1 ≤ (rRef p N s).1 ∧ (rRef p N s).1 ≤ N) ∧ (rRef p N s).2.1 = s.2.1 := by
  unfold rRef
  split
  · exact ⟨⟨h, Int.le_refl _⟩, rfl⟩
  · exact ⟨⟨Int.le_refl _, h⟩, rfl⟩
theorem rAd_i {T : Int → Int} {N t : Int} {i : Int} (hN : T N = 0) (h : i ≤ N) (ht : T i = t) (h0 : t ≠ 0) : i + 1 ≤ N := by
  by_cases c : i = N
  · rw [c, hN] at ht
    exact absurd ht.symm h0
  · omega
theorem rLp_i {T : Int → Int} {N : Int} {ops : Int → Bool} {sub : rdF} (hN : T N = 0) (ho : ops 0 = false) (hs : rIn N sub) : ∀ (k : Nat) (r : Int × rdS), 0 ≤ r.2.1 → r.2.1 ≤ N → (r.2.1 ≤ (rLp T ops sub k r).2.1 ∧ (rLp T ops sub k r).2.1 ≤ N) ∧ (r.2.2.1.length ≤ 160 → (rLp T ops sub k r).2.2.1.length ≤ 160)
  | 0, r, _, h2 => ⟨⟨Int.le_refl _, h2⟩, id⟩
  | k + 1, r, h1, h2 => by
    show (r.2.1 ≤ (if ops (T r.2.1) = true then rLp T ops sub k (rNd (T r.2.1) r.1 (sub (rAdv r.2)).1 (sub (rAdv r.2)).2) else r).2.1 ∧ (if ops (T r.2.1) = true then rLp T ops sub k (rNd (T r.2.1) r.1 (sub (rAdv r.2)).1 (sub (rAdv r.2)).2) else r).2.1 ≤ N) ∧ (r.2.2.1.length ≤ 160 → (if ops (T r.2.1) = true then rLp T ops sub k (rNd (T r.2.1) r.1 (sub (rAdv r.2)).1 (sub (rAdv r.2)).2) else r).2.2.1.length ≤ 160)
    split
    · rename_i c
      have h3 : r.2.1 + 1 ≤ N := rAd_i hN h2 rfl (fun z => by rw [z, ho] at c; cases c)
      obtain ⟨⟨a1, a2⟩, a3⟩ := hs (rAdv r.2) (by show 0 ≤ r.2.1 + 1; omega) h3
      have a1' : r.2.1 + 1 ≤ (sub (rAdv r.2)).2.1 := a1
      have b := rNd_i (sg := T r.2.1) (x := r.1) (y := (sub (rAdv r.2)).1) (s := (sub (rAdv r.2)).2)
      obtain ⟨⟨c1, c2⟩, c3⟩ := rLp_i hN ho hs k (rNd (T r.2.1) r.1 (sub (rAdv r.2)).1 (sub (rAdv r.2)).2) (by rw [b.1]; omega) (by rw [b.1]; omega)
      rw [b.1] at c1
      exact ⟨⟨by omega, c2⟩, fun z => c3 (b.2 (a3 z))⟩
    · exact ⟨⟨Int.le_refl _, h2⟩, id⟩
theorem rLq_i {T : Int → Int} {N : Int} {ops : Int → Bool} {sub : rdF} (hN : T N = 0) (ho : ops 0 = false) (hs : rIn N sub) : rIn N (fun s => rLp T ops sub 160 (sub s)) := fun s h1 h2 => by
  obtain ⟨⟨a1, a2⟩, a3⟩ := hs s h1 h2
  obtain ⟨⟨c1, c2⟩, c3⟩ := rLp_i hN ho hs 160 (sub s) (by omega) a2
  exact ⟨⟨Int.le_trans a1 c1, c2⟩, fun z => c3 (a3 z)⟩
theorem rTerm_i {T : Int → Int} {N : Int} {one : rdF} (hN : T N = 0) (h : rIn N one) : rIn N (rTerm T one) := rLq_i hN rfl h
theorem rSum_i {T : Int → Int} {N : Int} {one : rdF} (hN : T N = 0) (h : rIn N one) : rIn N (rSum T one) := rLq_i hN rfl (rTerm_i hN h)
theorem rBoth_i {T : Int → Int} {N : Int} {nt : rdF} (hN : T N = 0) (h : rIn N nt) : rIn N (rBoth T nt) := rLq_i hN rfl h
theorem rEith_i {T : Int → Int} {N : Int} {nt : rdF} (hN : T N = 0) (h : rIn N nt) : rIn N (rEith T nt) := rLq_i hN rfl (rBoth_i hN h)
theorem rNot_i {T p : Int → Int} {N : Int} {sub : Option rdF} {one : rdF} (hN : T N = 0) (h : rIn N one) (hf : ∀ f, sub = some f → rIn N f) : rIn N (rNot T p N sub one) := fun s h1 h2 => by
  unfold rNot
  split
  · rename_i c
    cases sub with
    | none =>
      have := rRef_i (p := p) h2
      exact ⟨this.1, fun z => by show (rRef p N s).2.1.length ≤ 160; rw [this.2]; exact z⟩
    | some f =>
      have h3 : s.1 + 1 ≤ N := rAd_i hN h2 c (by decide)
      obtain ⟨⟨a1, a2⟩, a3⟩ := hf f rfl (rAdv s) (by show 0 ≤ s.1 + 1; omega) h3
      have a1' : s.1 + 1 ≤ (f (rAdv s)).2.1 := a1
      have b := rNd_i (sg := 10) (x := (f (rAdv s)).1) (y := 0) (s := (f (rAdv s)).2)
      exact ⟨⟨by show s.1 ≤ (rNd 10 (f (rAdv s)).1 0 (f (rAdv s)).2).2.1; rw [b.1]; omega, by show (rNd 10 (f (rAdv s)).1 0 (f (rAdv s)).2).2.1 ≤ N; rw [b.1]; exact a2⟩, fun z => b.2 (a3 z)⟩
  · obtain ⟨⟨a1, a2⟩, a3⟩ := rSum_i hN h s h1 h2
    split
    · rename_i c
      have h3 : (rSum T one s).2.1 + 1 ≤ N := rAd_i hN a2 rfl (by omega)
      obtain ⟨⟨d1, d2⟩, d3⟩ := rSum_i hN h (rAdv (rSum T one s).2) (by show 0 ≤ (rSum T one s).2.1 + 1; omega) h3
      have d1' : (rSum T one s).2.1 + 1 ≤ (rSum T one (rAdv (rSum T one s).2)).2.1 := d1
      have b := rNd_i (sg := T (rSum T one s).2.1) (x := (rSum T one s).1) (y := (rSum T one (rAdv (rSum T one s).2)).1) (s := (rSum T one (rAdv (rSum T one s).2)).2)
      exact ⟨⟨by rw [b.1]; omega, by rw [b.1]; exact d2⟩, fun z => b.2 (d3 (a3 z))⟩
    · exact ⟨⟨a1, a2⟩, a3⟩
theorem rNeed_i {T p : Int → Int} {N t : Int} {s : rdS} (hN : T N = 0) (h0 : t ≠ 0) (h : s.1 ≤ N) : (s.1 ≤ (rNeed T p N t s).1 ∧ (rNeed T p N t s).1 ≤ N) ∧ (rNeed T p N t s).2.1 = s.2.1 := by
  unfold rNeed
  split
  · rename_i c
    have := rAd_i hN h c h0
    exact ⟨⟨by show s.1 ≤ s.1 + 1; omega, this⟩, rfl⟩
  · exact rRef_i h
theorem rOne_i {T V p : Int → Int} {N : Int} {sub : Option (rdF × rdF)} (hN : T N = 0) (hf : ∀ q, sub = some q → rIn N q.1 ∧ rIn N q.2) : rIn N (rOne T V p N sub) := fun s h1 h2 => by
  have hr := rRef_i (p := p) h2
  have hr' : (s.1 ≤ ((0 : Int), rRef p N s).2.1 ∧ ((0 : Int), rRef p N s).2.1 ≤ N) ∧ (s.2.1.length ≤ 160 → ((0 : Int), rRef p N s).2.2.1.length ≤ 160) := ⟨hr.1, fun z => by show (rRef p N s).2.1.length ≤ 160; rw [hr.2]; exact z⟩
  unfold rOne
  split
  · rename_i c
    have h3 : s.1 + 1 ≤ N := rAd_i hN h2 rfl (by omega)
    have b := rNd_i (sg := T s.1) (x := V s.1) (y := 0) (s := rAdv s)
    exact ⟨⟨by rw [b.1]; show s.1 ≤ s.1 + 1; omega, by rw [b.1]; exact h3⟩, b.2⟩
  · cases sub with
    | none => exact hr'
    | some q =>
      show (s.1 ≤ (if T s.1 = 45 then rNd 4 (q.1 (rAdv s)).1 0 (q.1 (rAdv s)).2 else if T s.1 = 40 then ((q.2 (rAdv s)).1, rNeed T p N 41 (q.2 (rAdv s)).2) else (0, rRef p N s)).2.1 ∧ (if T s.1 = 45 then rNd 4 (q.1 (rAdv s)).1 0 (q.1 (rAdv s)).2 else if T s.1 = 40 then ((q.2 (rAdv s)).1, rNeed T p N 41 (q.2 (rAdv s)).2) else (0, rRef p N s)).2.1 ≤ N) ∧ (s.2.1.length ≤ 160 → (if T s.1 = 45 then rNd 4 (q.1 (rAdv s)).1 0 (q.1 (rAdv s)).2 else if T s.1 = 40 then ((q.2 (rAdv s)).1, rNeed T p N 41 (q.2 (rAdv s)).2) else (0, rRef p N s)).2.2.1.length ≤ 160)
      split
      · rename_i c
        have h3 : s.1 + 1 ≤ N := rAd_i hN h2 c (by decide)
        obtain ⟨⟨a1, a2⟩, a3⟩ := (hf q rfl).1 (rAdv s) (by show 0 ≤ s.1 + 1; omega) h3
        have a1' : s.1 + 1 ≤ (q.1 (rAdv s)).2.1 := a1
        have b := rNd_i (sg := 4) (x := (q.1 (rAdv s)).1) (y := 0) (s := (q.1 (rAdv s)).2)
        exact ⟨⟨by rw [b.1]; omega, by rw [b.1]; exact a2⟩, fun z => b.2 (a3 z)⟩
      · split
        · rename_i c
          have h3 : s.1 + 1 ≤ N := rAd_i hN h2 c (by decide)
          obtain ⟨⟨a1, a2⟩, a3⟩ := (hf q rfl).2 (rAdv s) (by show 0 ≤ s.1 + 1; omega) h3
          have a1' : s.1 + 1 ≤ (q.2 (rAdv s)).2.1 := a1
          obtain ⟨⟨b1, b2⟩, b3⟩ := rNeed_i (p := p) (t := 41) hN (by decide) a2
          exact ⟨⟨by show s.1 ≤ (rNeed T p N 41 (q.2 (rAdv s)).2).1; omega, b2⟩, fun z => by show (rNeed T p N 41 (q.2 (rAdv s)).2).2.1.length ≤ 160; rw [b3]; exact a3 z⟩
        · exact hr'
theorem rAll_i {T V p : Int → Int} {N : Int} (hN : T N = 0) : ∀ d, rIn N (rAll T V p N d).1 ∧ rIn N (rAll T V p N d).2
  | 0 => ⟨rOne_i hN (fun _ h => by cases h), rNot_i hN (rOne_i hN (fun _ h => by cases h)) (fun _ h => by cases h)⟩
  | d + 1 => by
    obtain ⟨h1, h2⟩ := rAll_i (T := T) (V := V) (p := p) (N := N) hN d
    have h3 : rIn N (rOne T V p N (some ((rAll T V p N d).1, rEith T (rAll T V p N d).2))) := rOne_i hN (fun q hq => by cases hq; exact ⟨h1, rEith_i hN h2⟩)
    exact ⟨h3, rNot_i hN h3 (fun f hf => by cases hf; exact h2)⟩
