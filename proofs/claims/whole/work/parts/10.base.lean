theorem ax_dec2 {cc : ByteArray} {pc : Nat} {im : List (Nat × Instr × Nat)} {i : Instr} {n : Nat} (hi : ax_im cc im) (h : ax_at im pc = some (i, n)) : decode cc pc = .ok (i, n) := hi (pc, i, n) (ax_at_in h)
/-! ===== loops; small helps for the walks ===== -/
section AL
variable {own : Nat} {cc : ByteArray} {nL : Nat} {scr : Option (Nat × (Nat → Int32))} {R : Room} {p0 : Nat → Int → Prop} {Q : ax_Q} {kc ks pc : Nat} {la : List (Option ax_V)} {st : List ax_V} {M : ax_Mm}
theorem aj_loop {σ : Type} (I : σ → Prop) (μ : σ → Nat) (la : σ → List (Option ax_V)) (st : σ → List ax_V) (M : σ → ax_Mm) (h : ∀ x, I x → (∀ y, I y → μ y < μ x → ax_J own cc nL scr R p0 Q kc ks pc (la y) (st y) (M y)) → ax_J own cc nL scr R p0 Q kc ks pc (la x) (st x) (M x)) (x0 : σ) (h0 : I x0) : ax_J own cc nL scr R p0 Q kc ks pc (la x0) (st x0) (M x0) := by
  suffices H : ∀ (n : Nat) (x : σ), I x → μ x < n → ax_J own cc nL scr R p0 Q kc ks pc (la x) (st x) (M x) from H (μ x0 + 1) x0 h0 (Nat.lt_succ_self _)
  intro n
  induction n with
  | zero => intro x _ hx; exact absurd hx (Nat.not_lt_zero _)
  | succ n ih => intro x hI hx; exact h x hI (fun y hy hm => ih y hy (by omega))
/-- fewer locals known -/
def ax_fg : List (Option ax_V) → List (Option ax_V) → Prop
  | [], [] => True
  | _ :: xs, none :: ys => ax_fg xs ys
  | x :: xs, some y :: ys => x = some y ∧ ax_fg xs ys
  | _, _ => False
theorem ax_fg_ok : ∀ {la la' : List (Option ax_V)}, ax_fg la la' → la'.length = la.length ∧ ∀ (i : Nat) (v : ax_V), la'[i]? = some (some v) → la[i]? = some (some v)
  | [], [], _ => ⟨rfl, fun i v h => h⟩
  | x :: xs, none :: ys, h => by
    obtain ⟨h1, h2⟩ := ax_fg_ok (la := xs) (la' := ys) h
    refine ⟨by simp [h1], fun i v hi => ?_⟩
    cases i with
    | zero => simp at hi
    | succ i => simpa using h2 i v (by simpa using hi)
  | x :: xs, some y :: ys, h => by
    obtain ⟨h0, h⟩ := h
    obtain ⟨h1, h2⟩ := ax_fg_ok (la := xs) (la' := ys) h
    refine ⟨by simp [h1], fun i v hi => ?_⟩
    cases i with
    | zero => simpa [h0] using hi
    | succ i => simpa using h2 i v (by simpa using hi)
  | [], _ :: _, h => h.elim
  | _ :: _, [], h => h.elim
theorem aj_forget {la' : List (Option ax_V)} (h : ax_fg la la') (k : ax_J own cc nL scr R p0 Q kc ks pc la' st M) : ax_J own cc nL scr R p0 Q kc ks pc la st M := by
  intro p l e s m args below meth c N0 D QQ ad0 C hret ad ls rs H locs Z L S
  obtain ⟨h1, h2⟩ := ax_fg_ok h
  obtain ⟨l1, lv, l2, l3⟩ := L
  exact k p l e s m args below meth c N0 D QQ ad0 C hret ad ls rs H locs Z ⟨by rw [h1]; exact l1, lv, l2, fun i v hi => l3 i v (h2 i v hi)⟩ S
theorem aj_cast {la' : List (Option ax_V)} {st' : List ax_V} {M' : ax_Mm} (h1 : la = la') (h2 : st = st') (h3 : M = M') (k : ax_J own cc nL scr R p0 Q kc ks pc la' st' M') : ax_J own cc nL scr R p0 Q kc ks pc la st M := by
  subst h1; subst h2; subst h3; exact k
end AL
theorem ins_obj : Cond.instanceMethod objectInit ∈ ax_GT := ax_GT_in (i := 97) (by decide +kernel) rfl
theorem code_obj : Cond.code objectInit ⟨#[0xb1]⟩ 1 none ∈ ax_GT := ax_GT_in (i := 98) (by decide +kernel) rfl
