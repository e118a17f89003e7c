/-- a fold over 0 .. n less 1 -/
def wF {σ : Type} (f : Int → σ → σ) (s : σ) : Nat → σ
  | 0 => s
  | k + 1 => f k (wF f s k)
def wFI {σ : Type} (f : Int → σ → σ) (s : σ) (a : Int) : σ := wF f s a.toNat
theorem wFI_0 {σ : Type} {f : Int → σ → σ} {s : σ} : wFI f s 0 = s := rfl
theorem wFI_s {σ : Type} {f : Int → σ → σ} {s : σ} {a : Int} (h : 0 ≤ a) : wFI f s (a + 1) = f a (wFI f s a) := by
  unfold wFI
  rw [show (a + 1).toNat = a.toNat + 1 by omega]
  show f (a.toNat : Int) _ = _
  rw [show ((a.toNat : Nat) : Int) = a by omega]
def wSet (l : Int → Int) (n : Int) : Int := wFI (fun a w => ax_or w (ax_shl (l a) a)) 0 n
/-- who is last of 0 .. n less 1 by off -/
def wMax (off : Int → Int) (n : Int) : Int := wFI (fun a l => if l = -1 ∨ off l < off a then a else l) (-1) n
noncomputable def wLast (off : Int → Int) (n : Int) : Int := @ite Int (∀ a, 0 ≤ a → a < n → 0 ≤ off a) (Classical.propDecidable _) (wMax off n) (-1)
def wOth (wh : Int → Int) (n a : Int) : Int := wFI (fun b c => c + bI (b ≠ a ∧ wh b = wh a)) 0 n
theorem wFI_in {f : Int → Int → Int} {lo : Int} (hs : ∀ a l, 0 ≤ a → lo ≤ l → l < a ∨ l = lo → f a l = a ∨ f a l = l) : ∀ (k : Nat), lo ≤ 0 → (wF f lo k = lo ∨ (0 ≤ wF f lo k ∧ wF f lo k < k))
  | 0, _ => Or.inl rfl
  | k + 1, h0 => by
    have ih := wFI_in hs k h0
    have h1 : lo ≤ wF f lo k := by rcases ih with h | h <;> omega
    have := hs k (wF f lo k) (by omega) h1 (by rcases ih with h | h <;> omega)
    show f k (wF f lo k) = lo ∨ (0 ≤ f k (wF f lo k) ∧ f k (wF f lo k) < ((k + 1 : Nat) : Int))
    rcases this with h | h <;> rw [h]
    · right; omega
    · rcases ih with h | h
      · left; exact h
      · right; omega
theorem wMax_in {off : Int → Int} {n : Int} (hn : 0 ≤ n) : wMax off n = -1 ∨ (0 ≤ wMax off n ∧ wMax off n < n) := by
  have := wFI_in (f := fun a l => if l = -1 ∨ off l < off a then a else l) (lo := -1) (by intro a l _ _ _; split <;> simp) n.toNat (by omega)
  rw [show ((n.toNat : Nat) : Int) = n by omega] at this
  exact this
theorem wOth_in {wh : Int → Int} {n a : Int} (hn : 0 ≤ n) : 0 ≤ wOth wh n a ∧ wOth wh n a ≤ n := by
  suffices H : ∀ k : Nat, 0 ≤ wF (fun b c => c + bI (b ≠ a ∧ wh b = wh a)) (0 : Int) k ∧ wF (fun b c => c + bI (b ≠ a ∧ wh b = wh a)) (0 : Int) k ≤ k by
    have := H n.toNat
    unfold wOth wFI
    omega
  intro k
  induction k with
  | zero => exact ⟨Int.le_refl _, Int.le_refl _⟩
  | succ k ih =>
    show 0 ≤ wF (fun b c => c + bI (b ≠ a ∧ wh b = wh a)) (0 : Int) k + bI ((k : Int) ≠ a ∧ wh k = wh a) ∧ wF (fun b c => c + bI (b ≠ a ∧ wh b = wh a)) (0 : Int) k + bI ((k : Int) ≠ a ∧ wh k = wh a) ≤ ((k + 1 : Nat) : Int)
    have := bI_01 (p := (k : Int) ≠ a ∧ wh k = wh a)
    omega
set_option maxRecDepth 100000 in
set_option maxHeartbeats 4000000 in
theorem sp_asSet (P : Nat → Int → Prop) (g : Nat → Int → Int → Int) (r0 : Nat → Int → Int → Option (Nat × Int)) (n : Nat → Int → Int) (hn : mLen n) (h2 : 0 ≤ g 50 0 2 ∧ g 50 0 2 ≤ 7) : ax_S yX11_asSet cX11_asSet 3 (some FieldType.int) 0 0 0 [.inr (.inr (some (50, 0)))] (P, g, r0, n) (fun r M' => r = some (.inl (wSet (g 105 0) (g 50 0 2))) ∧ M' = (P, g, r0, n)) := by
  have n105 : n 105 0 = 7 := hn (105, 7) (by decide)
  refine ax_S_of (own := 11) (by decide) rfl (fun h => absurd h (by decide)) rfl (Nat.le_of_ble_eq_true rfl) ?_
  change ax_J _ _ _ _ _ _ _ _ _ _ [some (.inr (.inr (some (50, 0)))), none, none] _ _
  refine aj_run (C := True) (pc' := 4) (la' := [some (.inr (.inr (some (50, 0)))), some (.inl 0), some (.inl 0)]) (st' := []) (M' := (P, g, r0, n)) ok_X11_asSet true 4 rfl trivial ?_
  refine aj_cast (congrArg (fun (z9 : Int) => ([some (.inr (.inr (some (50, 0)))), some (.inl z9), some (.inl 0)] : List (Option ax_V))) (show 0 = wSet (g 105 0) 0 from by rfl)) rfl rfl ?_
  refine aj_loop (σ := (Int)) (fun x => 0 ≤ x ∧ x ≤ g 50 0 2) (fun x => (g 50 0 2 - x).toNat) (fun x => [some (.inr (.inr (some (50, 0)))), some (.inl (wSet (g 105 0) x)), some (.inl x)]) (fun x => []) (fun x => (P, g, r0, n)) ?_ (0) ?_
  rotate_left
  · omega
  rintro a hI ih4
  dsimp only at hI ih4
  obtain ⟨i1, i2⟩ := hI
  change ax_J _ _ _ _ _ _ _ _ _ 4 [some (.inr (.inr (some (50, 0)))), some (.inl (wSet (g 105 0) a)), some (.inl a)] [] (P, g, r0, n)
  refine aj_run (C := True) (pc' := 9) (la' := [some (.inr (.inr (some (50, 0)))), some (.inl (wSet (g 105 0) a)), some (.inl a)]) (st' := [.inl (g 50 0 2), .inl a]) (M' := (P, g, r0, n)) ok_X11_asSet true 3 rfl trivial ?_
  refine aj_icmp_ge (tgt := 29) (ax_dec2 (i := .if_icmp .ge 20) (n := 3) ok_X11_asSet rfl) (by decide) (fun c1 => ?_) (fun c1 => ?_)
  · refine aj_run (C := True) (pc' := 30) (la' := [some (.inr (.inr (some (50, 0)))), some (.inl (wSet (g 105 0) a)), some (.inl a)]) (st' := [.inl (wSet (g 105 0) a)]) (M' := (P, g, r0, n)) ok_X11_asSet true 1 rfl trivial ?_
    refine aj_ret (r := some (.inl (wSet (g 105 0) a))) (ax_dec2 (i := .ireturn) (n := 1) ok_X11_asSet rfl) ⟨?_, ?_, by decide, by decide⟩ rfl
    · exact ⟨ax_si (by rw [show a = g 50 0 2 by omega]), rfl⟩
    · exact ax_ro_i
  · refine aj_run (C := (0 ≤ a ∧ a < n 105 0) ∧ (-2147483648 ≤ a + 1 ∧ a + 1 ≤ 2147483647) ∧ True) (pc' := 4) (la' := [some (.inr (.inr (some (50, 0)))), some (.inl (ax_or (wSet (g 105 0) a) (ax_shl (g 105 0 a) a))), some (.inl (a + 1))]) (st' := []) (M' := (P, g, r0, n)) ok_X11_asSet true 11 rfl (by refine ⟨?_, ?_, trivial⟩ <;> (omega)) ?_
    refine aj_cast (congrArg (fun (z9 : Int) => ([some (.inr (.inr (some (50, 0)))), some (.inl z9), some (.inl (a + 1))] : List (Option ax_V))) (show ax_or (wSet (g 105 0) a) (ax_shl (g 105 0 a) a) = wSet (g 105 0) (a + 1) from by (unfold wSet; rw [wFI_s i1]))) rfl rfl ?_
    refine ih4 (a + 1) ?_ ?_
    · omega
    · omega

set_option maxRecDepth 100000 in
set_option maxHeartbeats 4000000 in
theorem sp_lastOff (P : Nat → Int → Prop) (g : Nat → Int → Int → Int) (r0 : Nat → Int → Int → Option (Nat × Int)) (n : Nat → Int → Int) (hn : mLen n) (h2 : 0 ≤ g 50 0 2 ∧ g 50 0 2 ≤ 7) : ax_S yX11_lastOff cX11_lastOff 3 (some FieldType.int) 0 0 0 [.inr (.inr (some (50, 0)))] (P, g, r0, n) (fun r M' => r = some (.inl (wLast (g 135 0) (g 50 0 2))) ∧ M' = (P, g, r0, n)) := by
  have n135 : n 135 0 = 7 := hn (135, 7) (by decide)
  refine ax_S_of (own := 11) (by decide) rfl (fun h => absurd h (by decide)) rfl (Nat.le_of_ble_eq_true rfl) ?_
  change ax_J _ _ _ _ _ _ _ _ _ _ [some (.inr (.inr (some (50, 0)))), none, none] _ _
  refine aj_run (C := True) (pc' := 4) (la' := [some (.inr (.inr (some (50, 0)))), some (.inl (-1)), some (.inl 0)]) (st' := []) (M' := (P, g, r0, n)) ok_X11_lastOff true 4 rfl trivial ?_
  refine aj_cast (congrArg (fun (z9 : Int) => ([some (.inr (.inr (some (50, 0)))), some (.inl z9), some (.inl 0)] : List (Option ax_V))) (show (-1) = wMax (g 135 0) 0 from by rfl)) rfl rfl ?_
  refine aj_loop (σ := (Int)) (fun x => 0 ≤ x ∧ x ≤ g 50 0 2 ∧ ∀ b, 0 ≤ b → b < x → 0 ≤ g 135 0 b) (fun x => (g 50 0 2 - x).toNat) (fun x => [some (.inr (.inr (some (50, 0)))), some (.inl (wMax (g 135 0) x)), some (.inl x)]) (fun x => []) (fun x => (P, g, r0, n)) ?_ (0) ?_
  rotate_left
  · exact ⟨by omega, by omega, fun b h1 h3 => by omega⟩
  rintro a hI ih4
  dsimp only at hI ih4
  obtain ⟨i1, i2, i3⟩ := hI
  change ax_J _ _ _ _ _ _ _ _ _ 4 [some (.inr (.inr (some (50, 0)))), some (.inl (wMax (g 135 0) a)), some (.inl a)] [] (P, g, r0, n)
  have hm := wMax_in (off := g 135 0) i1
  refine aj_run (C := True) (pc' := 9) (la' := [some (.inr (.inr (some (50, 0)))), some (.inl (wMax (g 135 0) a)), some (.inl a)]) (st' := [.inl (g 50 0 2), .inl a]) (M' := (P, g, r0, n)) ok_X11_lastOff true 3 rfl trivial ?_
  refine aj_icmp_ge (tgt := 55) (ax_dec2 (i := .if_icmp .ge 46) (n := 3) ok_X11_lastOff rfl) (by decide) (fun c1 => ?_) (fun c1 => ?_)
  · refine aj_run (C := True) (pc' := 56) (la' := [some (.inr (.inr (some (50, 0)))), some (.inl (wMax (g 135 0) a)), some (.inl a)]) (st' := [.inl (wMax (g 135 0) a)]) (M' := (P, g, r0, n)) ok_X11_lastOff true 1 rfl trivial ?_
    refine aj_ret (r := some (.inl (wMax (g 135 0) a))) (ax_dec2 (i := .ireturn) (n := 1) ok_X11_lastOff rfl) ⟨?_, ?_, by decide, by decide⟩ rfl
    · first | exact ⟨ax_si (by unfold wLast; rw [if_pos (fun b h1 h3 => i3 b h1 (by omega)), show g 50 0 2 = a by omega]), rfl⟩ | exact ⟨ax_si (by unfold wLast; rw [if_neg (fun q => by have := q a i1 (by omega); omega)]), rfl⟩
    · exact ax_ro_i
  · refine aj_run (C := (0 ≤ a ∧ a < n 135 0) ∧ True) (pc' := 18) (la' := [some (.inr (.inr (some (50, 0)))), some (.inl (wMax (g 135 0) a)), some (.inl a)]) (st' := [.inl (g 135 0 a)]) (M' := (P, g, r0, n)) ok_X11_lastOff true 4 rfl (by refine ⟨?_, trivial⟩ <;> (omega)) ?_
    refine aj_if_ge (tgt := 23) (ax_dec2 (i := .ifCond .ge 5) (n := 3) ok_X11_lastOff rfl) (by decide) (fun c2 => ?_) (fun c2 => ?_)
    · refine aj_run (C := True) (pc' := 25) (la' := [some (.inr (.inr (some (50, 0)))), some (.inl (wMax (g 135 0) a)), some (.inl a)]) (st' := [.inl (-1), .inl (wMax (g 135 0) a)]) (M' := (P, g, r0, n)) ok_X11_lastOff true 2 rfl trivial ?_
      refine aj_icmp_eq (tgt := 43) (ax_dec2 (i := .if_icmp .eq 18) (n := 3) ok_X11_lastOff rfl) (by decide) (fun c3 => ?_) (fun c3 => ?_)
      · refine aj_run (C := (-2147483648 ≤ a + 1 ∧ a + 1 ≤ 2147483647) ∧ True) (pc' := 4) (la' := [some (.inr (.inr (some (50, 0)))), some (.inl a), some (.inl (a + 1))]) (st' := []) (M' := (P, g, r0, n)) ok_X11_lastOff true 5 rfl (by refine ⟨?_, trivial⟩ <;> (omega)) ?_
        refine aj_cast (congrArg (fun (z9 : Int) => ([some (.inr (.inr (some (50, 0)))), some (.inl z9), some (.inl (a + 1))] : List (Option ax_V))) (show a = wMax (g 135 0) (a + 1) from by (unfold wMax at *; rw [wFI_s i1]; first | rw [if_pos (by omega)] | rw [if_neg (by omega)]))) rfl rfl ?_
        refine ih4 (a + 1) ?_ ?_
        · exact ⟨by omega, by omega, fun b h1 h3 => by rcases (show b < a ∨ b = a by omega) with h | rfl; exact i3 b h1 h; omega⟩
        · omega
      · refine aj_run (C := (0 ≤ a ∧ a < n 135 0) ∧ (0 ≤ wMax (g 135 0) a ∧ wMax (g 135 0) a < n 135 0) ∧ True) (pc' := 40) (la' := [some (.inr (.inr (some (50, 0)))), some (.inl (wMax (g 135 0) a)), some (.inl a)]) (st' := [.inl (g 135 0 (wMax (g 135 0) a)), .inl (g 135 0 a)]) (M' := (P, g, r0, n)) ok_X11_lastOff true 8 rfl (by refine ⟨?_, ?_, trivial⟩ <;> (omega)) ?_
        refine aj_icmp_le (tgt := 47) (ax_dec2 (i := .if_icmp .le 7) (n := 3) ok_X11_lastOff rfl) (by decide) (fun c4 => ?_) (fun c4 => ?_)
        · refine aj_run (C := (-2147483648 ≤ a + 1 ∧ a + 1 ≤ 2147483647) ∧ True) (pc' := 4) (la' := [some (.inr (.inr (some (50, 0)))), some (.inl (wMax (g 135 0) a)), some (.inl (a + 1))]) (st' := []) (M' := (P, g, r0, n)) ok_X11_lastOff true 4 rfl (by refine ⟨?_, trivial⟩ <;> (omega)) ?_
          refine aj_cast (congrArg (fun (z9 : Int) => ([some (.inr (.inr (some (50, 0)))), some (.inl z9), some (.inl (a + 1))] : List (Option ax_V))) (show wMax (g 135 0) a = wMax (g 135 0) (a + 1) from by (unfold wMax at *; rw [wFI_s i1]; first | rw [if_pos (by omega)] | rw [if_neg (by omega)]))) rfl rfl ?_
          refine ih4 (a + 1) ?_ ?_
          · exact ⟨by omega, by omega, fun b h1 h3 => by rcases (show b < a ∨ b = a by omega) with h | rfl; exact i3 b h1 h; omega⟩
          · omega
        · refine aj_run (C := (-2147483648 ≤ a + 1 ∧ a + 1 ≤ 2147483647) ∧ True) (pc' := 4) (la' := [some (.inr (.inr (some (50, 0)))), some (.inl a), some (.inl (a + 1))]) (st' := []) (M' := (P, g, r0, n)) ok_X11_lastOff true 5 rfl (by refine ⟨?_, trivial⟩ <;> (omega)) ?_
          refine aj_cast (congrArg (fun (z9 : Int) => ([some (.inr (.inr (some (50, 0)))), some (.inl z9), some (.inl (a + 1))] : List (Option ax_V))) (show a = wMax (g 135 0) (a + 1) from by (unfold wMax at *; rw [wFI_s i1]; first | rw [if_pos (by omega)] | rw [if_neg (by omega)]))) rfl rfl ?_
          refine ih4 (a + 1) ?_ ?_
          · exact ⟨by omega, by omega, fun b h1 h3 => by rcases (show b < a ∨ b = a by omega) with h | rfl; exact i3 b h1 h; omega⟩
          · omega
    · refine aj_run (C := True) (pc' := 22) (la' := [some (.inr (.inr (some (50, 0)))), some (.inl (wMax (g 135 0) a)), some (.inl a)]) (st' := [.inl (-1)]) (M' := (P, g, r0, n)) ok_X11_lastOff true 1 rfl trivial ?_
      refine aj_ret (r := some (.inl (-1))) (ax_dec2 (i := .ireturn) (n := 1) ok_X11_lastOff rfl) ⟨?_, ?_, by decide, by decide⟩ rfl
      · first | exact ⟨ax_si (by unfold wLast; rw [if_pos (fun b h1 h3 => i3 b h1 (by omega)), show g 50 0 2 = a by omega]), rfl⟩ | exact ⟨ax_si (by unfold wLast; rw [if_neg (fun q => by have := q a i1 (by omega); omega)]), rfl⟩
      · exact ax_ro_i

