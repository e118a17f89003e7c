noncomputable def mPlank (g : Nat → Int → Int → Int) (w v : Int) : Int × (Nat → Int → Int → Int) := if w = 0 then (if 2 ≤ v ∧ v ≤ 40 then @ite _ (∀ a, 0 ≤ a → a < g 50 0 2 → g 104 0 a ≤ v - 1) (Classical.propDecidable _) (g 50 0 0, ax_u3 g 50 0 0 v) (-3, g) else (-2, g)) else if w = 1 ∧ 0 ≤ v ∧ v ≤ 1 then (g 50 0 1, ax_u3 g 50 0 1 v) else (-2, g)
def mAnt (g : Nat → Int → Int → Int) (k w s : Int) : Int × (Nat → Int → Int → Int) := if (0 ≤ k ∧ k ≤ 5) ∧ 0 ≤ w ∧ (1 ≤ Int.tdiv w 100 ∧ Int.tdiv w 100 ≤ g 50 0 0 - 1) ∧ Int.tmod (Int.tdiv w 10) 10 ≤ 1 ∧ (0 ≤ s ∧ s ≤ 20) then (if g 50 0 2 = 7 then (-4, g) else (g 50 0 2, ax_u3 (ax_u3 (ax_u3 (ax_u3 (ax_u3 (ax_u3 g 103 0 (g 50 0 2) k) 104 0 (g 50 0 2) (Int.tdiv w 100)) 105 0 (g 50 0 2) (Int.tmod (Int.tdiv w 10) 10)) 106 0 (g 50 0 2) s) 107 0 (g 50 0 2) (Int.tmod w 10)) 50 0 2 (g 50 0 2 + 1))) else (-2, g)
def mMost (g : Nat → Int → Int → Int) (w : Int) : Int := if w = 0 then g 50 0 0 - 1 else if w = 1 then 1 else if w = 2 then 20 else 9
def mSet (g : Nat → Int → Int → Int) (a w v : Int) : Int × (Nat → Int → Int → Int) := if (0 ≤ a ∧ a < g 50 0 2) ∧ (0 ≤ w ∧ w ≤ 3) ∧ (if w = 0 then 1 else 0) ≤ v ∧ v ≤ mMost g w then (mTold g a w, if w = 0 then ax_u3 g 104 0 a v else if w = 1 then ax_u3 g 105 0 a v else if w = 2 then ax_u3 g 106 0 a v else ax_u3 g 107 0 a v) else (-2, g)
def mCell (g : Nat → Int → Int → Int) (s i v : Int) : Int × (Nat → Int → Int → Int) := if 0 ≤ s ∧ s ≤ 3 then (if g 155 0 s < 0 then (-11, g) else if 0 ≤ i ∧ i < g 156 0 s then (1, ax_u3 g 157 0 (40 * s + i) (if g 155 0 s = 0 then ax_i2b v else if g 155 0 s = 1 then ax_i2s v else v)) else (-12, g)) else (-2, g)
def mTaken (g : Nat → Int → Int → Int) (a k : Int) : Int := if 0 ≤ k ∧ k ≤ 5 then (if 0 ≤ a ∧ a < g 50 0 2 then (if k = 0 ∨ g 103 0 a = k ∨ (k = 1 ∧ g 103 0 a = 3) ∨ (k = 2 ∧ (g 103 0 a = 4 ∨ g 103 0 a = 5)) then g 107 0 a else -13) else -11) else -2
set_option maxRecDepth 100000 in
set_option maxHeartbeats 4000000 in
theorem sp_plank (w v : Int) (P : Nat → Int → Prop) (g : Nat → Int → Int → Int) (r0 : Nat → Int → Int → Option (Nat × Int)) (n : Nat → Int → Int) (hn : mLen n) (h2 : 0 ≤ g 50 0 2 ∧ g 50 0 2 ≤ 7) (hk : 2 ≤ g 50 0 0 ∧ g 50 0 0 ≤ 40) : ax_S yX11_plank cX11_plank 5 (some FieldType.int) 1 0 0 [.inr (.inr (some (50, 0))), .inl w, .inl v] (P, g, r0, n) (fun r M' => r = some (.inl (mPlank g w v).1) ∧ M' = (P, (mPlank g w v).2, r0, n)) := by
  have n104 : n 104 0 = 7 := hn (104, 7) (by decide)
  refine ax_S_of (own := 11) (by decide) rfl (fun h => absurd h (by decide)) rfl (Nat.le_of_ble_eq_true rfl) ?_
  change ax_J _ _ _ _ _ _ _ _ _ _ [some (.inr (.inr (some (50, 0)))), some (.inl w), some (.inl v), none, none] _ _
  refine aj_run (C := True) (pc' := 3) (la' := [some (.inr (.inr (some (50, 0)))), some (.inl w), some (.inl v), none, none]) (st' := [.inl 1, .inl 0, .inl w]) (M' := (P, g, r0, n)) ok_X11_plank true 3 rfl trivial ?_
  refine aj_callS (av := [.inl w, .inl 0, .inl 1]) (st := []) cal_X11_isIn lk_11_7 stc_X11_isIn (sp_isIn w 0 1 _ _ _ _) ⟨by decide, by decide, by decide, by decide⟩ (Nat.le_of_ble_eq_true rfl) (ax_dec2 (i := .invokestatic 7) (n := 3) ok_X11_plank rfl) (fun r M' hq => ?_)
  obtain ⟨rfl, rfl⟩ := hq
  change ax_J _ _ _ _ _ _ _ _ _ 6 [some (.inr (.inr (some (50, 0)))), some (.inl w), some (.inl v), none, none] [.inl (bI (0 ≤ w ∧ w ≤ 1))] (P, g, r0, n)
  refine aj_if_eq (tgt := 35) (ax_dec2 (i := .ifCond .eq 29) (n := 3) ok_X11_plank rfl) (by decide) (fun c1 => ?_) (fun c1 => ?_)
  · replace c1 := bI_e0 c1
    refine aj_run (C := True) (pc' := 37) (la' := [some (.inr (.inr (some (50, 0)))), some (.inl w), some (.inl v), none, none]) (st' := [.inl (-2)]) (M' := (P, g, r0, n)) ok_X11_plank true 1 rfl trivial ?_
    refine aj_ret (r := some (.inl (-2))) (ax_dec2 (i := .ireturn) (n := 1) ok_X11_plank rfl) ⟨?_, ?_, by decide, by decide⟩ rfl
    · (first | (exfalso; omega) | exact ⟨ax_si (by unfold mPlank; (repeat first | rw [if_pos (by omega)] | rw [if_neg (by omega)] | rw [bI_t (by omega)] | rw [bI_f (by omega)]); rw [if_pos (fun b h1 h3 => i3 b h1 (by omega))]), (by unfold mPlank; (repeat first | rw [if_pos (by omega)] | rw [if_neg (by omega)] | rw [bI_t (by omega)] | rw [bI_f (by omega)]); rw [if_pos (fun b h1 h3 => i3 b h1 (by omega))])⟩ | exact ⟨ax_si (by unfold mPlank; (repeat first | rw [if_pos (by omega)] | rw [if_neg (by omega)] | rw [bI_t (by omega)] | rw [bI_f (by omega)]); rw [if_neg (fun q => by have := q a i1 (by omega); omega)]), (by unfold mPlank; (repeat first | rw [if_pos (by omega)] | rw [if_neg (by omega)] | rw [bI_t (by omega)] | rw [bI_f (by omega)]); rw [if_neg (fun q => by have := q a i1 (by omega); omega)])⟩ | exact ⟨ax_si (by unfold mPlank; (repeat first | rw [if_pos (by omega)] | rw [if_neg (by omega)] | rw [bI_t (by omega)] | rw [bI_f (by omega)]); try first | rfl | omega), (by unfold mPlank; (repeat first | rw [if_pos (by omega)] | rw [if_neg (by omega)] | rw [bI_t (by omega)] | rw [bI_f (by omega)]); try rfl)⟩)
    · exact ax_ro_i
  · replace c1 := bI_n0 c1
    refine aj_run (C := True) (pc' := 10) (la' := [some (.inr (.inr (some (50, 0)))), some (.inl w), some (.inl v), none, none]) (st' := [.inl w]) (M' := (P, g, r0, n)) ok_X11_plank true 1 rfl trivial ?_
    refine aj_if_ne (tgt := 26) (ax_dec2 (i := .ifCond .ne 16) (n := 3) ok_X11_plank rfl) (by decide) (fun c2 => ?_) (fun c2 => ?_)
    · refine aj_run (C := True) (pc' := 29) (la' := [some (.inr (.inr (some (50, 0)))), some (.inl w), some (.inl v), none, none]) (st' := [.inl 1, .inl 0, .inl v]) (M' := (P, g, r0, n)) ok_X11_plank true 3 rfl trivial ?_
      refine aj_callS (av := [.inl v, .inl 0, .inl 1]) (st := []) cal_X11_isIn lk_11_7 stc_X11_isIn (sp_isIn v 0 1 _ _ _ _) ⟨by decide, by decide, by decide, by decide⟩ (Nat.le_of_ble_eq_true rfl) (ax_dec2 (i := .invokestatic 7) (n := 3) ok_X11_plank rfl) (fun r M' hq => ?_)
      obtain ⟨rfl, rfl⟩ := hq
      change ax_J _ _ _ _ _ _ _ _ _ 32 [some (.inr (.inr (some (50, 0)))), some (.inl w), some (.inl v), none, none] [.inl (bI (0 ≤ v ∧ v ≤ 1))] (P, g, r0, n)
      refine aj_if_ne (tgt := 38) (ax_dec2 (i := .ifCond .ne 6) (n := 3) ok_X11_plank rfl) (by decide) (fun c3 => ?_) (fun c3 => ?_)
      · replace c3 := bI_n0 c3
        refine aj_run (C := True) (pc' := 39) (la' := [some (.inr (.inr (some (50, 0)))), some (.inl w), some (.inl v), none, none]) (st' := [.inl w]) (M' := (P, g, r0, n)) ok_X11_plank true 1 rfl trivial ?_
        refine aj_if_ne (tgt := 49) (ax_dec2 (i := .ifCond .ne 10) (n := 3) ok_X11_plank rfl) (by decide) (fun c4 => ?_) (fun c4 => ?_)
        · refine aj_run (C := True) (pc' := 56) (la' := [some (.inr (.inr (some (50, 0)))), some (.inl w), some (.inl v), some (.inl (g 50 0 1)), none]) (st' := [.inl 1, .inl w]) (M' := (P, g, r0, n)) ok_X11_plank true 5 rfl trivial ?_
          refine aj_icmp_ne (tgt := 66) (ax_dec2 (i := .if_icmp .ne 10) (n := 3) ok_X11_plank rfl) (by decide) (fun c5 => ?_) (fun c5 => ?_)
          · refine aj_run (C := True) (pc' := 69) (la' := [some (.inr (.inr (some (50, 0)))), some (.inl w), some (.inl v), some (.inl (g 50 0 1)), some (.inl 0)]) (st' := []) (M' := (P, g, r0, n)) ok_X11_plank true 2 rfl trivial ?_
            refine aj_loop (σ := (Int)) (fun x => 0 ≤ x ∧ x ≤ g 50 0 2 ∧ ∀ b, 0 ≤ b → b < x → g 104 0 b ≤ v - 1) (fun x => (g 50 0 2 - x).toNat) (fun x => [some (.inr (.inr (some (50, 0)))), some (.inl w), some (.inl v), some (.inl (g 50 0 1)), some (.inl x)]) (fun x => []) (fun x => (P, g, r0, n)) ?_ (0) ?_
            rotate_left
            · exact ⟨by omega, by omega, fun b h1 h3 => by omega⟩
            rintro a hI ih69
            dsimp only at hI ih69
            obtain ⟨i1, i2, i3⟩ := hI
            change ax_J _ _ _ _ _ _ _ _ _ 69 [some (.inr (.inr (some (50, 0)))), some (.inl w), some (.inl v), some (.inl (g 50 0 1)), some (.inl a)] [] (P, g, r0, n)
            refine aj_run (C := True) (pc' := 75) (la' := [some (.inr (.inr (some (50, 0)))), some (.inl w), some (.inl v), some (.inl (g 50 0 1)), some (.inl a)]) (st' := [.inl (g 50 0 2), .inl a]) (M' := (P, g, r0, n)) ok_X11_plank true 3 rfl trivial ?_
            refine aj_icmp_ge (tgt := 100) (ax_dec2 (i := .if_icmp .ge 25) (n := 3) ok_X11_plank rfl) (by decide) (fun c6 => ?_) (fun c6 => ?_)
            · refine aj_run (C := True) (pc' := 106) (la' := [some (.inr (.inr (some (50, 0)))), some (.inl w), some (.inl v), some (.inl (g 50 0 1)), some (.inl a)]) (st' := [.inl (g 50 0 1)]) (M' := (P, ax_u3 g 50 0 0 v, r0, n)) ok_X11_plank true 4 rfl trivial ?_
              refine aj_ret (r := some (.inl (g 50 0 1))) (ax_dec2 (i := .ireturn) (n := 1) ok_X11_plank rfl) ⟨?_, ?_, by decide, by decide⟩ rfl
              · (first | (exfalso; omega) | exact ⟨ax_si (by unfold mPlank; (repeat first | rw [if_pos (by omega)] | rw [if_neg (by omega)] | rw [bI_t (by omega)] | rw [bI_f (by omega)]); rw [if_pos (fun b h1 h3 => i3 b h1 (by omega))]), (by unfold mPlank; (repeat first | rw [if_pos (by omega)] | rw [if_neg (by omega)] | rw [bI_t (by omega)] | rw [bI_f (by omega)]); rw [if_pos (fun b h1 h3 => i3 b h1 (by omega))])⟩ | exact ⟨ax_si (by unfold mPlank; (repeat first | rw [if_pos (by omega)] | rw [if_neg (by omega)] | rw [bI_t (by omega)] | rw [bI_f (by omega)]); rw [if_neg (fun q => by have := q a i1 (by omega); omega)]), (by unfold mPlank; (repeat first | rw [if_pos (by omega)] | rw [if_neg (by omega)] | rw [bI_t (by omega)] | rw [bI_f (by omega)]); rw [if_neg (fun q => by have := q a i1 (by omega); omega)])⟩ | exact ⟨ax_si (by unfold mPlank; (repeat first | rw [if_pos (by omega)] | rw [if_neg (by omega)] | rw [bI_t (by omega)] | rw [bI_f (by omega)]); try first | rfl | omega), (by unfold mPlank; (repeat first | rw [if_pos (by omega)] | rw [if_neg (by omega)] | rw [bI_t (by omega)] | rw [bI_f (by omega)]); try rfl)⟩)
              · exact ax_ro_i
            · refine aj_run (C := (0 ≤ a ∧ a < n 104 0) ∧ (-2147483648 ≤ v - 1 ∧ v - 1 ≤ 2147483647) ∧ True) (pc' := 88) (la' := [some (.inr (.inr (some (50, 0)))), some (.inl w), some (.inl v), some (.inl (g 50 0 1)), some (.inl a)]) (st' := [.inl (v - 1), .inl (g 104 0 a)]) (M' := (P, g, r0, n)) ok_X11_plank true 7 rfl (by refine ⟨?_, ?_, trivial⟩ <;> ((first | omega | (have := i3; omega)))) ?_
              refine aj_icmp_le (tgt := 94) (ax_dec2 (i := .if_icmp .le 6) (n := 3) ok_X11_plank rfl) (by decide) (fun c7 => ?_) (fun c7 => ?_)
              · refine aj_run (C := (-2147483648 ≤ a + 1 ∧ a + 1 ≤ 2147483647) ∧ True) (pc' := 69) (la' := [some (.inr (.inr (some (50, 0)))), some (.inl w), some (.inl v), some (.inl (g 50 0 1)), some (.inl (a + 1))]) (st' := []) (M' := (P, g, r0, n)) ok_X11_plank true 2 rfl (by refine ⟨?_, trivial⟩ <;> ((first | omega | (have := i3; omega)))) ?_
                refine ih69 (a + 1) ?_ ?_
                · exact ⟨by omega, by omega, fun b h1 h3 => by rcases (show b < a ∨ b = a by omega) with h | rfl; exact i3 b h1 h; omega⟩
                · omega
              · refine aj_run (C := True) (pc' := 93) (la' := [some (.inr (.inr (some (50, 0)))), some (.inl w), some (.inl v), some (.inl (g 50 0 1)), some (.inl a)]) (st' := [.inl (-3)]) (M' := (P, g, r0, n)) ok_X11_plank true 1 rfl trivial ?_
                refine aj_ret (r := some (.inl (-3))) (ax_dec2 (i := .ireturn) (n := 1) ok_X11_plank rfl) ⟨?_, ?_, by decide, by decide⟩ rfl
                · (first | (exfalso; omega) | exact ⟨ax_si (by unfold mPlank; (repeat first | rw [if_pos (by omega)] | rw [if_neg (by omega)] | rw [bI_t (by omega)] | rw [bI_f (by omega)]); rw [if_pos (fun b h1 h3 => i3 b h1 (by omega))]), (by unfold mPlank; (repeat first | rw [if_pos (by omega)] | rw [if_neg (by omega)] | rw [bI_t (by omega)] | rw [bI_f (by omega)]); rw [if_pos (fun b h1 h3 => i3 b h1 (by omega))])⟩ | exact ⟨ax_si (by unfold mPlank; (repeat first | rw [if_pos (by omega)] | rw [if_neg (by omega)] | rw [bI_t (by omega)] | rw [bI_f (by omega)]); rw [if_neg (fun q => by have := q a i1 (by omega); omega)]), (by unfold mPlank; (repeat first | rw [if_pos (by omega)] | rw [if_neg (by omega)] | rw [bI_t (by omega)] | rw [bI_f (by omega)]); rw [if_neg (fun q => by have := q a i1 (by omega); omega)])⟩ | exact ⟨ax_si (by unfold mPlank; (repeat first | rw [if_pos (by omega)] | rw [if_neg (by omega)] | rw [bI_t (by omega)] | rw [bI_f (by omega)]); try first | rfl | omega), (by unfold mPlank; (repeat first | rw [if_pos (by omega)] | rw [if_neg (by omega)] | rw [bI_t (by omega)] | rw [bI_f (by omega)]); try rfl)⟩)
                · exact ax_ro_i
          · refine aj_run (C := True) (pc' := 65) (la' := [some (.inr (.inr (some (50, 0)))), some (.inl w), some (.inl v), some (.inl (g 50 0 1)), none]) (st' := [.inl (g 50 0 1)]) (M' := (P, ax_u3 g 50 0 1 v, r0, n)) ok_X11_plank true 4 rfl trivial ?_
            refine aj_ret (r := some (.inl (g 50 0 1))) (ax_dec2 (i := .ireturn) (n := 1) ok_X11_plank rfl) ⟨?_, ?_, by decide, by decide⟩ rfl
            · (first | (exfalso; omega) | exact ⟨ax_si (by unfold mPlank; (repeat first | rw [if_pos (by omega)] | rw [if_neg (by omega)] | rw [bI_t (by omega)] | rw [bI_f (by omega)]); rw [if_pos (fun b h1 h3 => i3 b h1 (by omega))]), (by unfold mPlank; (repeat first | rw [if_pos (by omega)] | rw [if_neg (by omega)] | rw [bI_t (by omega)] | rw [bI_f (by omega)]); rw [if_pos (fun b h1 h3 => i3 b h1 (by omega))])⟩ | exact ⟨ax_si (by unfold mPlank; (repeat first | rw [if_pos (by omega)] | rw [if_neg (by omega)] | rw [bI_t (by omega)] | rw [bI_f (by omega)]); rw [if_neg (fun q => by have := q a i1 (by omega); omega)]), (by unfold mPlank; (repeat first | rw [if_pos (by omega)] | rw [if_neg (by omega)] | rw [bI_t (by omega)] | rw [bI_f (by omega)]); rw [if_neg (fun q => by have := q a i1 (by omega); omega)])⟩ | exact ⟨ax_si (by unfold mPlank; (repeat first | rw [if_pos (by omega)] | rw [if_neg (by omega)] | rw [bI_t (by omega)] | rw [bI_f (by omega)]); try first | rfl | omega), (by unfold mPlank; (repeat first | rw [if_pos (by omega)] | rw [if_neg (by omega)] | rw [bI_t (by omega)] | rw [bI_f (by omega)]); try rfl)⟩)
            · exact ax_ro_i
        · exact absurd c4 (by omega)
      · replace c3 := bI_e0 c3
        refine aj_run (C := True) (pc' := 37) (la' := [some (.inr (.inr (some (50, 0)))), some (.inl w), some (.inl v), none, none]) (st' := [.inl (-2)]) (M' := (P, g, r0, n)) ok_X11_plank true 1 rfl trivial ?_
        refine aj_ret (r := some (.inl (-2))) (ax_dec2 (i := .ireturn) (n := 1) ok_X11_plank rfl) ⟨?_, ?_, by decide, by decide⟩ rfl
        · (first | (exfalso; omega) | exact ⟨ax_si (by unfold mPlank; (repeat first | rw [if_pos (by omega)] | rw [if_neg (by omega)] | rw [bI_t (by omega)] | rw [bI_f (by omega)]); rw [if_pos (fun b h1 h3 => i3 b h1 (by omega))]), (by unfold mPlank; (repeat first | rw [if_pos (by omega)] | rw [if_neg (by omega)] | rw [bI_t (by omega)] | rw [bI_f (by omega)]); rw [if_pos (fun b h1 h3 => i3 b h1 (by omega))])⟩ | exact ⟨ax_si (by unfold mPlank; (repeat first | rw [if_pos (by omega)] | rw [if_neg (by omega)] | rw [bI_t (by omega)] | rw [bI_f (by omega)]); rw [if_neg (fun q => by have := q a i1 (by omega); omega)]), (by unfold mPlank; (repeat first | rw [if_pos (by omega)] | rw [if_neg (by omega)] | rw [bI_t (by omega)] | rw [bI_f (by omega)]); rw [if_neg (fun q => by have := q a i1 (by omega); omega)])⟩ | exact ⟨ax_si (by unfold mPlank; (repeat first | rw [if_pos (by omega)] | rw [if_neg (by omega)] | rw [bI_t (by omega)] | rw [bI_f (by omega)]); try first | rfl | omega), (by unfold mPlank; (repeat first | rw [if_pos (by omega)] | rw [if_neg (by omega)] | rw [bI_t (by omega)] | rw [bI_f (by omega)]); try rfl)⟩)
        · exact ax_ro_i
    · refine aj_run (C := True) (pc' := 17) (la' := [some (.inr (.inr (some (50, 0)))), some (.inl w), some (.inl v), none, none]) (st' := [.inl 40, .inl 2, .inl v]) (M' := (P, g, r0, n)) ok_X11_plank true 3 rfl trivial ?_
      refine aj_callS (av := [.inl v, .inl 2, .inl 40]) (st := []) cal_X11_isIn lk_11_7 stc_X11_isIn (sp_isIn v 2 40 _ _ _ _) ⟨by decide, by decide, by decide, by decide⟩ (Nat.le_of_ble_eq_true rfl) (ax_dec2 (i := .invokestatic 7) (n := 3) ok_X11_plank rfl) (fun r M' hq => ?_)
      obtain ⟨rfl, rfl⟩ := hq
      change ax_J _ _ _ _ _ _ _ _ _ 20 [some (.inr (.inr (some (50, 0)))), some (.inl w), some (.inl v), none, none] [.inl (bI (2 ≤ v ∧ v ≤ 40))] (P, g, r0, n)
      refine aj_if_ne (tgt := 38) (ax_dec2 (i := .ifCond .ne 18) (n := 3) ok_X11_plank rfl) (by decide) (fun c8 => ?_) (fun c8 => ?_)
      · replace c8 := bI_n0 c8
        refine aj_run (C := True) (pc' := 39) (la' := [some (.inr (.inr (some (50, 0)))), some (.inl w), some (.inl v), none, none]) (st' := [.inl w]) (M' := (P, g, r0, n)) ok_X11_plank true 1 rfl trivial ?_
        refine aj_if_ne (tgt := 49) (ax_dec2 (i := .ifCond .ne 10) (n := 3) ok_X11_plank rfl) (by decide) (fun c9 => ?_) (fun c9 => ?_)
        · exact absurd c9 (by omega)
        · refine aj_run (C := True) (pc' := 56) (la' := [some (.inr (.inr (some (50, 0)))), some (.inl w), some (.inl v), some (.inl (g 50 0 0)), none]) (st' := [.inl 1, .inl w]) (M' := (P, g, r0, n)) ok_X11_plank true 6 rfl trivial ?_
          refine aj_icmp_ne (tgt := 66) (ax_dec2 (i := .if_icmp .ne 10) (n := 3) ok_X11_plank rfl) (by decide) (fun c10 => ?_) (fun c10 => ?_)
          · refine aj_run (C := True) (pc' := 69) (la' := [some (.inr (.inr (some (50, 0)))), some (.inl w), some (.inl v), some (.inl (g 50 0 0)), some (.inl 0)]) (st' := []) (M' := (P, g, r0, n)) ok_X11_plank true 2 rfl trivial ?_
            refine aj_loop (σ := (Int)) (fun x => 0 ≤ x ∧ x ≤ g 50 0 2 ∧ ∀ b, 0 ≤ b → b < x → g 104 0 b ≤ v - 1) (fun x => (g 50 0 2 - x).toNat) (fun x => [some (.inr (.inr (some (50, 0)))), some (.inl w), some (.inl v), some (.inl (g 50 0 0)), some (.inl x)]) (fun x => []) (fun x => (P, g, r0, n)) ?_ (0) ?_
            rotate_left
            · exact ⟨by omega, by omega, fun b h1 h3 => by omega⟩
            rintro a hI ih69
            dsimp only at hI ih69
            obtain ⟨i1, i2, i3⟩ := hI
            change ax_J _ _ _ _ _ _ _ _ _ 69 [some (.inr (.inr (some (50, 0)))), some (.inl w), some (.inl v), some (.inl (g 50 0 0)), some (.inl a)] [] (P, g, r0, n)
            refine aj_run (C := True) (pc' := 75) (la' := [some (.inr (.inr (some (50, 0)))), some (.inl w), some (.inl v), some (.inl (g 50 0 0)), some (.inl a)]) (st' := [.inl (g 50 0 2), .inl a]) (M' := (P, g, r0, n)) ok_X11_plank true 3 rfl trivial ?_
            refine aj_icmp_ge (tgt := 100) (ax_dec2 (i := .if_icmp .ge 25) (n := 3) ok_X11_plank rfl) (by decide) (fun c11 => ?_) (fun c11 => ?_)
            · refine aj_run (C := True) (pc' := 106) (la' := [some (.inr (.inr (some (50, 0)))), some (.inl w), some (.inl v), some (.inl (g 50 0 0)), some (.inl a)]) (st' := [.inl (g 50 0 0)]) (M' := (P, ax_u3 g 50 0 0 v, r0, n)) ok_X11_plank true 4 rfl trivial ?_
              refine aj_ret (r := some (.inl (g 50 0 0))) (ax_dec2 (i := .ireturn) (n := 1) ok_X11_plank rfl) ⟨?_, ?_, by decide, by decide⟩ rfl
              · (first | (exfalso; omega) | exact ⟨ax_si (by unfold mPlank; (repeat first | rw [if_pos (by omega)] | rw [if_neg (by omega)] | rw [bI_t (by omega)] | rw [bI_f (by omega)]); rw [if_pos (fun b h1 h3 => i3 b h1 (by omega))]), (by unfold mPlank; (repeat first | rw [if_pos (by omega)] | rw [if_neg (by omega)] | rw [bI_t (by omega)] | rw [bI_f (by omega)]); rw [if_pos (fun b h1 h3 => i3 b h1 (by omega))])⟩ | exact ⟨ax_si (by unfold mPlank; (repeat first | rw [if_pos (by omega)] | rw [if_neg (by omega)] | rw [bI_t (by omega)] | rw [bI_f (by omega)]); rw [if_neg (fun q => by have := q a i1 (by omega); omega)]), (by unfold mPlank; (repeat first | rw [if_pos (by omega)] | rw [if_neg (by omega)] | rw [bI_t (by omega)] | rw [bI_f (by omega)]); rw [if_neg (fun q => by have := q a i1 (by omega); omega)])⟩ | exact ⟨ax_si (by unfold mPlank; (repeat first | rw [if_pos (by omega)] | rw [if_neg (by omega)] | rw [bI_t (by omega)] | rw [bI_f (by omega)]); try first | rfl | omega), (by unfold mPlank; (repeat first | rw [if_pos (by omega)] | rw [if_neg (by omega)] | rw [bI_t (by omega)] | rw [bI_f (by omega)]); try rfl)⟩)
              · exact ax_ro_i
            · refine aj_run (C := (0 ≤ a ∧ a < n 104 0) ∧ (-2147483648 ≤ v - 1 ∧ v - 1 ≤ 2147483647) ∧ True) (pc' := 88) (la' := [some (.inr (.inr (some (50, 0)))), some (.inl w), some (.inl v), some (.inl (g 50 0 0)), some (.inl a)]) (st' := [.inl (v - 1), .inl (g 104 0 a)]) (M' := (P, g, r0, n)) ok_X11_plank true 7 rfl (by refine ⟨?_, ?_, trivial⟩ <;> ((first | omega | (have := i3; omega)))) ?_
              refine aj_icmp_le (tgt := 94) (ax_dec2 (i := .if_icmp .le 6) (n := 3) ok_X11_plank rfl) (by decide) (fun c12 => ?_) (fun c12 => ?_)
              · refine aj_run (C := (-2147483648 ≤ a + 1 ∧ a + 1 ≤ 2147483647) ∧ True) (pc' := 69) (la' := [some (.inr (.inr (some (50, 0)))), some (.inl w), some (.inl v), some (.inl (g 50 0 0)), some (.inl (a + 1))]) (st' := []) (M' := (P, g, r0, n)) ok_X11_plank true 2 rfl (by refine ⟨?_, trivial⟩ <;> ((first | omega | (have := i3; omega)))) ?_
                refine ih69 (a + 1) ?_ ?_
                · exact ⟨by omega, by omega, fun b h1 h3 => by rcases (show b < a ∨ b = a by omega) with h | rfl; exact i3 b h1 h; omega⟩
                · omega
              · refine aj_run (C := True) (pc' := 93) (la' := [some (.inr (.inr (some (50, 0)))), some (.inl w), some (.inl v), some (.inl (g 50 0 0)), some (.inl a)]) (st' := [.inl (-3)]) (M' := (P, g, r0, n)) ok_X11_plank true 1 rfl trivial ?_
                refine aj_ret (r := some (.inl (-3))) (ax_dec2 (i := .ireturn) (n := 1) ok_X11_plank rfl) ⟨?_, ?_, by decide, by decide⟩ rfl
                · (first | (exfalso; omega) | exact ⟨ax_si (by unfold mPlank; (repeat first | rw [if_pos (by omega)] | rw [if_neg (by omega)] | rw [bI_t (by omega)] | rw [bI_f (by omega)]); rw [if_pos (fun b h1 h3 => i3 b h1 (by omega))]), (by unfold mPlank; (repeat first | rw [if_pos (by omega)] | rw [if_neg (by omega)] | rw [bI_t (by omega)] | rw [bI_f (by omega)]); rw [if_pos (fun b h1 h3 => i3 b h1 (by omega))])⟩ | exact ⟨ax_si (by unfold mPlank; (repeat first | rw [if_pos (by omega)] | rw [if_neg (by omega)] | rw [bI_t (by omega)] | rw [bI_f (by omega)]); rw [if_neg (fun q => by have := q a i1 (by omega); omega)]), (by unfold mPlank; (repeat first | rw [if_pos (by omega)] | rw [if_neg (by omega)] | rw [bI_t (by omega)] | rw [bI_f (by omega)]); rw [if_neg (fun q => by have := q a i1 (by omega); omega)])⟩ | exact ⟨ax_si (by unfold mPlank; (repeat first | rw [if_pos (by omega)] | rw [if_neg (by omega)] | rw [bI_t (by omega)] | rw [bI_f (by omega)]); try first | rfl | omega), (by unfold mPlank; (repeat first | rw [if_pos (by omega)] | rw [if_neg (by omega)] | rw [bI_t (by omega)] | rw [bI_f (by omega)]); try rfl)⟩)
                · exact ax_ro_i
          · exact absurd c10 (by omega)
      · replace c8 := bI_e0 c8
        refine aj_run (C := True) (pc' := 37) (la' := [some (.inr (.inr (some (50, 0)))), some (.inl w), some (.inl v), none, none]) (st' := [.inl (-2)]) (M' := (P, g, r0, n)) ok_X11_plank true 2 rfl trivial ?_
        refine aj_ret (r := some (.inl (-2))) (ax_dec2 (i := .ireturn) (n := 1) ok_X11_plank rfl) ⟨?_, ?_, by decide, by decide⟩ rfl
        · (first | (exfalso; omega) | exact ⟨ax_si (by unfold mPlank; (repeat first | rw [if_pos (by omega)] | rw [if_neg (by omega)] | rw [bI_t (by omega)] | rw [bI_f (by omega)]); rw [if_pos (fun b h1 h3 => i3 b h1 (by omega))]), (by unfold mPlank; (repeat first | rw [if_pos (by omega)] | rw [if_neg (by omega)] | rw [bI_t (by omega)] | rw [bI_f (by omega)]); rw [if_pos (fun b h1 h3 => i3 b h1 (by omega))])⟩ | exact ⟨ax_si (by unfold mPlank; (repeat first | rw [if_pos (by omega)] | rw [if_neg (by omega)] | rw [bI_t (by omega)] | rw [bI_f (by omega)]); rw [if_neg (fun q => by have := q a i1 (by omega); omega)]), (by unfold mPlank; (repeat first | rw [if_pos (by omega)] | rw [if_neg (by omega)] | rw [bI_t (by omega)] | rw [bI_f (by omega)]); rw [if_neg (fun q => by have := q a i1 (by omega); omega)])⟩ | exact ⟨ax_si (by unfold mPlank; (repeat first | rw [if_pos (by omega)] | rw [if_neg (by omega)] | rw [bI_t (by omega)] | rw [bI_f (by omega)]); try first | rfl | omega), (by unfold mPlank; (repeat first | rw [if_pos (by omega)] | rw [if_neg (by omega)] | rw [bI_t (by omega)] | rw [bI_f (by omega)]); try rfl)⟩)
        · exact ax_ro_i

set_option maxRecDepth 100000 in
set_option maxHeartbeats 4000000 in
theorem sp_ant (k w s : Int) (P : Nat → Int → Prop) (g : Nat → Int → Int → Int) (r0 : Nat → Int → Int → Option (Nat × Int)) (n : Nat → Int → Int) (hn : mLen n) (h2 : 0 ≤ g 50 0 2 ∧ g 50 0 2 ≤ 7) (hk : 2 ≤ g 50 0 0 ∧ g 50 0 0 ≤ 40) : ax_S yX11_ant cX11_ant 4 (some FieldType.int) 1 0 0 [.inr (.inr (some (50, 0))), .inl k, .inl w, .inl s] (P, g, r0, n) (fun r M' => r = some (.inl (mAnt g k w s).1) ∧ M' = (P, (mAnt g k w s).2, r0, n)) := by
  have n103 : n 103 0 = 7 := hn (103, 7) (by decide)
  have n104 : n 104 0 = 7 := hn (104, 7) (by decide)
  have n105 : n 105 0 = 7 := hn (105, 7) (by decide)
  have n106 : n 106 0 = 7 := hn (106, 7) (by decide)
  have n107 : n 107 0 = 7 := hn (107, 7) (by decide)
  refine ax_S_of (own := 11) (by decide) rfl (fun h => absurd h (by decide)) rfl (Nat.le_of_ble_eq_true rfl) ?_
  change ax_J _ _ _ _ _ _ _ _ _ _ [some (.inr (.inr (some (50, 0)))), some (.inl k), some (.inl w), some (.inl s)] _ _
  refine aj_run (C := True) (pc' := 3) (la' := [some (.inr (.inr (some (50, 0)))), some (.inl k), some (.inl w), some (.inl s)]) (st' := [.inl 5, .inl 0, .inl k]) (M' := (P, g, r0, n)) ok_X11_ant true 3 rfl trivial ?_
  refine aj_callS (av := [.inl k, .inl 0, .inl 5]) (st := []) cal_X11_isIn lk_11_7 stc_X11_isIn (sp_isIn k 0 5 _ _ _ _) ⟨by decide, by decide, by decide, by decide⟩ (Nat.le_of_ble_eq_true rfl) (ax_dec2 (i := .invokestatic 7) (n := 3) ok_X11_ant rfl) (fun r M' hq => ?_)
  obtain ⟨rfl, rfl⟩ := hq
  change ax_J _ _ _ _ _ _ _ _ _ 6 [some (.inr (.inr (some (50, 0)))), some (.inl k), some (.inl w), some (.inl s)] [.inl (bI (0 ≤ k ∧ k ≤ 5))] (P, g, r0, n)
  refine aj_if_eq (tgt := 51) (ax_dec2 (i := .ifCond .eq 45) (n := 3) ok_X11_ant rfl) (by decide) (fun c1 => ?_) (fun c1 => ?_)
  · replace c1 := bI_e0 c1
    refine aj_run (C := True) (pc' := 53) (la' := [some (.inr (.inr (some (50, 0)))), some (.inl k), some (.inl w), some (.inl s)]) (st' := [.inl (-2)]) (M' := (P, g, r0, n)) ok_X11_ant true 1 rfl trivial ?_
    refine aj_ret (r := some (.inl (-2))) (ax_dec2 (i := .ireturn) (n := 1) ok_X11_ant rfl) ⟨?_, ?_, by decide, by decide⟩ rfl
    · (first | (exfalso; omega) | exact ⟨ax_si (by unfold mAnt; (repeat first | rw [if_pos (by omega)] | rw [if_neg (by omega)] | rw [bI_t (by omega)] | rw [bI_f (by omega)]); try first | rfl | omega), (by unfold mAnt; (repeat first | rw [if_pos (by omega)] | rw [if_neg (by omega)] | rw [bI_t (by omega)] | rw [bI_f (by omega)]); try rfl)⟩)
    · exact ax_ro_i
  · replace c1 := bI_n0 c1
    refine aj_run (C := True) (pc' := 10) (la' := [some (.inr (.inr (some (50, 0)))), some (.inl k), some (.inl w), some (.inl s)]) (st' := [.inl w]) (M' := (P, g, r0, n)) ok_X11_ant true 1 rfl trivial ?_
    refine aj_if_lt (tgt := 51) (ax_dec2 (i := .ifCond .lt 41) (n := 3) ok_X11_ant rfl) (by decide) (fun c2 => ?_) (fun c2 => ?_)
    · refine aj_run (C := True) (pc' := 53) (la' := [some (.inr (.inr (some (50, 0)))), some (.inl k), some (.inl w), some (.inl s)]) (st' := [.inl (-2)]) (M' := (P, g, r0, n)) ok_X11_ant true 1 rfl trivial ?_
      refine aj_ret (r := some (.inl (-2))) (ax_dec2 (i := .ireturn) (n := 1) ok_X11_ant rfl) ⟨?_, ?_, by decide, by decide⟩ rfl
      · (first | (exfalso; omega) | exact ⟨ax_si (by unfold mAnt; (repeat first | rw [if_pos (by omega)] | rw [if_neg (by omega)] | rw [bI_t (by omega)] | rw [bI_f (by omega)]); try first | rfl | omega), (by unfold mAnt; (repeat first | rw [if_pos (by omega)] | rw [if_neg (by omega)] | rw [bI_t (by omega)] | rw [bI_f (by omega)]); try rfl)⟩)
      · exact ax_ro_i
    · refine aj_run (C := (0 < 100) ∧ (-2147483648 ≤ (g 50 0 0) - 1 ∧ (g 50 0 0) - 1 ≤ 2147483647) ∧ True) (pc' := 24) (la' := [some (.inr (.inr (some (50, 0)))), some (.inl k), some (.inl w), some (.inl s)]) (st' := [.inl ((g 50 0 0) - 1), .inl 1, .inl (Int.tdiv w 100)]) (M' := (P, g, r0, n)) ok_X11_ant true 8 rfl (by refine ⟨?_, ?_, trivial⟩ <;> ((omega))) ?_
      refine aj_callS (av := [.inl (Int.tdiv w 100), .inl 1, .inl ((g 50 0 0) - 1)]) (st := []) cal_X11_isIn lk_11_7 stc_X11_isIn (sp_isIn (Int.tdiv w 100) 1 ((g 50 0 0) - 1) _ _ _ _) ⟨by decide, by decide, by decide, by decide⟩ (Nat.le_of_ble_eq_true rfl) (ax_dec2 (i := .invokestatic 7) (n := 3) ok_X11_ant rfl) (fun r M' hq => ?_)
      obtain ⟨rfl, rfl⟩ := hq
      change ax_J _ _ _ _ _ _ _ _ _ 27 [some (.inr (.inr (some (50, 0)))), some (.inl k), some (.inl w), some (.inl s)] [.inl (bI (1 ≤ (Int.tdiv w 100) ∧ (Int.tdiv w 100) ≤ ((g 50 0 0) - 1)))] (P, g, r0, n)
      refine aj_if_eq (tgt := 51) (ax_dec2 (i := .ifCond .eq 24) (n := 3) ok_X11_ant rfl) (by decide) (fun c3 => ?_) (fun c3 => ?_)
      · replace c3 := bI_e0 c3
        refine aj_run (C := True) (pc' := 53) (la' := [some (.inr (.inr (some (50, 0)))), some (.inl k), some (.inl w), some (.inl s)]) (st' := [.inl (-2)]) (M' := (P, g, r0, n)) ok_X11_ant true 1 rfl trivial ?_
        refine aj_ret (r := some (.inl (-2))) (ax_dec2 (i := .ireturn) (n := 1) ok_X11_ant rfl) ⟨?_, ?_, by decide, by decide⟩ rfl
        · (first | (exfalso; omega) | exact ⟨ax_si (by unfold mAnt; (repeat first | rw [if_pos (by omega)] | rw [if_neg (by omega)] | rw [bI_t (by omega)] | rw [bI_f (by omega)]); try first | rfl | omega), (by unfold mAnt; (repeat first | rw [if_pos (by omega)] | rw [if_neg (by omega)] | rw [bI_t (by omega)] | rw [bI_f (by omega)]); try rfl)⟩)
        · exact ax_ro_i
      · replace c3 := bI_n0 c3
        refine aj_run (C := (0 < 10) ∧ (0 < 10) ∧ True) (pc' := 38) (la' := [some (.inr (.inr (some (50, 0)))), some (.inl k), some (.inl w), some (.inl s)]) (st' := [.inl 1, .inl (Int.tmod (Int.tdiv w 10) 10)]) (M' := (P, g, r0, n)) ok_X11_ant true 6 rfl (by refine ⟨?_, ?_, trivial⟩ <;> ((omega))) ?_
        refine aj_icmp_gt (tgt := 51) (ax_dec2 (i := .if_icmp .gt 13) (n := 3) ok_X11_ant rfl) (by decide) (fun c4 => ?_) (fun c4 => ?_)
        · refine aj_run (C := True) (pc' := 53) (la' := [some (.inr (.inr (some (50, 0)))), some (.inl k), some (.inl w), some (.inl s)]) (st' := [.inl (-2)]) (M' := (P, g, r0, n)) ok_X11_ant true 1 rfl trivial ?_
          refine aj_ret (r := some (.inl (-2))) (ax_dec2 (i := .ireturn) (n := 1) ok_X11_ant rfl) ⟨?_, ?_, by decide, by decide⟩ rfl
          · (first | (exfalso; omega) | exact ⟨ax_si (by unfold mAnt; (repeat first | rw [if_pos (by omega)] | rw [if_neg (by omega)] | rw [bI_t (by omega)] | rw [bI_f (by omega)]); try first | rfl | omega), (by unfold mAnt; (repeat first | rw [if_pos (by omega)] | rw [if_neg (by omega)] | rw [bI_t (by omega)] | rw [bI_f (by omega)]); try rfl)⟩)
          · exact ax_ro_i
        · refine aj_run (C := True) (pc' := 45) (la' := [some (.inr (.inr (some (50, 0)))), some (.inl k), some (.inl w), some (.inl s)]) (st' := [.inl 20, .inl 0, .inl s]) (M' := (P, g, r0, n)) ok_X11_ant true 3 rfl trivial ?_
          refine aj_callS (av := [.inl s, .inl 0, .inl 20]) (st := []) cal_X11_isIn lk_11_7 stc_X11_isIn (sp_isIn s 0 20 _ _ _ _) ⟨by decide, by decide, by decide, by decide⟩ (Nat.le_of_ble_eq_true rfl) (ax_dec2 (i := .invokestatic 7) (n := 3) ok_X11_ant rfl) (fun r M' hq => ?_)
          obtain ⟨rfl, rfl⟩ := hq
          change ax_J _ _ _ _ _ _ _ _ _ 48 [some (.inr (.inr (some (50, 0)))), some (.inl k), some (.inl w), some (.inl s)] [.inl (bI (0 ≤ s ∧ s ≤ 20))] (P, g, r0, n)
          refine aj_if_ne (tgt := 54) (ax_dec2 (i := .ifCond .ne 6) (n := 3) ok_X11_ant rfl) (by decide) (fun c5 => ?_) (fun c5 => ?_)
          · replace c5 := bI_n0 c5
            refine aj_run (C := True) (pc' := 60) (la' := [some (.inr (.inr (some (50, 0)))), some (.inl k), some (.inl w), some (.inl s)]) (st' := [.inl 7, .inl (g 50 0 2)]) (M' := (P, g, r0, n)) ok_X11_ant true 3 rfl trivial ?_
            refine aj_icmp_ne (tgt := 66) (ax_dec2 (i := .if_icmp .ne 6) (n := 3) ok_X11_ant rfl) (by decide) (fun c6 => ?_) (fun c6 => ?_)
            · refine aj_run (C := (0 ≤ g 50 0 2 ∧ g 50 0 2 < n 103 0) ∧ (0 < 100) ∧ (0 ≤ g 50 0 2 ∧ g 50 0 2 < n 104 0) ∧ (0 < 10) ∧ (0 < 10) ∧ (0 ≤ g 50 0 2 ∧ g 50 0 2 < n 105 0) ∧ (0 ≤ g 50 0 2 ∧ g 50 0 2 < n 106 0) ∧ (0 < 10) ∧ (0 ≤ g 50 0 2 ∧ g 50 0 2 < n 107 0) ∧ (-2147483648 ≤ (g 50 0 2) + 1 ∧ (g 50 0 2) + 1 ≤ 2147483647) ∧ (-2147483648 ≤ ((g 50 0 2) + 1) - 1 ∧ ((g 50 0 2) + 1) - 1 ≤ 2147483647) ∧ True) (pc' := 144) (la' := [some (.inr (.inr (some (50, 0)))), some (.inl k), some (.inl w), some (.inl s)]) (st' := [.inl (((g 50 0 2) + 1) - 1)]) (M' := (P, ax_u3 (ax_u3 (ax_u3 (ax_u3 (ax_u3 (ax_u3 g 103 0 (g 50 0 2) k) 104 0 (g 50 0 2) (Int.tdiv w 100)) 105 0 (g 50 0 2) (Int.tmod (Int.tdiv w 10) 10)) 106 0 (g 50 0 2) s) 107 0 (g 50 0 2) (Int.tmod w 10)) 50 0 2 ((g 50 0 2) + 1), r0, n)) ok_X11_ant true 48 rfl (by refine ⟨?_, ?_, ?_, ?_, ?_, ?_, ?_, ?_, ?_, ?_, ?_, trivial⟩ <;> ((omega))) ?_
              refine aj_ret (r := some (.inl (((g 50 0 2) + 1) - 1))) (ax_dec2 (i := .ireturn) (n := 1) ok_X11_ant rfl) ⟨?_, ?_, by decide, by decide⟩ rfl
              · (first | (exfalso; omega) | exact ⟨ax_si (by unfold mAnt; (repeat first | rw [if_pos (by omega)] | rw [if_neg (by omega)] | rw [bI_t (by omega)] | rw [bI_f (by omega)]); try first | rfl | omega), (by unfold mAnt; (repeat first | rw [if_pos (by omega)] | rw [if_neg (by omega)] | rw [bI_t (by omega)] | rw [bI_f (by omega)]); try rfl)⟩)
              · exact ax_ro_i
            · refine aj_run (C := True) (pc' := 65) (la' := [some (.inr (.inr (some (50, 0)))), some (.inl k), some (.inl w), some (.inl s)]) (st' := [.inl (-4)]) (M' := (P, g, r0, n)) ok_X11_ant true 1 rfl trivial ?_
              refine aj_ret (r := some (.inl (-4))) (ax_dec2 (i := .ireturn) (n := 1) ok_X11_ant rfl) ⟨?_, ?_, by decide, by decide⟩ rfl
              · (first | (exfalso; omega) | exact ⟨ax_si (by unfold mAnt; (repeat first | rw [if_pos (by omega)] | rw [if_neg (by omega)] | rw [bI_t (by omega)] | rw [bI_f (by omega)]); try first | rfl | omega), (by unfold mAnt; (repeat first | rw [if_pos (by omega)] | rw [if_neg (by omega)] | rw [bI_t (by omega)] | rw [bI_f (by omega)]); try rfl)⟩)
              · exact ax_ro_i
          · replace c5 := bI_e0 c5
            refine aj_run (C := True) (pc' := 53) (la' := [some (.inr (.inr (some (50, 0)))), some (.inl k), some (.inl w), some (.inl s)]) (st' := [.inl (-2)]) (M' := (P, g, r0, n)) ok_X11_ant true 1 rfl trivial ?_
            refine aj_ret (r := some (.inl (-2))) (ax_dec2 (i := .ireturn) (n := 1) ok_X11_ant rfl) ⟨?_, ?_, by decide, by decide⟩ rfl
            · (first | (exfalso; omega) | exact ⟨ax_si (by unfold mAnt; (repeat first | rw [if_pos (by omega)] | rw [if_neg (by omega)] | rw [bI_t (by omega)] | rw [bI_f (by omega)]); try first | rfl | omega), (by unfold mAnt; (repeat first | rw [if_pos (by omega)] | rw [if_neg (by omega)] | rw [bI_t (by omega)] | rw [bI_f (by omega)]); try rfl)⟩)
            · exact ax_ro_i

set_option maxRecDepth 100000 in
set_option maxHeartbeats 4000000 in
theorem sp_set (a w v : Int) (P : Nat → Int → Prop) (g : Nat → Int → Int → Int) (r0 : Nat → Int → Int → Option (Nat × Int)) (n : Nat → Int → Int) (hn : mLen n) (h2 : 0 ≤ g 50 0 2 ∧ g 50 0 2 ≤ 7) (hk : 2 ≤ g 50 0 0 ∧ g 50 0 0 ≤ 40) (hN : ∀ a, 0 ≤ a → a < g 50 0 2 → 0 ≤ g 107 0 a ∧ g 107 0 a ≤ 9) : ax_S yX11_set cX11_set 7 (some FieldType.int) 3 0 0 [.inr (.inr (some (50, 0))), .inl a, .inl w, .inl v] (P, g, r0, n) (fun r M' => r = some (.inl (mSet g a w v).1) ∧ M' = (P, (mSet g a w v).2, r0, n)) := by
  have n104 : n 104 0 = 7 := hn (104, 7) (by decide)
  have n105 : n 105 0 = 7 := hn (105, 7) (by decide)
  have n106 : n 106 0 = 7 := hn (106, 7) (by decide)
  have n107 : n 107 0 = 7 := hn (107, 7) (by decide)
  refine ax_S_of (own := 11) (by decide) rfl (fun h => absurd h (by decide)) rfl (Nat.le_of_ble_eq_true rfl) ?_
  change ax_J _ _ _ _ _ _ _ _ _ _ [some (.inr (.inr (some (50, 0)))), some (.inl a), some (.inl w), some (.inl v), none, none, none] _ _
  refine aj_run (C := True) (pc' := 2) (la' := [some (.inr (.inr (some (50, 0)))), some (.inl a), some (.inl w), some (.inl v), none, none, none]) (st' := [.inl a, .inr (.inr (some (50, 0)))]) (M' := (P, g, r0, n)) ok_X11_set true 2 rfl trivial ?_
  refine aj_callV (av := [.inl a]) (st := []) (f := 50) (o := 0) (ci := 11) cal_X11_isAnt lk_11_33 ins_X11_isAnt rfl sel_X11_isAnt rfl (fun c9 h9 _ => by simpa [ax_ok] using h9) (sp_isAnt a _ _ _ _ h2) ⟨by decide, by decide, by decide, by decide⟩ (Nat.le_of_ble_eq_true rfl) (ax_dec2 (i := .invokevirtual 33) (n := 3) ok_X11_set rfl) (fun r M' hq => ?_)
  obtain ⟨rfl, rfl⟩ := hq
  change ax_J _ _ _ _ _ _ _ _ _ 5 [some (.inr (.inr (some (50, 0)))), some (.inl a), some (.inl w), some (.inl v), none, none, none] [.inl (bI (0 ≤ a ∧ a < g 50 0 2))] (P, g, r0, n)
  refine aj_if_eq (tgt := 17) (ax_dec2 (i := .ifCond .eq 12) (n := 3) ok_X11_set rfl) (by decide) (fun c1 => ?_) (fun c1 => ?_)
  · replace c1 := bI_e0 c1
    refine aj_run (C := True) (pc' := 19) (la' := [some (.inr (.inr (some (50, 0)))), some (.inl a), some (.inl w), some (.inl v), none, none, none]) (st' := [.inl (-2)]) (M' := (P, g, r0, n)) ok_X11_set true 1 rfl trivial ?_
    refine aj_ret (r := some (.inl (-2))) (ax_dec2 (i := .ireturn) (n := 1) ok_X11_set rfl) ⟨?_, ?_, by decide, by decide⟩ rfl
    · (first | (exfalso; omega) | exact ⟨ax_si (by unfold mSet mMost; (repeat first | rw [if_pos (by omega)] | rw [if_neg (by omega)] | rw [bI_t (by omega)] | rw [bI_f (by omega)]); try first | rfl | omega), (by unfold mSet mMost; (repeat first | rw [if_pos (by omega)] | rw [if_neg (by omega)] | rw [bI_t (by omega)] | rw [bI_f (by omega)]); try rfl)⟩)
    · exact ax_ro_i
  · replace c1 := bI_n0 c1
    refine aj_run (C := True) (pc' := 11) (la' := [some (.inr (.inr (some (50, 0)))), some (.inl a), some (.inl w), some (.inl v), none, none, none]) (st' := [.inl 3, .inl 0, .inl w]) (M' := (P, g, r0, n)) ok_X11_set true 3 rfl trivial ?_
    refine aj_callS (av := [.inl w, .inl 0, .inl 3]) (st := []) cal_X11_isIn lk_11_7 stc_X11_isIn (sp_isIn w 0 3 _ _ _ _) ⟨by decide, by decide, by decide, by decide⟩ (Nat.le_of_ble_eq_true rfl) (ax_dec2 (i := .invokestatic 7) (n := 3) ok_X11_set rfl) (fun r M' hq => ?_)
    obtain ⟨rfl, rfl⟩ := hq
    change ax_J _ _ _ _ _ _ _ _ _ 14 [some (.inr (.inr (some (50, 0)))), some (.inl a), some (.inl w), some (.inl v), none, none, none] [.inl (bI (0 ≤ w ∧ w ≤ 3))] (P, g, r0, n)
    refine aj_if_ne (tgt := 20) (ax_dec2 (i := .ifCond .ne 6) (n := 3) ok_X11_set rfl) (by decide) (fun c2 => ?_) (fun c2 => ?_)
    · replace c2 := bI_n0 c2
      refine aj_run (C := True) (pc' := 21) (la' := [some (.inr (.inr (some (50, 0)))), some (.inl a), some (.inl w), some (.inl v), none, none, none]) (st' := [.inl w]) (M' := (P, g, r0, n)) ok_X11_set true 1 rfl trivial ?_
      refine aj_if_ne (tgt := 28) (ax_dec2 (i := .ifCond .ne 7) (n := 3) ok_X11_set rfl) (by decide) (fun c3 => ?_) (fun c3 => ?_)
      · refine aj_run (C := True) (pc' := 32) (la' := [some (.inr (.inr (some (50, 0)))), some (.inl a), some (.inl w), some (.inl v), some (.inl 0), none, none]) (st' := [.inl w]) (M' := (P, g, r0, n)) ok_X11_set true 3 rfl trivial ?_
        refine aj_if_ne (tgt := 44) (ax_dec2 (i := .ifCond .ne 12) (n := 3) ok_X11_set rfl) (by decide) (fun c4 => ?_) (fun c4 => ?_)
        · refine aj_run (C := True) (pc' := 46) (la' := [some (.inr (.inr (some (50, 0)))), some (.inl a), some (.inl w), some (.inl v), some (.inl 0), none, none]) (st' := [.inl 1, .inl w]) (M' := (P, g, r0, n)) ok_X11_set true 2 rfl trivial ?_
          refine aj_icmp_ne (tgt := 53) (ax_dec2 (i := .if_icmp .ne 7) (n := 3) ok_X11_set rfl) (by decide) (fun c5 => ?_) (fun c5 => ?_)
          · refine aj_run (C := True) (pc' := 55) (la' := [some (.inr (.inr (some (50, 0)))), some (.inl a), some (.inl w), some (.inl v), some (.inl 0), none, none]) (st' := [.inl 2, .inl w]) (M' := (P, g, r0, n)) ok_X11_set true 2 rfl trivial ?_
            refine aj_icmp_ne (tgt := 63) (ax_dec2 (i := .if_icmp .ne 8) (n := 3) ok_X11_set rfl) (by decide) (fun c6 => ?_) (fun c6 => ?_)
            · refine aj_run (C := True) (pc' := 72) (la' := [some (.inr (.inr (some (50, 0)))), some (.inl a), some (.inl w), some (.inl v), some (.inl 0), some (.inl 9), none]) (st' := [.inl 9, .inl 0, .inl v]) (M' := (P, g, r0, n)) ok_X11_set true 5 rfl trivial ?_
              refine aj_callS (av := [.inl v, .inl 0, .inl 9]) (st := []) cal_X11_isIn lk_11_7 stc_X11_isIn (sp_isIn v 0 9 _ _ _ _) ⟨by decide, by decide, by decide, by decide⟩ (Nat.le_of_ble_eq_true rfl) (ax_dec2 (i := .invokestatic 7) (n := 3) ok_X11_set rfl) (fun r M' hq => ?_)
              obtain ⟨rfl, rfl⟩ := hq
              change ax_J _ _ _ _ _ _ _ _ _ 75 [some (.inr (.inr (some (50, 0)))), some (.inl a), some (.inl w), some (.inl v), some (.inl 0), some (.inl 9), none] [.inl (bI (0 ≤ v ∧ v ≤ 9))] (P, g, r0, n)
              refine aj_if_ne (tgt := 81) (ax_dec2 (i := .ifCond .ne 6) (n := 3) ok_X11_set rfl) (by decide) (fun c7 => ?_) (fun c7 => ?_)
              · replace c7 := bI_n0 c7
                refine aj_run (C := True) (pc' := 84) (la' := [some (.inr (.inr (some (50, 0)))), some (.inl a), some (.inl w), some (.inl v), some (.inl 0), some (.inl 9), none]) (st' := [.inl w, .inl a, .inr (.inr (some (50, 0)))]) (M' := (P, g, r0, n)) ok_X11_set true 3 rfl trivial ?_
                refine aj_callV (av := [.inl a, .inl w]) (st := []) (f := 50) (o := 0) (ci := 11) cal_X11_told lk_11_37 ins_X11_told rfl sel_X11_told rfl (fun c9 h9 _ => by simpa [ax_ok] using h9) (sp_told a w _ _ _ _ hn h2 hN) ⟨by decide, by decide, by decide, by decide⟩ (Nat.le_of_ble_eq_true rfl) (ax_dec2 (i := .invokevirtual 37) (n := 3) ok_X11_set rfl) (fun r M' hq => ?_)
                obtain ⟨rfl, rfl⟩ := hq
                change ax_J _ _ _ _ _ _ _ _ _ 87 [some (.inr (.inr (some (50, 0)))), some (.inl a), some (.inl w), some (.inl v), some (.inl 0), some (.inl 9), none] [.inl (mTold g a w)] (P, g, r0, n)
                refine aj_run (C := True) (pc' := 90) (la' := [some (.inr (.inr (some (50, 0)))), some (.inl a), some (.inl w), some (.inl v), some (.inl 0), some (.inl 9), some (.inl (mTold g a w))]) (st' := [.inl w]) (M' := (P, g, r0, n)) ok_X11_set true 2 rfl trivial ?_
                refine aj_if_ne (tgt := 103) (ax_dec2 (i := .ifCond .ne 13) (n := 3) ok_X11_set rfl) (by decide) (fun c8 => ?_) (fun c8 => ?_)
                · refine aj_run (C := True) (pc' := 105) (la' := [some (.inr (.inr (some (50, 0)))), some (.inl a), some (.inl w), some (.inl v), some (.inl 0), some (.inl 9), some (.inl (mTold g a w))]) (st' := [.inl 1, .inl w]) (M' := (P, g, r0, n)) ok_X11_set true 2 rfl trivial ?_
                  refine aj_icmp_ne (tgt := 118) (ax_dec2 (i := .if_icmp .ne 13) (n := 3) ok_X11_set rfl) (by decide) (fun c9 => ?_) (fun c9 => ?_)
                  · refine aj_run (C := True) (pc' := 120) (la' := [some (.inr (.inr (some (50, 0)))), some (.inl a), some (.inl w), some (.inl v), some (.inl 0), some (.inl 9), some (.inl (mTold g a w))]) (st' := [.inl 2, .inl w]) (M' := (P, g, r0, n)) ok_X11_set true 2 rfl trivial ?_
                    refine aj_icmp_ne (tgt := 133) (ax_dec2 (i := .if_icmp .ne 13) (n := 3) ok_X11_set rfl) (by decide) (fun c10 => ?_) (fun c10 => ?_)
                    · refine aj_run (C := (0 ≤ a ∧ a < n 107 0) ∧ True) (pc' := 142) (la' := [some (.inr (.inr (some (50, 0)))), some (.inl a), some (.inl w), some (.inl v), some (.inl 0), some (.inl 9), some (.inl (mTold g a w))]) (st' := [.inl (mTold g a w)]) (M' := (P, ax_u3 g 107 0 a v, r0, n)) ok_X11_set true 6 rfl (by refine ⟨?_, trivial⟩ <;> ((omega))) ?_
                      refine aj_ret (r := some (.inl (mTold g a w))) (ax_dec2 (i := .ireturn) (n := 1) ok_X11_set rfl) ⟨?_, ?_, by decide, by decide⟩ rfl
                      · (first | (exfalso; omega) | exact ⟨ax_si (by unfold mSet mMost; (repeat first | rw [if_pos (by omega)] | rw [if_neg (by omega)] | rw [bI_t (by omega)] | rw [bI_f (by omega)]); try first | rfl | omega), (by unfold mSet mMost; (repeat first | rw [if_pos (by omega)] | rw [if_neg (by omega)] | rw [bI_t (by omega)] | rw [bI_f (by omega)]); try rfl)⟩)
                      · exact ax_ro_i
                    · exact absurd c10 (by omega)
                  · exact absurd c9 (by omega)
                · exact absurd c8 (by omega)
              · replace c7 := bI_e0 c7
                refine aj_run (C := True) (pc' := 80) (la' := [some (.inr (.inr (some (50, 0)))), some (.inl a), some (.inl w), some (.inl v), some (.inl 0), some (.inl 9), none]) (st' := [.inl (-2)]) (M' := (P, g, r0, n)) ok_X11_set true 1 rfl trivial ?_
                refine aj_ret (r := some (.inl (-2))) (ax_dec2 (i := .ireturn) (n := 1) ok_X11_set rfl) ⟨?_, ?_, by decide, by decide⟩ rfl
                · (first | (exfalso; omega) | exact ⟨ax_si (by unfold mSet mMost; (repeat first | rw [if_pos (by omega)] | rw [if_neg (by omega)] | rw [bI_t (by omega)] | rw [bI_f (by omega)]); try first | rfl | omega), (by unfold mSet mMost; (repeat first | rw [if_pos (by omega)] | rw [if_neg (by omega)] | rw [bI_t (by omega)] | rw [bI_f (by omega)]); try rfl)⟩)
                · exact ax_ro_i
            · refine aj_run (C := True) (pc' := 72) (la' := [some (.inr (.inr (some (50, 0)))), some (.inl a), some (.inl w), some (.inl v), some (.inl 0), some (.inl 20), none]) (st' := [.inl 20, .inl 0, .inl v]) (M' := (P, g, r0, n)) ok_X11_set true 6 rfl trivial ?_
              refine aj_callS (av := [.inl v, .inl 0, .inl 20]) (st := []) cal_X11_isIn lk_11_7 stc_X11_isIn (sp_isIn v 0 20 _ _ _ _) ⟨by decide, by decide, by decide, by decide⟩ (Nat.le_of_ble_eq_true rfl) (ax_dec2 (i := .invokestatic 7) (n := 3) ok_X11_set rfl) (fun r M' hq => ?_)
              obtain ⟨rfl, rfl⟩ := hq
              change ax_J _ _ _ _ _ _ _ _ _ 75 [some (.inr (.inr (some (50, 0)))), some (.inl a), some (.inl w), some (.inl v), some (.inl 0), some (.inl 20), none] [.inl (bI (0 ≤ v ∧ v ≤ 20))] (P, g, r0, n)
              refine aj_if_ne (tgt := 81) (ax_dec2 (i := .ifCond .ne 6) (n := 3) ok_X11_set rfl) (by decide) (fun c11 => ?_) (fun c11 => ?_)
              · replace c11 := bI_n0 c11
                refine aj_run (C := True) (pc' := 84) (la' := [some (.inr (.inr (some (50, 0)))), some (.inl a), some (.inl w), some (.inl v), some (.inl 0), some (.inl 20), none]) (st' := [.inl w, .inl a, .inr (.inr (some (50, 0)))]) (M' := (P, g, r0, n)) ok_X11_set true 3 rfl trivial ?_
                refine aj_callV (av := [.inl a, .inl w]) (st := []) (f := 50) (o := 0) (ci := 11) cal_X11_told lk_11_37 ins_X11_told rfl sel_X11_told rfl (fun c9 h9 _ => by simpa [ax_ok] using h9) (sp_told a w _ _ _ _ hn h2 hN) ⟨by decide, by decide, by decide, by decide⟩ (Nat.le_of_ble_eq_true rfl) (ax_dec2 (i := .invokevirtual 37) (n := 3) ok_X11_set rfl) (fun r M' hq => ?_)
                obtain ⟨rfl, rfl⟩ := hq
                change ax_J _ _ _ _ _ _ _ _ _ 87 [some (.inr (.inr (some (50, 0)))), some (.inl a), some (.inl w), some (.inl v), some (.inl 0), some (.inl 20), none] [.inl (mTold g a w)] (P, g, r0, n)
                refine aj_run (C := True) (pc' := 90) (la' := [some (.inr (.inr (some (50, 0)))), some (.inl a), some (.inl w), some (.inl v), some (.inl 0), some (.inl 20), some (.inl (mTold g a w))]) (st' := [.inl w]) (M' := (P, g, r0, n)) ok_X11_set true 2 rfl trivial ?_
                refine aj_if_ne (tgt := 103) (ax_dec2 (i := .ifCond .ne 13) (n := 3) ok_X11_set rfl) (by decide) (fun c12 => ?_) (fun c12 => ?_)
                · refine aj_run (C := True) (pc' := 105) (la' := [some (.inr (.inr (some (50, 0)))), some (.inl a), some (.inl w), some (.inl v), some (.inl 0), some (.inl 20), some (.inl (mTold g a w))]) (st' := [.inl 1, .inl w]) (M' := (P, g, r0, n)) ok_X11_set true 2 rfl trivial ?_
                  refine aj_icmp_ne (tgt := 118) (ax_dec2 (i := .if_icmp .ne 13) (n := 3) ok_X11_set rfl) (by decide) (fun c13 => ?_) (fun c13 => ?_)
                  · refine aj_run (C := True) (pc' := 120) (la' := [some (.inr (.inr (some (50, 0)))), some (.inl a), some (.inl w), some (.inl v), some (.inl 0), some (.inl 20), some (.inl (mTold g a w))]) (st' := [.inl 2, .inl w]) (M' := (P, g, r0, n)) ok_X11_set true 2 rfl trivial ?_
                    refine aj_icmp_ne (tgt := 133) (ax_dec2 (i := .if_icmp .ne 13) (n := 3) ok_X11_set rfl) (by decide) (fun c14 => ?_) (fun c14 => ?_)
                    · exact absurd c14 (by omega)
                    · refine aj_run (C := (0 ≤ a ∧ a < n 106 0) ∧ True) (pc' := 142) (la' := [some (.inr (.inr (some (50, 0)))), some (.inl a), some (.inl w), some (.inl v), some (.inl 0), some (.inl 20), some (.inl (mTold g a w))]) (st' := [.inl (mTold g a w)]) (M' := (P, ax_u3 g 106 0 a v, r0, n)) ok_X11_set true 7 rfl (by refine ⟨?_, trivial⟩ <;> ((omega))) ?_
                      refine aj_ret (r := some (.inl (mTold g a w))) (ax_dec2 (i := .ireturn) (n := 1) ok_X11_set rfl) ⟨?_, ?_, by decide, by decide⟩ rfl
                      · (first | (exfalso; omega) | exact ⟨ax_si (by unfold mSet mMost; (repeat first | rw [if_pos (by omega)] | rw [if_neg (by omega)] | rw [bI_t (by omega)] | rw [bI_f (by omega)]); try first | rfl | omega), (by unfold mSet mMost; (repeat first | rw [if_pos (by omega)] | rw [if_neg (by omega)] | rw [bI_t (by omega)] | rw [bI_f (by omega)]); try rfl)⟩)
                      · exact ax_ro_i
                  · exact absurd c13 (by omega)
                · exact absurd c12 (by omega)
              · replace c11 := bI_e0 c11
                refine aj_run (C := True) (pc' := 80) (la' := [some (.inr (.inr (some (50, 0)))), some (.inl a), some (.inl w), some (.inl v), some (.inl 0), some (.inl 20), none]) (st' := [.inl (-2)]) (M' := (P, g, r0, n)) ok_X11_set true 1 rfl trivial ?_
                refine aj_ret (r := some (.inl (-2))) (ax_dec2 (i := .ireturn) (n := 1) ok_X11_set rfl) ⟨?_, ?_, by decide, by decide⟩ rfl
                · (first | (exfalso; omega) | exact ⟨ax_si (by unfold mSet mMost; (repeat first | rw [if_pos (by omega)] | rw [if_neg (by omega)] | rw [bI_t (by omega)] | rw [bI_f (by omega)]); try first | rfl | omega), (by unfold mSet mMost; (repeat first | rw [if_pos (by omega)] | rw [if_neg (by omega)] | rw [bI_t (by omega)] | rw [bI_f (by omega)]); try rfl)⟩)
                · exact ax_ro_i
          · refine aj_run (C := True) (pc' := 72) (la' := [some (.inr (.inr (some (50, 0)))), some (.inl a), some (.inl w), some (.inl v), some (.inl 0), some (.inl 1), none]) (st' := [.inl 1, .inl 0, .inl v]) (M' := (P, g, r0, n)) ok_X11_set true 6 rfl trivial ?_
            refine aj_callS (av := [.inl v, .inl 0, .inl 1]) (st := []) cal_X11_isIn lk_11_7 stc_X11_isIn (sp_isIn v 0 1 _ _ _ _) ⟨by decide, by decide, by decide, by decide⟩ (Nat.le_of_ble_eq_true rfl) (ax_dec2 (i := .invokestatic 7) (n := 3) ok_X11_set rfl) (fun r M' hq => ?_)
            obtain ⟨rfl, rfl⟩ := hq
            change ax_J _ _ _ _ _ _ _ _ _ 75 [some (.inr (.inr (some (50, 0)))), some (.inl a), some (.inl w), some (.inl v), some (.inl 0), some (.inl 1), none] [.inl (bI (0 ≤ v ∧ v ≤ 1))] (P, g, r0, n)
            refine aj_if_ne (tgt := 81) (ax_dec2 (i := .ifCond .ne 6) (n := 3) ok_X11_set rfl) (by decide) (fun c15 => ?_) (fun c15 => ?_)
            · replace c15 := bI_n0 c15
              refine aj_run (C := True) (pc' := 84) (la' := [some (.inr (.inr (some (50, 0)))), some (.inl a), some (.inl w), some (.inl v), some (.inl 0), some (.inl 1), none]) (st' := [.inl w, .inl a, .inr (.inr (some (50, 0)))]) (M' := (P, g, r0, n)) ok_X11_set true 3 rfl trivial ?_
              refine aj_callV (av := [.inl a, .inl w]) (st := []) (f := 50) (o := 0) (ci := 11) cal_X11_told lk_11_37 ins_X11_told rfl sel_X11_told rfl (fun c9 h9 _ => by simpa [ax_ok] using h9) (sp_told a w _ _ _ _ hn h2 hN) ⟨by decide, by decide, by decide, by decide⟩ (Nat.le_of_ble_eq_true rfl) (ax_dec2 (i := .invokevirtual 37) (n := 3) ok_X11_set rfl) (fun r M' hq => ?_)
              obtain ⟨rfl, rfl⟩ := hq
              change ax_J _ _ _ _ _ _ _ _ _ 87 [some (.inr (.inr (some (50, 0)))), some (.inl a), some (.inl w), some (.inl v), some (.inl 0), some (.inl 1), none] [.inl (mTold g a w)] (P, g, r0, n)
              refine aj_run (C := True) (pc' := 90) (la' := [some (.inr (.inr (some (50, 0)))), some (.inl a), some (.inl w), some (.inl v), some (.inl 0), some (.inl 1), some (.inl (mTold g a w))]) (st' := [.inl w]) (M' := (P, g, r0, n)) ok_X11_set true 2 rfl trivial ?_
              refine aj_if_ne (tgt := 103) (ax_dec2 (i := .ifCond .ne 13) (n := 3) ok_X11_set rfl) (by decide) (fun c16 => ?_) (fun c16 => ?_)
              · refine aj_run (C := True) (pc' := 105) (la' := [some (.inr (.inr (some (50, 0)))), some (.inl a), some (.inl w), some (.inl v), some (.inl 0), some (.inl 1), some (.inl (mTold g a w))]) (st' := [.inl 1, .inl w]) (M' := (P, g, r0, n)) ok_X11_set true 2 rfl trivial ?_
                refine aj_icmp_ne (tgt := 118) (ax_dec2 (i := .if_icmp .ne 13) (n := 3) ok_X11_set rfl) (by decide) (fun c17 => ?_) (fun c17 => ?_)
                · exact absurd c17 (by omega)
                · refine aj_run (C := (0 ≤ a ∧ a < n 105 0) ∧ True) (pc' := 142) (la' := [some (.inr (.inr (some (50, 0)))), some (.inl a), some (.inl w), some (.inl v), some (.inl 0), some (.inl 1), some (.inl (mTold g a w))]) (st' := [.inl (mTold g a w)]) (M' := (P, ax_u3 g 105 0 a v, r0, n)) ok_X11_set true 7 rfl (by refine ⟨?_, trivial⟩ <;> ((omega))) ?_
                  refine aj_ret (r := some (.inl (mTold g a w))) (ax_dec2 (i := .ireturn) (n := 1) ok_X11_set rfl) ⟨?_, ?_, by decide, by decide⟩ rfl
                  · (first | (exfalso; omega) | exact ⟨ax_si (by unfold mSet mMost; (repeat first | rw [if_pos (by omega)] | rw [if_neg (by omega)] | rw [bI_t (by omega)] | rw [bI_f (by omega)]); try first | rfl | omega), (by unfold mSet mMost; (repeat first | rw [if_pos (by omega)] | rw [if_neg (by omega)] | rw [bI_t (by omega)] | rw [bI_f (by omega)]); try rfl)⟩)
                  · exact ax_ro_i
              · exact absurd c16 (by omega)
            · replace c15 := bI_e0 c15
              refine aj_run (C := True) (pc' := 80) (la' := [some (.inr (.inr (some (50, 0)))), some (.inl a), some (.inl w), some (.inl v), some (.inl 0), some (.inl 1), none]) (st' := [.inl (-2)]) (M' := (P, g, r0, n)) ok_X11_set true 1 rfl trivial ?_
              refine aj_ret (r := some (.inl (-2))) (ax_dec2 (i := .ireturn) (n := 1) ok_X11_set rfl) ⟨?_, ?_, by decide, by decide⟩ rfl
              · (first | (exfalso; omega) | exact ⟨ax_si (by unfold mSet mMost; (repeat first | rw [if_pos (by omega)] | rw [if_neg (by omega)] | rw [bI_t (by omega)] | rw [bI_f (by omega)]); try first | rfl | omega), (by unfold mSet mMost; (repeat first | rw [if_pos (by omega)] | rw [if_neg (by omega)] | rw [bI_t (by omega)] | rw [bI_f (by omega)]); try rfl)⟩)
              · exact ax_ro_i
        · exact absurd c4 (by omega)
      · refine aj_run (C := True) (pc' := 32) (la' := [some (.inr (.inr (some (50, 0)))), some (.inl a), some (.inl w), some (.inl v), some (.inl 1), none, none]) (st' := [.inl w]) (M' := (P, g, r0, n)) ok_X11_set true 4 rfl trivial ?_
        refine aj_if_ne (tgt := 44) (ax_dec2 (i := .ifCond .ne 12) (n := 3) ok_X11_set rfl) (by decide) (fun c18 => ?_) (fun c18 => ?_)
        · exact absurd c18 (by omega)
        · refine aj_run (C := (-2147483648 ≤ (g 50 0 0) - 1 ∧ (g 50 0 0) - 1 ≤ 2147483647) ∧ True) (pc' := 72) (la' := [some (.inr (.inr (some (50, 0)))), some (.inl a), some (.inl w), some (.inl v), some (.inl 1), some (.inl ((g 50 0 0) - 1)), none]) (st' := [.inl ((g 50 0 0) - 1), .inl 1, .inl v]) (M' := (P, g, r0, n)) ok_X11_set true 9 rfl (by refine ⟨?_, trivial⟩ <;> ((omega))) ?_
          refine aj_callS (av := [.inl v, .inl 1, .inl ((g 50 0 0) - 1)]) (st := []) cal_X11_isIn lk_11_7 stc_X11_isIn (sp_isIn v 1 ((g 50 0 0) - 1) _ _ _ _) ⟨by decide, by decide, by decide, by decide⟩ (Nat.le_of_ble_eq_true rfl) (ax_dec2 (i := .invokestatic 7) (n := 3) ok_X11_set rfl) (fun r M' hq => ?_)
          obtain ⟨rfl, rfl⟩ := hq
          change ax_J _ _ _ _ _ _ _ _ _ 75 [some (.inr (.inr (some (50, 0)))), some (.inl a), some (.inl w), some (.inl v), some (.inl 1), some (.inl ((g 50 0 0) - 1)), none] [.inl (bI (1 ≤ v ∧ v ≤ ((g 50 0 0) - 1)))] (P, g, r0, n)
          refine aj_if_ne (tgt := 81) (ax_dec2 (i := .ifCond .ne 6) (n := 3) ok_X11_set rfl) (by decide) (fun c19 => ?_) (fun c19 => ?_)
          · replace c19 := bI_n0 c19
            refine aj_run (C := True) (pc' := 84) (la' := [some (.inr (.inr (some (50, 0)))), some (.inl a), some (.inl w), some (.inl v), some (.inl 1), some (.inl ((g 50 0 0) - 1)), none]) (st' := [.inl w, .inl a, .inr (.inr (some (50, 0)))]) (M' := (P, g, r0, n)) ok_X11_set true 3 rfl trivial ?_
            refine aj_callV (av := [.inl a, .inl w]) (st := []) (f := 50) (o := 0) (ci := 11) cal_X11_told lk_11_37 ins_X11_told rfl sel_X11_told rfl (fun c9 h9 _ => by simpa [ax_ok] using h9) (sp_told a w _ _ _ _ hn h2 hN) ⟨by decide, by decide, by decide, by decide⟩ (Nat.le_of_ble_eq_true rfl) (ax_dec2 (i := .invokevirtual 37) (n := 3) ok_X11_set rfl) (fun r M' hq => ?_)
            obtain ⟨rfl, rfl⟩ := hq
            change ax_J _ _ _ _ _ _ _ _ _ 87 [some (.inr (.inr (some (50, 0)))), some (.inl a), some (.inl w), some (.inl v), some (.inl 1), some (.inl ((g 50 0 0) - 1)), none] [.inl (mTold g a w)] (P, g, r0, n)
            refine aj_run (C := True) (pc' := 90) (la' := [some (.inr (.inr (some (50, 0)))), some (.inl a), some (.inl w), some (.inl v), some (.inl 1), some (.inl ((g 50 0 0) - 1)), some (.inl (mTold g a w))]) (st' := [.inl w]) (M' := (P, g, r0, n)) ok_X11_set true 2 rfl trivial ?_
            refine aj_if_ne (tgt := 103) (ax_dec2 (i := .ifCond .ne 13) (n := 3) ok_X11_set rfl) (by decide) (fun c20 => ?_) (fun c20 => ?_)
            · exact absurd c20 (by omega)
            · refine aj_run (C := (0 ≤ a ∧ a < n 104 0) ∧ True) (pc' := 142) (la' := [some (.inr (.inr (some (50, 0)))), some (.inl a), some (.inl w), some (.inl v), some (.inl 1), some (.inl ((g 50 0 0) - 1)), some (.inl (mTold g a w))]) (st' := [.inl (mTold g a w)]) (M' := (P, ax_u3 g 104 0 a v, r0, n)) ok_X11_set true 7 rfl (by refine ⟨?_, trivial⟩ <;> ((omega))) ?_
              refine aj_ret (r := some (.inl (mTold g a w))) (ax_dec2 (i := .ireturn) (n := 1) ok_X11_set rfl) ⟨?_, ?_, by decide, by decide⟩ rfl
              · (first | (exfalso; omega) | exact ⟨ax_si (by unfold mSet mMost; (repeat first | rw [if_pos (by omega)] | rw [if_neg (by omega)] | rw [bI_t (by omega)] | rw [bI_f (by omega)]); try first | rfl | omega), (by unfold mSet mMost; (repeat first | rw [if_pos (by omega)] | rw [if_neg (by omega)] | rw [bI_t (by omega)] | rw [bI_f (by omega)]); try rfl)⟩)
              · exact ax_ro_i
          · replace c19 := bI_e0 c19
            refine aj_run (C := True) (pc' := 80) (la' := [some (.inr (.inr (some (50, 0)))), some (.inl a), some (.inl w), some (.inl v), some (.inl 1), some (.inl ((g 50 0 0) - 1)), none]) (st' := [.inl (-2)]) (M' := (P, g, r0, n)) ok_X11_set true 1 rfl trivial ?_
            refine aj_ret (r := some (.inl (-2))) (ax_dec2 (i := .ireturn) (n := 1) ok_X11_set rfl) ⟨?_, ?_, by decide, by decide⟩ rfl
            · (first | (exfalso; omega) | exact ⟨ax_si (by unfold mSet mMost; (repeat first | rw [if_pos (by omega)] | rw [if_neg (by omega)] | rw [bI_t (by omega)] | rw [bI_f (by omega)]); try first | rfl | omega), (by unfold mSet mMost; (repeat first | rw [if_pos (by omega)] | rw [if_neg (by omega)] | rw [bI_t (by omega)] | rw [bI_f (by omega)]); try rfl)⟩)
            · exact ax_ro_i
    · replace c2 := bI_e0 c2
      refine aj_run (C := True) (pc' := 19) (la' := [some (.inr (.inr (some (50, 0)))), some (.inl a), some (.inl w), some (.inl v), none, none, none]) (st' := [.inl (-2)]) (M' := (P, g, r0, n)) ok_X11_set true 1 rfl trivial ?_
      refine aj_ret (r := some (.inl (-2))) (ax_dec2 (i := .ireturn) (n := 1) ok_X11_set rfl) ⟨?_, ?_, by decide, by decide⟩ rfl
      · (first | (exfalso; omega) | exact ⟨ax_si (by unfold mSet mMost; (repeat first | rw [if_pos (by omega)] | rw [if_neg (by omega)] | rw [bI_t (by omega)] | rw [bI_f (by omega)]); try first | rfl | omega), (by unfold mSet mMost; (repeat first | rw [if_pos (by omega)] | rw [if_neg (by omega)] | rw [bI_t (by omega)] | rw [bI_f (by omega)]); try rfl)⟩)
      · exact ax_ro_i

set_option maxRecDepth 100000 in
set_option maxHeartbeats 4000000 in
theorem sp_cell (s i v : Int) (P : Nat → Int → Prop) (g : Nat → Int → Int → Int) (r0 : Nat → Int → Int → Option (Nat × Int)) (n : Nat → Int → Int) (hn : mLen n) (hz : ∀ s, 0 ≤ s → s ≤ 3 → 0 ≤ g 156 0 s ∧ g 156 0 s ≤ 40) : ax_S yX11_cell cX11_cell 4 (some FieldType.int) 2 0 0 [.inr (.inr (some (50, 0))), .inl s, .inl i, .inl v] (P, g, r0, n) (fun r M' => r = some (.inl (mCell g s i v).1) ∧ M' = (P, (mCell g s i v).2, r0, n)) := by
  have n155 : n 155 0 = 4 := hn (155, 4) (by decide)
  have n156 : n 156 0 = 4 := hn (156, 4) (by decide)
  have n157 : n 157 0 = 160 := hn (157, 160) (by decide)
  refine ax_S_of (own := 11) (by decide) rfl (fun h => absurd h (by decide)) rfl (Nat.le_of_ble_eq_true rfl) ?_
  change ax_J _ _ _ _ _ _ _ _ _ _ [some (.inr (.inr (some (50, 0)))), some (.inl s), some (.inl i), some (.inl v)] _ _
  refine aj_run (C := True) (pc' := 1) (la' := [some (.inr (.inr (some (50, 0)))), some (.inl s), some (.inl i), some (.inl v)]) (st' := [.inl s]) (M' := (P, g, r0, n)) ok_X11_cell true 1 rfl trivial ?_
  refine aj_callS (av := [.inl s]) (st := []) cal_X11_isSheet lk_11_298 stc_X11_isSheet (sp_isSheet s _ _ _ _) ⟨by decide, by decide, by decide, by decide⟩ (Nat.le_of_ble_eq_true rfl) (ax_dec2 (i := .invokestatic 298) (n := 3) ok_X11_cell rfl) (fun r M' hq => ?_)
  obtain ⟨rfl, rfl⟩ := hq
  change ax_J _ _ _ _ _ _ _ _ _ 4 [some (.inr (.inr (some (50, 0)))), some (.inl s), some (.inl i), some (.inl v)] [.inl (bI (0 ≤ s ∧ s ≤ 3))] (P, g, r0, n)
  refine aj_if_ne (tgt := 10) (ax_dec2 (i := .ifCond .ne 6) (n := 3) ok_X11_cell rfl) (by decide) (fun c1 => ?_) (fun c1 => ?_)
  · replace c1 := bI_n0 c1
    refine aj_run (C := (0 ≤ s ∧ s < n 155 0) ∧ True) (pc' := 16) (la' := [some (.inr (.inr (some (50, 0)))), some (.inl s), some (.inl i), some (.inl v)]) (st' := [.inl (g 155 0 s)]) (M' := (P, g, r0, n)) ok_X11_cell true 4 rfl (by refine ⟨?_, trivial⟩ <;> ((have hz1 := hz s; omega))) ?_
    refine aj_if_ge (tgt := 22) (ax_dec2 (i := .ifCond .ge 6) (n := 3) ok_X11_cell rfl) (by decide) (fun c2 => ?_) (fun c2 => ?_)
    · refine aj_run (C := (0 ≤ s ∧ s < n 156 0) ∧ (-2147483648 ≤ (g 156 0 s) - 1 ∧ (g 156 0 s) - 1 ≤ 2147483647) ∧ True) (pc' := 32) (la' := [some (.inr (.inr (some (50, 0)))), some (.inl s), some (.inl i), some (.inl v)]) (st' := [.inl ((g 156 0 s) - 1), .inl 0, .inl i]) (M' := (P, g, r0, n)) ok_X11_cell true 8 rfl (by refine ⟨?_, ?_, trivial⟩ <;> ((have hz1 := hz s; omega))) ?_
      refine aj_callS (av := [.inl i, .inl 0, .inl ((g 156 0 s) - 1)]) (st := []) cal_X11_isIn lk_11_7 stc_X11_isIn (sp_isIn i 0 ((g 156 0 s) - 1) _ _ _ _) ⟨by decide, by decide, by decide, by decide⟩ (Nat.le_of_ble_eq_true rfl) (ax_dec2 (i := .invokestatic 7) (n := 3) ok_X11_cell rfl) (fun r M' hq => ?_)
      obtain ⟨rfl, rfl⟩ := hq
      change ax_J _ _ _ _ _ _ _ _ _ 35 [some (.inr (.inr (some (50, 0)))), some (.inl s), some (.inl i), some (.inl v)] [.inl (bI (0 ≤ i ∧ i ≤ ((g 156 0 s) - 1)))] (P, g, r0, n)
      refine aj_if_ne (tgt := 41) (ax_dec2 (i := .ifCond .ne 6) (n := 3) ok_X11_cell rfl) (by decide) (fun c3 => ?_) (fun c3 => ?_)
      · replace c3 := bI_n0 c3
        refine aj_run (C := (-2147483648 ≤ 40 * s ∧ 40 * s ≤ 2147483647) ∧ (-2147483648 ≤ (40 * s) + i ∧ (40 * s) + i ≤ 2147483647) ∧ (0 ≤ s ∧ s < n 155 0) ∧ True) (pc' := 57) (la' := [some (.inr (.inr (some (50, 0)))), some (.inl s), some (.inl i), some (.inl v)]) (st' := [.inl (g 155 0 s), .inl ((40 * s) + i), .inr (.inr (some (157, 0)))]) (M' := (P, g, r0, n)) ok_X11_cell true 11 rfl (by refine ⟨?_, ?_, ?_, trivial⟩ <;> ((have hz1 := hz s; omega))) ?_
        refine aj_if_ne (tgt := 65) (ax_dec2 (i := .ifCond .ne 8) (n := 3) ok_X11_cell rfl) (by decide) (fun c4 => ?_) (fun c4 => ?_)
        · refine aj_run (C := (0 ≤ s ∧ s < n 155 0) ∧ True) (pc' := 72) (la' := [some (.inr (.inr (some (50, 0)))), some (.inl s), some (.inl i), some (.inl v)]) (st' := [.inl 1, .inl (g 155 0 s), .inl ((40 * s) + i), .inr (.inr (some (157, 0)))]) (M' := (P, g, r0, n)) ok_X11_cell true 5 rfl (by refine ⟨?_, trivial⟩ <;> ((have hz1 := hz s; omega))) ?_
          refine aj_icmp_ne (tgt := 80) (ax_dec2 (i := .if_icmp .ne 8) (n := 3) ok_X11_cell rfl) (by decide) (fun c5 => ?_) (fun c5 => ?_)
          · refine aj_run (C := (0 ≤ (40 * s) + i ∧ (40 * s) + i < n 157 0) ∧ True) (pc' := 83) (la' := [some (.inr (.inr (some (50, 0)))), some (.inl s), some (.inl i), some (.inl v)]) (st' := [.inl 1]) (M' := (P, ax_u3 g 157 0 ((40 * s) + i) v, r0, n)) ok_X11_cell true 3 rfl (by refine ⟨?_, trivial⟩ <;> ((have hz1 := hz s; omega))) ?_
            refine aj_ret (r := some (.inl 1)) (ax_dec2 (i := .ireturn) (n := 1) ok_X11_cell rfl) ⟨?_, ?_, by decide, by decide⟩ rfl
            · (first | (exfalso; omega) | exact ⟨ax_si (by unfold mCell; (repeat first | rw [if_pos (by omega)] | rw [if_neg (by omega)] | rw [bI_t (by omega)] | rw [bI_f (by omega)]); try first | rfl | omega), (by unfold mCell; (repeat first | rw [if_pos (by omega)] | rw [if_neg (by omega)] | rw [bI_t (by omega)] | rw [bI_f (by omega)]); try rfl)⟩)
            · exact ax_ro_i
          · refine aj_run (C := (0 ≤ (40 * s) + i ∧ (40 * s) + i < n 157 0) ∧ True) (pc' := 83) (la' := [some (.inr (.inr (some (50, 0)))), some (.inl s), some (.inl i), some (.inl v)]) (st' := [.inl 1]) (M' := (P, ax_u3 g 157 0 ((40 * s) + i) (ax_i2s v), r0, n)) ok_X11_cell true 5 rfl (by refine ⟨?_, trivial⟩ <;> ((have hz1 := hz s; omega))) ?_
            refine aj_ret (r := some (.inl 1)) (ax_dec2 (i := .ireturn) (n := 1) ok_X11_cell rfl) ⟨?_, ?_, by decide, by decide⟩ rfl
            · (first | (exfalso; omega) | exact ⟨ax_si (by unfold mCell; (repeat first | rw [if_pos (by omega)] | rw [if_neg (by omega)] | rw [bI_t (by omega)] | rw [bI_f (by omega)]); try first | rfl | omega), (by unfold mCell; (repeat first | rw [if_pos (by omega)] | rw [if_neg (by omega)] | rw [bI_t (by omega)] | rw [bI_f (by omega)]); try rfl)⟩)
            · exact ax_ro_i
        · refine aj_run (C := (0 ≤ (40 * s) + i ∧ (40 * s) + i < n 157 0) ∧ True) (pc' := 83) (la' := [some (.inr (.inr (some (50, 0)))), some (.inl s), some (.inl i), some (.inl v)]) (st' := [.inl 1]) (M' := (P, ax_u3 g 157 0 ((40 * s) + i) (ax_i2b v), r0, n)) ok_X11_cell true 5 rfl (by refine ⟨?_, trivial⟩ <;> ((have hz1 := hz s; omega))) ?_
          refine aj_ret (r := some (.inl 1)) (ax_dec2 (i := .ireturn) (n := 1) ok_X11_cell rfl) ⟨?_, ?_, by decide, by decide⟩ rfl
          · (first | (exfalso; omega) | exact ⟨ax_si (by unfold mCell; (repeat first | rw [if_pos (by omega)] | rw [if_neg (by omega)] | rw [bI_t (by omega)] | rw [bI_f (by omega)]); try first | rfl | omega), (by unfold mCell; (repeat first | rw [if_pos (by omega)] | rw [if_neg (by omega)] | rw [bI_t (by omega)] | rw [bI_f (by omega)]); try rfl)⟩)
          · exact ax_ro_i
      · replace c3 := bI_e0 c3
        refine aj_run (C := True) (pc' := 40) (la' := [some (.inr (.inr (some (50, 0)))), some (.inl s), some (.inl i), some (.inl v)]) (st' := [.inl (-12)]) (M' := (P, g, r0, n)) ok_X11_cell true 1 rfl trivial ?_
        refine aj_ret (r := some (.inl (-12))) (ax_dec2 (i := .ireturn) (n := 1) ok_X11_cell rfl) ⟨?_, ?_, by decide, by decide⟩ rfl
        · (first | (exfalso; omega) | exact ⟨ax_si (by unfold mCell; (repeat first | rw [if_pos (by omega)] | rw [if_neg (by omega)] | rw [bI_t (by omega)] | rw [bI_f (by omega)]); try first | rfl | omega), (by unfold mCell; (repeat first | rw [if_pos (by omega)] | rw [if_neg (by omega)] | rw [bI_t (by omega)] | rw [bI_f (by omega)]); try rfl)⟩)
        · exact ax_ro_i
    · refine aj_run (C := True) (pc' := 21) (la' := [some (.inr (.inr (some (50, 0)))), some (.inl s), some (.inl i), some (.inl v)]) (st' := [.inl (-11)]) (M' := (P, g, r0, n)) ok_X11_cell true 1 rfl trivial ?_
      refine aj_ret (r := some (.inl (-11))) (ax_dec2 (i := .ireturn) (n := 1) ok_X11_cell rfl) ⟨?_, ?_, by decide, by decide⟩ rfl
      · (first | (exfalso; omega) | exact ⟨ax_si (by unfold mCell; (repeat first | rw [if_pos (by omega)] | rw [if_neg (by omega)] | rw [bI_t (by omega)] | rw [bI_f (by omega)]); try first | rfl | omega), (by unfold mCell; (repeat first | rw [if_pos (by omega)] | rw [if_neg (by omega)] | rw [bI_t (by omega)] | rw [bI_f (by omega)]); try rfl)⟩)
      · exact ax_ro_i
  · replace c1 := bI_e0 c1
    refine aj_run (C := True) (pc' := 9) (la' := [some (.inr (.inr (some (50, 0)))), some (.inl s), some (.inl i), some (.inl v)]) (st' := [.inl (-2)]) (M' := (P, g, r0, n)) ok_X11_cell true 1 rfl trivial ?_
    refine aj_ret (r := some (.inl (-2))) (ax_dec2 (i := .ireturn) (n := 1) ok_X11_cell rfl) ⟨?_, ?_, by decide, by decide⟩ rfl
    · (first | (exfalso; omega) | exact ⟨ax_si (by unfold mCell; (repeat first | rw [if_pos (by omega)] | rw [if_neg (by omega)] | rw [bI_t (by omega)] | rw [bI_f (by omega)]); try first | rfl | omega), (by unfold mCell; (repeat first | rw [if_pos (by omega)] | rw [if_neg (by omega)] | rw [bI_t (by omega)] | rw [bI_f (by omega)]); try rfl)⟩)
    · exact ax_ro_i

set_option maxRecDepth 100000 in
set_option maxHeartbeats 4000000 in
theorem sp_taken (a k : Int) (P : Nat → Int → Prop) (g : Nat → Int → Int → Int) (r0 : Nat → Int → Int → Option (Nat × Int)) (n : Nat → Int → Int) (hn : mLen n) (h2 : 0 ≤ g 50 0 2 ∧ g 50 0 2 ≤ 7) : ax_S yX11_taken cX11_taken 5 (some FieldType.int) 2 0 0 [.inr (.inr (some (50, 0))), .inl a, .inl k] (P, g, r0, n) (fun r M' => r = some (.inl (mTaken g a k)) ∧ M' = (P, g, r0, n)) := by
  have n103 : n 103 0 = 7 := hn (103, 7) (by decide)
  have n107 : n 107 0 = 7 := hn (107, 7) (by decide)
  refine ax_S_of (own := 11) (by decide) rfl (fun h => absurd h (by decide)) rfl (Nat.le_of_ble_eq_true rfl) ?_
  change ax_J _ _ _ _ _ _ _ _ _ _ [some (.inr (.inr (some (50, 0)))), some (.inl a), some (.inl k), none, none] _ _
  refine aj_run (C := True) (pc' := 3) (la' := [some (.inr (.inr (some (50, 0)))), some (.inl a), some (.inl k), none, none]) (st' := [.inl 5, .inl 0, .inl k]) (M' := (P, g, r0, n)) ok_X11_taken true 3 rfl trivial ?_
  refine aj_callS (av := [.inl k, .inl 0, .inl 5]) (st := []) cal_X11_isIn lk_11_7 stc_X11_isIn (sp_isIn k 0 5 _ _ _ _) ⟨by decide, by decide, by decide, by decide⟩ (Nat.le_of_ble_eq_true rfl) (ax_dec2 (i := .invokestatic 7) (n := 3) ok_X11_taken rfl) (fun r M' hq => ?_)
  obtain ⟨rfl, rfl⟩ := hq
  change ax_J _ _ _ _ _ _ _ _ _ 6 [some (.inr (.inr (some (50, 0)))), some (.inl a), some (.inl k), none, none] [.inl (bI (0 ≤ k ∧ k ≤ 5))] (P, g, r0, n)
  refine aj_if_ne (tgt := 12) (ax_dec2 (i := .ifCond .ne 6) (n := 3) ok_X11_taken rfl) (by decide) (fun c1 => ?_) (fun c1 => ?_)
  · replace c1 := bI_n0 c1
    refine aj_run (C := True) (pc' := 14) (la' := [some (.inr (.inr (some (50, 0)))), some (.inl a), some (.inl k), none, none]) (st' := [.inl a, .inr (.inr (some (50, 0)))]) (M' := (P, g, r0, n)) ok_X11_taken true 2 rfl trivial ?_
    refine aj_callV (av := [.inl a]) (st := []) (f := 50) (o := 0) (ci := 11) cal_X11_isAnt lk_11_33 ins_X11_isAnt rfl sel_X11_isAnt rfl (fun c9 h9 _ => by simpa [ax_ok] using h9) (sp_isAnt a _ _ _ _ h2) ⟨by decide, by decide, by decide, by decide⟩ (Nat.le_of_ble_eq_true rfl) (ax_dec2 (i := .invokevirtual 33) (n := 3) ok_X11_taken rfl) (fun r M' hq => ?_)
    obtain ⟨rfl, rfl⟩ := hq
    change ax_J _ _ _ _ _ _ _ _ _ 17 [some (.inr (.inr (some (50, 0)))), some (.inl a), some (.inl k), none, none] [.inl (bI (0 ≤ a ∧ a < g 50 0 2))] (P, g, r0, n)
    refine aj_if_ne (tgt := 23) (ax_dec2 (i := .ifCond .ne 6) (n := 3) ok_X11_taken rfl) (by decide) (fun c2 => ?_) (fun c2 => ?_)
    · replace c2 := bI_n0 c2
      refine aj_run (C := (0 ≤ a ∧ a < n 103 0) ∧ True) (pc' := 31) (la' := [some (.inr (.inr (some (50, 0)))), some (.inl a), some (.inl k), some (.inl (g 103 0 a)), none]) (st' := [.inl k]) (M' := (P, g, r0, n)) ok_X11_taken true 6 rfl (by refine ⟨?_, trivial⟩ <;> ((omega))) ?_
      refine aj_if_eq (tgt := 64) (ax_dec2 (i := .ifCond .eq 33) (n := 3) ok_X11_taken rfl) (by decide) (fun c3 => ?_) (fun c3 => ?_)
      · refine aj_run (C := True) (pc' := 73) (la' := [some (.inr (.inr (some (50, 0)))), some (.inl a), some (.inl k), some (.inl (g 103 0 a)), some (.inl 1)]) (st' := [.inl 1]) (M' := (P, g, r0, n)) ok_X11_taken true 4 rfl trivial ?_
        refine aj_if_eq (tgt := 85) (ax_dec2 (i := .ifCond .eq 12) (n := 3) ok_X11_taken rfl) (by decide) (fun c4 => ?_) (fun c4 => ?_)
        · exact absurd c4 (by omega)
        · refine aj_run (C := (0 ≤ a ∧ a < n 107 0) ∧ True) (pc' := 87) (la' := [some (.inr (.inr (some (50, 0)))), some (.inl a), some (.inl k), some (.inl (g 103 0 a)), some (.inl 1)]) (st' := [.inl (g 107 0 a)]) (M' := (P, g, r0, n)) ok_X11_taken true 5 rfl (by refine ⟨?_, trivial⟩ <;> ((omega))) ?_
          refine aj_ret (r := some (.inl (g 107 0 a))) (ax_dec2 (i := .ireturn) (n := 1) ok_X11_taken rfl) ⟨?_, ?_, by decide, by decide⟩ rfl
          · (first | (exfalso; omega) | exact ⟨ax_si (by unfold mTaken; (repeat first | rw [if_pos (by omega)] | rw [if_neg (by omega)] | rw [bI_t (by omega)] | rw [bI_f (by omega)]); try first | rfl | omega), rfl⟩)
          · exact ax_ro_i
      · refine aj_run (C := True) (pc' := 36) (la' := [some (.inr (.inr (some (50, 0)))), some (.inl a), some (.inl k), some (.inl (g 103 0 a)), none]) (st' := [.inl k, .inl (g 103 0 a)]) (M' := (P, g, r0, n)) ok_X11_taken true 2 rfl trivial ?_
        refine aj_icmp_eq (tgt := 64) (ax_dec2 (i := .if_icmp .eq 28) (n := 3) ok_X11_taken rfl) (by decide) (fun c5 => ?_) (fun c5 => ?_)
        · refine aj_run (C := True) (pc' := 73) (la' := [some (.inr (.inr (some (50, 0)))), some (.inl a), some (.inl k), some (.inl (g 103 0 a)), some (.inl 1)]) (st' := [.inl 1]) (M' := (P, g, r0, n)) ok_X11_taken true 4 rfl trivial ?_
          refine aj_if_eq (tgt := 85) (ax_dec2 (i := .ifCond .eq 12) (n := 3) ok_X11_taken rfl) (by decide) (fun c6 => ?_) (fun c6 => ?_)
          · exact absurd c6 (by omega)
          · refine aj_run (C := (0 ≤ a ∧ a < n 107 0) ∧ True) (pc' := 87) (la' := [some (.inr (.inr (some (50, 0)))), some (.inl a), some (.inl k), some (.inl (g 103 0 a)), some (.inl 1)]) (st' := [.inl (g 107 0 a)]) (M' := (P, g, r0, n)) ok_X11_taken true 5 rfl (by refine ⟨?_, trivial⟩ <;> ((omega))) ?_
            refine aj_ret (r := some (.inl (g 107 0 a))) (ax_dec2 (i := .ireturn) (n := 1) ok_X11_taken rfl) ⟨?_, ?_, by decide, by decide⟩ rfl
            · (first | (exfalso; omega) | exact ⟨ax_si (by unfold mTaken; (repeat first | rw [if_pos (by omega)] | rw [if_neg (by omega)] | rw [bI_t (by omega)] | rw [bI_f (by omega)]); try first | rfl | omega), rfl⟩)
            · exact ax_ro_i
        · refine aj_run (C := True) (pc' := 41) (la' := [some (.inr (.inr (some (50, 0)))), some (.inl a), some (.inl k), some (.inl (g 103 0 a)), none]) (st' := [.inl 1, .inl k]) (M' := (P, g, r0, n)) ok_X11_taken true 2 rfl trivial ?_
          refine aj_icmp_ne (tgt := 49) (ax_dec2 (i := .if_icmp .ne 8) (n := 3) ok_X11_taken rfl) (by decide) (fun c7 => ?_) (fun c7 => ?_)
          · refine aj_run (C := True) (pc' := 51) (la' := [some (.inr (.inr (some (50, 0)))), some (.inl a), some (.inl k), some (.inl (g 103 0 a)), none]) (st' := [.inl 2, .inl k]) (M' := (P, g, r0, n)) ok_X11_taken true 2 rfl trivial ?_
            refine aj_icmp_ne (tgt := 68) (ax_dec2 (i := .if_icmp .ne 17) (n := 3) ok_X11_taken rfl) (by decide) (fun c8 => ?_) (fun c8 => ?_)
            · refine aj_run (C := True) (pc' := 73) (la' := [some (.inr (.inr (some (50, 0)))), some (.inl a), some (.inl k), some (.inl (g 103 0 a)), some (.inl 0)]) (st' := [.inl 0]) (M' := (P, g, r0, n)) ok_X11_taken true 3 rfl trivial ?_
              refine aj_if_eq (tgt := 85) (ax_dec2 (i := .ifCond .eq 12) (n := 3) ok_X11_taken rfl) (by decide) (fun c9 => ?_) (fun c9 => ?_)
              · refine aj_run (C := True) (pc' := 87) (la' := [some (.inr (.inr (some (50, 0)))), some (.inl a), some (.inl k), some (.inl (g 103 0 a)), some (.inl 0)]) (st' := [.inl (-13)]) (M' := (P, g, r0, n)) ok_X11_taken true 1 rfl trivial ?_
                refine aj_ret (r := some (.inl (-13))) (ax_dec2 (i := .ireturn) (n := 1) ok_X11_taken rfl) ⟨?_, ?_, by decide, by decide⟩ rfl
                · (first | (exfalso; omega) | exact ⟨ax_si (by unfold mTaken; (repeat first | rw [if_pos (by omega)] | rw [if_neg (by omega)] | rw [bI_t (by omega)] | rw [bI_f (by omega)]); try first | rfl | omega), rfl⟩)
                · exact ax_ro_i
              · exact absurd c9 (by omega)
            · refine aj_run (C := True) (pc' := 56) (la' := [some (.inr (.inr (some (50, 0)))), some (.inl a), some (.inl k), some (.inl (g 103 0 a)), none]) (st' := [.inl 4, .inl (g 103 0 a)]) (M' := (P, g, r0, n)) ok_X11_taken true 2 rfl trivial ?_
              refine aj_icmp_eq (tgt := 64) (ax_dec2 (i := .if_icmp .eq 8) (n := 3) ok_X11_taken rfl) (by decide) (fun c10 => ?_) (fun c10 => ?_)
              · refine aj_run (C := True) (pc' := 73) (la' := [some (.inr (.inr (some (50, 0)))), some (.inl a), some (.inl k), some (.inl (g 103 0 a)), some (.inl 1)]) (st' := [.inl 1]) (M' := (P, g, r0, n)) ok_X11_taken true 4 rfl trivial ?_
                refine aj_if_eq (tgt := 85) (ax_dec2 (i := .ifCond .eq 12) (n := 3) ok_X11_taken rfl) (by decide) (fun c11 => ?_) (fun c11 => ?_)
                · exact absurd c11 (by omega)
                · refine aj_run (C := (0 ≤ a ∧ a < n 107 0) ∧ True) (pc' := 87) (la' := [some (.inr (.inr (some (50, 0)))), some (.inl a), some (.inl k), some (.inl (g 103 0 a)), some (.inl 1)]) (st' := [.inl (g 107 0 a)]) (M' := (P, g, r0, n)) ok_X11_taken true 5 rfl (by refine ⟨?_, trivial⟩ <;> ((omega))) ?_
                  refine aj_ret (r := some (.inl (g 107 0 a))) (ax_dec2 (i := .ireturn) (n := 1) ok_X11_taken rfl) ⟨?_, ?_, by decide, by decide⟩ rfl
                  · (first | (exfalso; omega) | exact ⟨ax_si (by unfold mTaken; (repeat first | rw [if_pos (by omega)] | rw [if_neg (by omega)] | rw [bI_t (by omega)] | rw [bI_f (by omega)]); try first | rfl | omega), rfl⟩)
                  · exact ax_ro_i
              · refine aj_run (C := True) (pc' := 61) (la' := [some (.inr (.inr (some (50, 0)))), some (.inl a), some (.inl k), some (.inl (g 103 0 a)), none]) (st' := [.inl 5, .inl (g 103 0 a)]) (M' := (P, g, r0, n)) ok_X11_taken true 2 rfl trivial ?_
                refine aj_icmp_ne (tgt := 68) (ax_dec2 (i := .if_icmp .ne 7) (n := 3) ok_X11_taken rfl) (by decide) (fun c12 => ?_) (fun c12 => ?_)
                · refine aj_run (C := True) (pc' := 73) (la' := [some (.inr (.inr (some (50, 0)))), some (.inl a), some (.inl k), some (.inl (g 103 0 a)), some (.inl 0)]) (st' := [.inl 0]) (M' := (P, g, r0, n)) ok_X11_taken true 3 rfl trivial ?_
                  refine aj_if_eq (tgt := 85) (ax_dec2 (i := .ifCond .eq 12) (n := 3) ok_X11_taken rfl) (by decide) (fun c13 => ?_) (fun c13 => ?_)
                  · refine aj_run (C := True) (pc' := 87) (la' := [some (.inr (.inr (some (50, 0)))), some (.inl a), some (.inl k), some (.inl (g 103 0 a)), some (.inl 0)]) (st' := [.inl (-13)]) (M' := (P, g, r0, n)) ok_X11_taken true 1 rfl trivial ?_
                    refine aj_ret (r := some (.inl (-13))) (ax_dec2 (i := .ireturn) (n := 1) ok_X11_taken rfl) ⟨?_, ?_, by decide, by decide⟩ rfl
                    · (first | (exfalso; omega) | exact ⟨ax_si (by unfold mTaken; (repeat first | rw [if_pos (by omega)] | rw [if_neg (by omega)] | rw [bI_t (by omega)] | rw [bI_f (by omega)]); try first | rfl | omega), rfl⟩)
                    · exact ax_ro_i
                  · exact absurd c13 (by omega)
                · refine aj_run (C := True) (pc' := 73) (la' := [some (.inr (.inr (some (50, 0)))), some (.inl a), some (.inl k), some (.inl (g 103 0 a)), some (.inl 1)]) (st' := [.inl 1]) (M' := (P, g, r0, n)) ok_X11_taken true 4 rfl trivial ?_
                  refine aj_if_eq (tgt := 85) (ax_dec2 (i := .ifCond .eq 12) (n := 3) ok_X11_taken rfl) (by decide) (fun c14 => ?_) (fun c14 => ?_)
                  · exact absurd c14 (by omega)
                  · refine aj_run (C := (0 ≤ a ∧ a < n 107 0) ∧ True) (pc' := 87) (la' := [some (.inr (.inr (some (50, 0)))), some (.inl a), some (.inl k), some (.inl (g 103 0 a)), some (.inl 1)]) (st' := [.inl (g 107 0 a)]) (M' := (P, g, r0, n)) ok_X11_taken true 5 rfl (by refine ⟨?_, trivial⟩ <;> ((omega))) ?_
                    refine aj_ret (r := some (.inl (g 107 0 a))) (ax_dec2 (i := .ireturn) (n := 1) ok_X11_taken rfl) ⟨?_, ?_, by decide, by decide⟩ rfl
                    · (first | (exfalso; omega) | exact ⟨ax_si (by unfold mTaken; (repeat first | rw [if_pos (by omega)] | rw [if_neg (by omega)] | rw [bI_t (by omega)] | rw [bI_f (by omega)]); try first | rfl | omega), rfl⟩)
                    · exact ax_ro_i
          · refine aj_run (C := True) (pc' := 46) (la' := [some (.inr (.inr (some (50, 0)))), some (.inl a), some (.inl k), some (.inl (g 103 0 a)), none]) (st' := [.inl 3, .inl (g 103 0 a)]) (M' := (P, g, r0, n)) ok_X11_taken true 2 rfl trivial ?_
            refine aj_icmp_eq (tgt := 64) (ax_dec2 (i := .if_icmp .eq 18) (n := 3) ok_X11_taken rfl) (by decide) (fun c15 => ?_) (fun c15 => ?_)
            · refine aj_run (C := True) (pc' := 73) (la' := [some (.inr (.inr (some (50, 0)))), some (.inl a), some (.inl k), some (.inl (g 103 0 a)), some (.inl 1)]) (st' := [.inl 1]) (M' := (P, g, r0, n)) ok_X11_taken true 4 rfl trivial ?_
              refine aj_if_eq (tgt := 85) (ax_dec2 (i := .ifCond .eq 12) (n := 3) ok_X11_taken rfl) (by decide) (fun c16 => ?_) (fun c16 => ?_)
              · exact absurd c16 (by omega)
              · refine aj_run (C := (0 ≤ a ∧ a < n 107 0) ∧ True) (pc' := 87) (la' := [some (.inr (.inr (some (50, 0)))), some (.inl a), some (.inl k), some (.inl (g 103 0 a)), some (.inl 1)]) (st' := [.inl (g 107 0 a)]) (M' := (P, g, r0, n)) ok_X11_taken true 5 rfl (by refine ⟨?_, trivial⟩ <;> ((omega))) ?_
                refine aj_ret (r := some (.inl (g 107 0 a))) (ax_dec2 (i := .ireturn) (n := 1) ok_X11_taken rfl) ⟨?_, ?_, by decide, by decide⟩ rfl
                · (first | (exfalso; omega) | exact ⟨ax_si (by unfold mTaken; (repeat first | rw [if_pos (by omega)] | rw [if_neg (by omega)] | rw [bI_t (by omega)] | rw [bI_f (by omega)]); try first | rfl | omega), rfl⟩)
                · exact ax_ro_i
            · refine aj_run (C := True) (pc' := 51) (la' := [some (.inr (.inr (some (50, 0)))), some (.inl a), some (.inl k), some (.inl (g 103 0 a)), none]) (st' := [.inl 2, .inl k]) (M' := (P, g, r0, n)) ok_X11_taken true 2 rfl trivial ?_
              refine aj_icmp_ne (tgt := 68) (ax_dec2 (i := .if_icmp .ne 17) (n := 3) ok_X11_taken rfl) (by decide) (fun c17 => ?_) (fun c17 => ?_)
              · refine aj_run (C := True) (pc' := 73) (la' := [some (.inr (.inr (some (50, 0)))), some (.inl a), some (.inl k), some (.inl (g 103 0 a)), some (.inl 0)]) (st' := [.inl 0]) (M' := (P, g, r0, n)) ok_X11_taken true 3 rfl trivial ?_
                refine aj_if_eq (tgt := 85) (ax_dec2 (i := .ifCond .eq 12) (n := 3) ok_X11_taken rfl) (by decide) (fun c18 => ?_) (fun c18 => ?_)
                · refine aj_run (C := True) (pc' := 87) (la' := [some (.inr (.inr (some (50, 0)))), some (.inl a), some (.inl k), some (.inl (g 103 0 a)), some (.inl 0)]) (st' := [.inl (-13)]) (M' := (P, g, r0, n)) ok_X11_taken true 1 rfl trivial ?_
                  refine aj_ret (r := some (.inl (-13))) (ax_dec2 (i := .ireturn) (n := 1) ok_X11_taken rfl) ⟨?_, ?_, by decide, by decide⟩ rfl
                  · (first | (exfalso; omega) | exact ⟨ax_si (by unfold mTaken; (repeat first | rw [if_pos (by omega)] | rw [if_neg (by omega)] | rw [bI_t (by omega)] | rw [bI_f (by omega)]); try first | rfl | omega), rfl⟩)
                  · exact ax_ro_i
                · exact absurd c18 (by omega)
              · exact absurd c17 (by omega)
    · replace c2 := bI_e0 c2
      refine aj_run (C := True) (pc' := 22) (la' := [some (.inr (.inr (some (50, 0)))), some (.inl a), some (.inl k), none, none]) (st' := [.inl (-11)]) (M' := (P, g, r0, n)) ok_X11_taken true 1 rfl trivial ?_
      refine aj_ret (r := some (.inl (-11))) (ax_dec2 (i := .ireturn) (n := 1) ok_X11_taken rfl) ⟨?_, ?_, by decide, by decide⟩ rfl
      · (first | (exfalso; omega) | exact ⟨ax_si (by unfold mTaken; (repeat first | rw [if_pos (by omega)] | rw [if_neg (by omega)] | rw [bI_t (by omega)] | rw [bI_f (by omega)]); try first | rfl | omega), rfl⟩)
      · exact ax_ro_i
  · replace c1 := bI_e0 c1
    refine aj_run (C := True) (pc' := 11) (la' := [some (.inr (.inr (some (50, 0)))), some (.inl a), some (.inl k), none, none]) (st' := [.inl (-2)]) (M' := (P, g, r0, n)) ok_X11_taken true 1 rfl trivial ?_
    refine aj_ret (r := some (.inl (-2))) (ax_dec2 (i := .ireturn) (n := 1) ok_X11_taken rfl) ⟨?_, ?_, by decide, by decide⟩ rfl
    · (first | (exfalso; omega) | exact ⟨ax_si (by unfold mTaken; (repeat first | rw [if_pos (by omega)] | rw [if_neg (by omega)] | rw [bI_t (by omega)] | rw [bI_f (by omega)]); try first | rfl | omega), rfl⟩)
    · exact ax_ro_i

