/-! ===== what the tables say of the classes and of the fields, by places ===== -/
theorem ax_inp (ws : List Cond) (ps : List Nat) (hp : ws = ps.filterMap (fun i => lw_tbl[i]?)) (h : ws.all goodWord = true) : ∀ w ∈ ws, w ∈ ax_GT := fun w hw => by
  have h1 := List.all_eq_true.mp h w hw
  rw [hp] at hw
  obtain ⟨i, -, hi⟩ := List.mem_filterMap.mp hw
  exact ax_GT_in hi h1
theorem ax_lay0 : ∀ w ∈ u_ws RX0 TX0 13, w ∈ ax_GT := ax_inp _ [653, 654, 655, 656, 657, 658, 659, 660, 661, 662, 663, 664, 665] (by decide +kernel) (by decide +kernel)
theorem ax_lay1 : ∀ w ∈ u_ws RX1 TX1 13, w ∈ ax_GT := ax_inp _ [636, 637, 638, 639, 640, 641, 642, 643, 644, 645, 646, 647, 648] (by decide +kernel) (by decide +kernel)
theorem ax_lay2 : ∀ w ∈ u_ws RX2 TX2 17, w ∈ ax_GT := ax_inp _ [134, 136, 138, 140, 142, 144, 146, 148, 150, 152, 154, 156, 158, 160, 162, 164, 166] (by decide +kernel) (by decide +kernel)
theorem ax_lay3 : ∀ w ∈ u_ws RX3 TX3 13, w ∈ ax_GT := ax_inp _ [616, 617, 618, 619, 620, 621, 622, 623, 624, 625, 626, 627, 628] (by decide +kernel) (by decide +kernel)
theorem ax_lay4 : ∀ w ∈ u_ws RX4 TX4 5, w ∈ ax_GT := ax_inp _ [416, 418, 420, 422, 424] (by decide +kernel) (by decide +kernel)
theorem ax_lay5 : ∀ w ∈ u_ws RX5 TX5 3, w ∈ ax_GT := ax_inp _ [233, 235, 237] (by decide +kernel) (by decide +kernel)
theorem ax_lay6 : ∀ w ∈ u_ws RX6 TX6 13, w ∈ ax_GT := ax_inp _ [576, 577, 578, 579, 580, 581, 582, 583, 584, 585, 586, 587, 588] (by decide +kernel) (by decide +kernel)
theorem ax_lay7 : ∀ w ∈ u_ws RX7 TX7 13, w ∈ ax_GT := ax_inp _ [543, 545, 547, 549, 551, 553, 555, 557, 559, 561, 563, 565, 567] (by decide +kernel) (by decide +kernel)
theorem ax_lay8 : ∀ w ∈ u_ws RX8 TX8 13, w ∈ ax_GT := ax_inp _ [191, 193, 195, 197, 199, 201, 203, 205, 207, 209, 211, 213, 215] (by decide +kernel) (by decide +kernel)
theorem ax_lay9 : ∀ w ∈ u_ws RX9 TX9 13, w ∈ ax_GT := ax_inp _ [596, 597, 598, 599, 600, 601, 602, 603, 604, 605, 606, 607, 608] (by decide +kernel) (by decide +kernel)
theorem ax_lay10 : ∀ w ∈ u_ws RX10 TX10 10, w ∈ ax_GT := ax_inp _ [438, 440, 442, 444, 446, 448, 450, 452, 454, 456] (by decide +kernel) (by decide +kernel)
theorem ax_lay11 : ∀ w ∈ u_ws RX11 TX11 59, w ∈ ax_GT := ax_inp _ [1254, 1256, 1258, 1260, 1262, 1264, 1266, 1268, 1270, 1272, 1274, 1276, 1278, 1280, 1282, 1284, 1286, 1288, 1290, 1292, 1294, 1296, 1298, 1300, 1302, 1304, 1306, 1308, 1310, 1312, 1314, 1316, 1318, 1320, 1322, 1324, 1326, 1328, 1330, 1332, 1334, 1336, 1338, 1340, 1342, 1344, 1346, 1348, 1350, 1352, 1354, 1356, 1358, 1360, 1362, 1364, 1366, 1368, 1370] (by decide +kernel) (by decide +kernel)
def ax_cf (f : Nat) (C : String) (T : u_T) (N : Nat) : Prop := N = ax_N f ∧ (∀ w ∈ u_ws C T N, w ∈ ax_GT) ∧ (∀ k, k < N → parseFieldDescriptor (T k).2.2.1 = some (ax_ty f k)) ∧ (∀ a, a < N → ∀ b, b < N → a ≠ b → (T a).2.1 ≠ (T b).2.1)
theorem ax_cf1_10 : ax_cf 1 RX10 TX10 10 := ⟨rfl, ax_lay10, by decide +kernel, nmX10⟩
theorem ax_cf2_2 : ax_cf 2 RX2 TX2 17 := ⟨rfl, ax_lay2, by decide +kernel, nmX2⟩
theorem ax_cf3_8 : ax_cf 3 RX8 TX8 13 := ⟨rfl, ax_lay8, by decide +kernel, nmX8⟩
theorem ax_cf4_5 : ax_cf 4 RX5 TX5 3 := ⟨rfl, ax_lay5, by decide +kernel, nmX5⟩
theorem ax_cf5_0 : ax_cf 5 RX0 TX0 13 := ⟨rfl, ax_lay0, by decide +kernel, nmX0⟩
theorem ax_cf5_1 : ax_cf 5 RX1 TX1 13 := ⟨rfl, ax_lay1, by decide +kernel, nmX1⟩
theorem ax_cf5_3 : ax_cf 5 RX3 TX3 13 := ⟨rfl, ax_lay3, by decide +kernel, nmX3⟩
theorem ax_cf5_6 : ax_cf 5 RX6 TX6 13 := ⟨rfl, ax_lay6, by decide +kernel, nmX6⟩
theorem ax_cf5_7 : ax_cf 5 RX7 TX7 13 := ⟨rfl, ax_lay7, by decide +kernel, nmX7⟩
theorem ax_cf5_9 : ax_cf 5 RX9 TX9 13 := ⟨rfl, ax_lay9, by decide +kernel, nmX9⟩
theorem ax_cf6_4 : ax_cf 6 RX4 TX4 5 := ⟨rfl, ax_lay4, by decide +kernel, nmX4⟩
theorem ax_cf50_11 : ax_cf 50 RX11 TX11 59 := ⟨rfl, ax_lay11, by decide +kernel, nmX11⟩
theorem ax_cls {f ci : Nat} (h : ax_ok f ci = true) : ∃ (C : String) (T : u_T) (N : Nat), vwCl[ci]? = some (C, T, N) ∧ ax_cf (f % 1000) C T N := by
  unfold ax_ok at h
  split at h
  · rename_i e; rw [e]; obtain rfl : ci = 10 := by simpa using h
    exact ⟨_, _, _, rfl, ax_cf1_10⟩
  · rename_i e; rw [e]; obtain rfl : ci = 2 := by simpa using h
    exact ⟨_, _, _, rfl, ax_cf2_2⟩
  · rename_i e; rw [e]; obtain rfl : ci = 8 := by simpa using h
    exact ⟨_, _, _, rfl, ax_cf3_8⟩
  · rename_i e; rw [e]; obtain rfl : ci = 5 := by simpa using h
    exact ⟨_, _, _, rfl, ax_cf4_5⟩
  · rename_i e; rw [e]
    have h : ci = 0 ∨ ci = 1 ∨ ci = 3 ∨ ci = 6 ∨ ci = 7 ∨ ci = 9 := by simpa using h
    rcases h with rfl | rfl | rfl | rfl | rfl | rfl
    · exact ⟨_, _, _, rfl, ax_cf5_0⟩
    · exact ⟨_, _, _, rfl, ax_cf5_1⟩
    · exact ⟨_, _, _, rfl, ax_cf5_3⟩
    · exact ⟨_, _, _, rfl, ax_cf5_6⟩
    · exact ⟨_, _, _, rfl, ax_cf5_7⟩
    · exact ⟨_, _, _, rfl, ax_cf5_9⟩
  · rename_i e; rw [e]; obtain rfl : ci = 4 := by simpa using h
    exact ⟨_, _, _, rfl, ax_cf6_4⟩
  · rename_i e; rw [e]; obtain rfl : ci = 11 := by simpa using h
    exact ⟨_, _, _, rfl, ax_cf50_11⟩
  · cases h
/-- a field's link: by (own, index) the field k of the objects of family f; its declaring class and name and descriptor are the same in each class of the family -/
def ax_fl (own idx f k : Nat) : Prop := k < ax_N f ∧ ∃ (ref d n ds : String) (fi : Bool), Cond.fieldLink (ax_nm own) idx ref n ds ∈ ax_GT ∧ (ref = d ∨ Cond.sameField ref d n ds ∈ ax_GT) ∧ ∀ (ci : Nat) (C : String) (T : u_T) (N : Nat), ax_ok f ci = true → vwCl[ci]? = some (C, T, N) → T k = (d, n, ds, fi)
theorem ax_okc {f ci : Nat} {P : Nat → Prop} (h : ax_ok f ci = true) (hf : f = 1 ∨ f = 2 ∨ f = 3 ∨ f = 4 ∨ f = 5 ∨ f = 6 ∨ f = 50) (H : ∀ c, (f, c) ∈ [(1, 10), (2, 2), (3, 8), (4, 5), (5, 0), (5, 1), (5, 3), (5, 6), (5, 7), (5, 9), (6, 4), (50, 11)] → P c) : P ci := by
  apply H
  rcases hf with rfl | rfl | rfl | rfl | rfl | rfl | rfl <;> simp [ax_ok] at h <;> simp [h]
theorem ax_f2_11 : ax_fl 2 11 2 0 := ⟨by decide, "AntsTurn$Plank", "AntsTurn$Plank", "ants", "[LAntsTurn$Ant;", true, ax_GT_in (i := 107) (by decide +kernel) rfl, Or.inl rfl, fun ci C T N h e => by
  refine ax_okc (P := fun ci => vwCl[ci]? = some (C, T, N) → T 0 = _) h (by decide) ?_ e
  intro c hc e
  simp at hc
  subst hc; cases e; rfl⟩
theorem ax_f10_81 : ax_fl 10 81 2 0 := ⟨by decide, "AntsTurn$Plank", "AntsTurn$Plank", "ants", "[LAntsTurn$Ant;", true, ax_GT_in (i := 108) (by decide +kernel) rfl, Or.inl rfl, fun ci C T N h e => by
  refine ax_okc (P := fun ci => vwCl[ci]? = some (C, T, N) → T 0 = _) h (by decide) ?_ e
  intro c hc e
  simp at hc
  subst hc; cases e; rfl⟩
theorem ax_f2_40 : ax_fl 2 40 2 1 := ⟨by decide, "AntsTurn$Plank", "AntsTurn$Plank", "size", "I", false, ax_GT_in (i := 109) (by decide +kernel) rfl, Or.inl rfl, fun ci C T N h e => by
  refine ax_okc (P := fun ci => vwCl[ci]? = some (C, T, N) → T 1 = _) h (by decide) ?_ e
  intro c hc e
  simp at hc
  subst hc; cases e; rfl⟩
theorem ax_f10_80 : ax_fl 10 80 2 1 := ⟨by decide, "AntsTurn$Plank", "AntsTurn$Plank", "size", "I", false, ax_GT_in (i := 110) (by decide +kernel) rfl, Or.inl rfl, fun ci C T N h e => by
  refine ax_okc (P := fun ci => vwCl[ci]? = some (C, T, N) → T 1 = _) h (by decide) ?_ e
  intro c hc e
  simp at hc
  subst hc; cases e; rfl⟩
theorem ax_f2_17 : ax_fl 2 17 2 2 := ⟨by decide, "AntsTurn$Plank", "AntsTurn$Plank", "knots", "I", false, ax_GT_in (i := 111) (by decide +kernel) rfl, Or.inl rfl, fun ci C T N h e => by
  refine ax_okc (P := fun ci => vwCl[ci]? = some (C, T, N) → T 2 = _) h (by decide) ?_ e
  intro c hc e
  simp at hc
  subst hc; cases e; rfl⟩
theorem ax_f10_91 : ax_fl 10 91 2 2 := ⟨by decide, "AntsTurn$Plank", "AntsTurn$Plank", "knots", "I", false, ax_GT_in (i := 112) (by decide +kernel) rfl, Or.inl rfl, fun ci C T N h e => by
  refine ax_okc (P := fun ci => vwCl[ci]? = some (C, T, N) → T 2 = _) h (by decide) ?_ e
  intro c hc e
  simp at hc
  subst hc; cases e; rfl⟩
theorem ax_f10_74 : ax_fl 10 74 2 3 := ⟨by decide, "AntsTurn$Plank", "AntsTurn$Plank", "ring", "I", false, ax_GT_in (i := 113) (by decide +kernel) rfl, Or.inl rfl, fun ci C T N h e => by
  refine ax_okc (P := fun ci => vwCl[ci]? = some (C, T, N) → T 3 = _) h (by decide) ?_ e
  intro c hc e
  simp at hc
  subst hc; cases e; rfl⟩
theorem ax_f2_81 : ax_fl 2 81 2 3 := ⟨by decide, "AntsTurn$Plank", "AntsTurn$Plank", "ring", "I", false, ax_GT_in (i := 114) (by decide +kernel) rfl, Or.inl rfl, fun ci C T N h e => by
  refine ax_okc (P := fun ci => vwCl[ci]? = some (C, T, N) → T 3 = _) h (by decide) ?_ e
  intro c hc e
  simp at hc
  subst hc; cases e; rfl⟩
theorem ax_f10_60 : ax_fl 10 60 2 4 := ⟨by decide, "AntsTurn$Plank", "AntsTurn$Plank", "rule", "LAntsTurn$Rule;", false, ax_GT_in (i := 115) (by decide +kernel) rfl, Or.inl rfl, fun ci C T N h e => by
  refine ax_okc (P := fun ci => vwCl[ci]? = some (C, T, N) → T 4 = _) h (by decide) ?_ e
  intro c hc e
  simp at hc
  subst hc; cases e; rfl⟩
theorem ax_f2_119 : ax_fl 2 119 2 4 := ⟨by decide, "AntsTurn$Plank", "AntsTurn$Plank", "rule", "LAntsTurn$Rule;", false, ax_GT_in (i := 116) (by decide +kernel) rfl, Or.inl rfl, fun ci C T N h e => by
  refine ax_okc (P := fun ci => vwCl[ci]? = some (C, T, N) → T 4 = _) h (by decide) ?_ e
  intro c hc e
  simp at hc
  subst hc; cases e; rfl⟩
theorem ax_f2_54 : ax_fl 2 54 2 5 := ⟨by decide, "AntsTurn$Plank", "AntsTurn$Plank", "carrier", "I", false, ax_GT_in (i := 117) (by decide +kernel) rfl, Or.inl rfl, fun ci C T N h e => by
  refine ax_okc (P := fun ci => vwCl[ci]? = some (C, T, N) → T 5 = _) h (by decide) ?_ e
  intro c hc e
  simp at hc
  subst hc; cases e; rfl⟩
theorem ax_f10_242 : ax_fl 10 242 2 5 := ⟨by decide, "AntsTurn$Plank", "AntsTurn$Plank", "carrier", "I", false, ax_GT_in (i := 118) (by decide +kernel) rfl, Or.inl rfl, fun ci C T N h e => by
  refine ax_okc (P := fun ci => vwCl[ci]? = some (C, T, N) → T 5 = _) h (by decide) ?_ e
  intro c hc e
  simp at hc
  subst hc; cases e; rfl⟩
theorem ax_f2_57 : ax_fl 2 57 2 6 := ⟨by decide, "AntsTurn$Plank", "AntsTurn$Plank", "pairs", "I", false, ax_GT_in (i := 119) (by decide +kernel) rfl, Or.inl rfl, fun ci C T N h e => by
  refine ax_okc (P := fun ci => vwCl[ci]? = some (C, T, N) → T 6 = _) h (by decide) ?_ e
  intro c hc e
  simp at hc
  subst hc; cases e; rfl⟩
theorem ax_f10_204 : ax_fl 10 204 2 6 := ⟨by decide, "AntsTurn$Plank", "AntsTurn$Plank", "pairs", "I", false, ax_GT_in (i := 120) (by decide +kernel) rfl, Or.inl rfl, fun ci C T N h e => by
  refine ax_okc (P := fun ci => vwCl[ci]? = some (C, T, N) → T 6 = _) h (by decide) ?_ e
  intro c hc e
  simp at hc
  subst hc; cases e; rfl⟩
theorem ax_f2_60 : ax_fl 2 60 2 7 := ⟨by decide, "AntsTurn$Plank", "AntsTurn$Plank", "metIn", "I", false, ax_GT_in (i := 121) (by decide +kernel) rfl, Or.inl rfl, fun ci C T N h e => by
  refine ax_okc (P := fun ci => vwCl[ci]? = some (C, T, N) → T 7 = _) h (by decide) ?_ e
  intro c hc e
  simp at hc
  subst hc; cases e; rfl⟩
theorem ax_f10_237 : ax_fl 10 237 2 7 := ⟨by decide, "AntsTurn$Plank", "AntsTurn$Plank", "metIn", "I", false, ax_GT_in (i := 122) (by decide +kernel) rfl, Or.inl rfl, fun ci C T N h e => by
  refine ax_okc (P := fun ci => vwCl[ci]? = some (C, T, N) → T 7 = _) h (by decide) ?_ e
  intro c hc e
  simp at hc
  subst hc; cases e; rfl⟩
theorem ax_f2_66 : ax_fl 2 66 2 8 := ⟨by decide, "AntsTurn$Plank", "AntsTurn$Plank", "still", "I", false, ax_GT_in (i := 123) (by decide +kernel) rfl, Or.inl rfl, fun ci C T N h e => by
  refine ax_okc (P := fun ci => vwCl[ci]? = some (C, T, N) → T 8 = _) h (by decide) ?_ e
  intro c hc e
  simp at hc
  subst hc; cases e; rfl⟩
theorem ax_f10_234 : ax_fl 10 234 2 8 := ⟨by decide, "AntsTurn$Plank", "AntsTurn$Plank", "still", "I", false, ax_GT_in (i := 124) (by decide +kernel) rfl, Or.inl rfl, fun ci C T N h e => by
  refine ax_okc (P := fun ci => vwCl[ci]? = some (C, T, N) → T 8 = _) h (by decide) ?_ e
  intro c hc e
  simp at hc
  subst hc; cases e; rfl⟩
theorem ax_f2_21 : ax_fl 2 21 2 9 := ⟨by decide, "AntsTurn$Plank", "AntsTurn$Plank", "offs", "[I", true, ax_GT_in (i := 125) (by decide +kernel) rfl, Or.inl rfl, fun ci C T N h e => by
  refine ax_okc (P := fun ci => vwCl[ci]? = some (C, T, N) → T 9 = _) h (by decide) ?_ e
  intro c hc e
  simp at hc
  subst hc; cases e; rfl⟩
theorem ax_f10_210 : ax_fl 10 210 2 9 := ⟨by decide, "AntsTurn$Plank", "AntsTurn$Plank", "offs", "[I", true, ax_GT_in (i := 126) (by decide +kernel) rfl, Or.inl rfl, fun ci C T N h e => by
  refine ax_okc (P := fun ci => vwCl[ci]? = some (C, T, N) → T 9 = _) h (by decide) ?_ e
  intro c hc e
  simp at hc
  subst hc; cases e; rfl⟩
theorem ax_f2_25 : ax_fl 2 25 2 10 := ⟨by decide, "AntsTurn$Plank", "AntsTurn$Plank", "stamps", "[I", true, ax_GT_in (i := 127) (by decide +kernel) rfl, Or.inl rfl, fun ci C T N h e => by
  refine ax_okc (P := fun ci => vwCl[ci]? = some (C, T, N) → T 10 = _) h (by decide) ?_ e
  intro c hc e
  simp at hc
  subst hc; cases e; rfl⟩
theorem ax_f2_28 : ax_fl 2 28 2 11 := ⟨by decide, "AntsTurn$Plank", "AntsTurn$Plank", "stamp", "I", false, ax_GT_in (i := 128) (by decide +kernel) rfl, Or.inl rfl, fun ci C T N h e => by
  refine ax_okc (P := fun ci => vwCl[ci]? = some (C, T, N) → T 11 = _) h (by decide) ?_ e
  intro c hc e
  simp at hc
  subst hc; cases e; rfl⟩
theorem ax_f2_63 : ax_fl 2 63 2 12 := ⟨by decide, "AntsTurn$Plank", "AntsTurn$Plank", "beat", "I", false, ax_GT_in (i := 129) (by decide +kernel) rfl, Or.inl rfl, fun ci C T N h e => by
  refine ax_okc (P := fun ci => vwCl[ci]? = some (C, T, N) → T 12 = _) h (by decide) ?_ e
  intro c hc e
  simp at hc
  subst hc; cases e; rfl⟩
theorem ax_f2_50 : ax_fl 2 50 2 13 := ⟨by decide, "AntsTurn$Plank", "AntsTurn$Plank", "asThrough", "Z", false, ax_GT_in (i := 130) (by decide +kernel) rfl, Or.inl rfl, fun ci C T N h e => by
  refine ax_okc (P := fun ci => vwCl[ci]? = some (C, T, N) → T 13 = _) h (by decide) ?_ e
  intro c hc e
  simp at hc
  subst hc; cases e; rfl⟩
theorem ax_f2_31 : ax_fl 2 31 2 14 := ⟨by decide, "AntsTurn$Plank", "AntsTurn$Plank", "leftsAt", "[I", true, ax_GT_in (i := 131) (by decide +kernel) rfl, Or.inl rfl, fun ci C T N h e => by
  refine ax_okc (P := fun ci => vwCl[ci]? = some (C, T, N) → T 14 = _) h (by decide) ?_ e
  intro c hc e
  simp at hc
  subst hc; cases e; rfl⟩
theorem ax_f2_34 : ax_fl 2 34 2 15 := ⟨by decide, "AntsTurn$Plank", "AntsTurn$Plank", "rightsAt", "[I", true, ax_GT_in (i := 132) (by decide +kernel) rfl, Or.inl rfl, fun ci C T N h e => by
  refine ax_okc (P := fun ci => vwCl[ci]? = some (C, T, N) → T 15 = _) h (by decide) ?_ e
  intro c hc e
  simp at hc
  subst hc; cases e; rfl⟩
theorem ax_f2_37 : ax_fl 2 37 2 16 := ⟨by decide, "AntsTurn$Plank", "AntsTurn$Plank", "seen", "[I", true, ax_GT_in (i := 133) (by decide +kernel) rfl, Or.inl rfl, fun ci C T N h e => by
  refine ax_okc (P := fun ci => vwCl[ci]? = some (C, T, N) → T 16 = _) h (by decide) ?_ e
  intro c hc e
  simp at hc
  subst hc; cases e; rfl⟩
theorem ax_f10_64 : ax_fl 10 64 3 0 := ⟨by decide, "AntsTurn$Tape", "AntsTurn$Tape", "size", "I", false, ax_GT_in (i := 176) (by decide +kernel) rfl, Or.inl rfl, fun ci C T N h e => by
  refine ax_okc (P := fun ci => vwCl[ci]? = some (C, T, N) → T 0 = _) h (by decide) ?_ e
  intro c hc e
  simp at hc
  subst hc; cases e; rfl⟩
theorem ax_f8_36 : ax_fl 8 36 3 0 := ⟨by decide, "AntsTurn$Tape", "AntsTurn$Tape", "size", "I", false, ax_GT_in (i := 177) (by decide +kernel) rfl, Or.inl rfl, fun ci C T N h e => by
  refine ax_okc (P := fun ci => vwCl[ci]? = some (C, T, N) → T 0 = _) h (by decide) ?_ e
  intro c hc e
  simp at hc
  subst hc; cases e; rfl⟩
theorem ax_f8_49 : ax_fl 8 49 3 1 := ⟨by decide, "AntsTurn$Tape", "AntsTurn$Tape", "fault", "I", false, ax_GT_in (i := 178) (by decide +kernel) rfl, Or.inl rfl, fun ci C T N h e => by
  refine ax_okc (P := fun ci => vwCl[ci]? = some (C, T, N) → T 1 = _) h (by decide) ?_ e
  intro c hc e
  simp at hc
  subst hc; cases e; rfl⟩
theorem ax_f10_131 : ax_fl 10 131 3 1 := ⟨by decide, "AntsTurn$Tape", "AntsTurn$Tape", "fault", "I", false, ax_GT_in (i := 179) (by decide +kernel) rfl, Or.inl rfl, fun ci C T N h e => by
  refine ax_okc (P := fun ci => vwCl[ci]? = some (C, T, N) → T 1 = _) h (by decide) ?_ e
  intro c hc e
  simp at hc
  subst hc; cases e; rfl⟩
theorem ax_f8_9 : ax_fl 8 9 3 2 := ⟨by decide, "AntsTurn$Tape", "AntsTurn$Tape", "bytes", "[I", true, ax_GT_in (i := 180) (by decide +kernel) rfl, Or.inl rfl, fun ci C T N h e => by
  refine ax_okc (P := fun ci => vwCl[ci]? = some (C, T, N) → T 2 = _) h (by decide) ?_ e
  intro c hc e
  simp at hc
  subst hc; cases e; rfl⟩
theorem ax_f8_15 : ax_fl 8 15 3 3 := ⟨by decide, "AntsTurn$Tape", "AntsTurn$Tape", "tokens", "[I", true, ax_GT_in (i := 181) (by decide +kernel) rfl, Or.inl rfl, fun ci C T N h e => by
  refine ax_okc (P := fun ci => vwCl[ci]? = some (C, T, N) → T 3 = _) h (by decide) ?_ e
  intro c hc e
  simp at hc
  subst hc; cases e; rfl⟩
theorem ax_f8_18 : ax_fl 8 18 3 4 := ⟨by decide, "AntsTurn$Tape", "AntsTurn$Tape", "places", "[I", true, ax_GT_in (i := 182) (by decide +kernel) rfl, Or.inl rfl, fun ci C T N h e => by
  refine ax_okc (P := fun ci => vwCl[ci]? = some (C, T, N) → T 4 = _) h (by decide) ?_ e
  intro c hc e
  simp at hc
  subst hc; cases e; rfl⟩
theorem ax_f8_21 : ax_fl 8 21 3 5 := ⟨by decide, "AntsTurn$Tape", "AntsTurn$Tape", "values", "[I", true, ax_GT_in (i := 183) (by decide +kernel) rfl, Or.inl rfl, fun ci C T N h e => by
  refine ax_okc (P := fun ci => vwCl[ci]? = some (C, T, N) → T 5 = _) h (by decide) ?_ e
  intro c hc e
  simp at hc
  subst hc; cases e; rfl⟩
theorem ax_f8_65 : ax_fl 8 65 3 6 := ⟨by decide, "AntsTurn$Tape", "AntsTurn$Tape", "tokenCount", "I", false, ax_GT_in (i := 184) (by decide +kernel) rfl, Or.inl rfl, fun ci C T N h e => by
  refine ax_okc (P := fun ci => vwCl[ci]? = some (C, T, N) → T 6 = _) h (by decide) ?_ e
  intro c hc e
  simp at hc
  subst hc; cases e; rfl⟩
theorem ax_f8_43 : ax_fl 8 43 3 7 := ⟨by decide, "AntsTurn$Tape", "AntsTurn$Tape", "next", "I", false, ax_GT_in (i := 185) (by decide +kernel) rfl, Or.inl rfl, fun ci C T N h e => by
  refine ax_okc (P := fun ci => vwCl[ci]? = some (C, T, N) → T 7 = _) h (by decide) ?_ e
  intro c hc e
  simp at hc
  subst hc; cases e; rfl⟩
theorem ax_f8_24 : ax_fl 8 24 3 8 := ⟨by decide, "AntsTurn$Tape", "AntsTurn$Tape", "signs", "[I", true, ax_GT_in (i := 186) (by decide +kernel) rfl, Or.inl rfl, fun ci C T N h e => by
  refine ax_okc (P := fun ci => vwCl[ci]? = some (C, T, N) → T 8 = _) h (by decide) ?_ e
  intro c hc e
  simp at hc
  subst hc; cases e; rfl⟩
theorem ax_f8_27 : ax_fl 8 27 3 9 := ⟨by decide, "AntsTurn$Tape", "AntsTurn$Tape", "firsts", "[I", true, ax_GT_in (i := 187) (by decide +kernel) rfl, Or.inl rfl, fun ci C T N h e => by
  refine ax_okc (P := fun ci => vwCl[ci]? = some (C, T, N) → T 9 = _) h (by decide) ?_ e
  intro c hc e
  simp at hc
  subst hc; cases e; rfl⟩
theorem ax_f8_30 : ax_fl 8 30 3 10 := ⟨by decide, "AntsTurn$Tape", "AntsTurn$Tape", "seconds", "[I", true, ax_GT_in (i := 188) (by decide +kernel) rfl, Or.inl rfl, fun ci C T N h e => by
  refine ax_okc (P := fun ci => vwCl[ci]? = some (C, T, N) → T 10 = _) h (by decide) ?_ e
  intro c hc e
  simp at hc
  subst hc; cases e; rfl⟩
theorem ax_f8_33 : ax_fl 8 33 3 11 := ⟨by decide, "AntsTurn$Tape", "AntsTurn$Tape", "roots", "[I", true, ax_GT_in (i := 189) (by decide +kernel) rfl, Or.inl rfl, fun ci C T N h e => by
  refine ax_okc (P := fun ci => vwCl[ci]? = some (C, T, N) → T 11 = _) h (by decide) ?_ e
  intro c hc e
  simp at hc
  subst hc; cases e; rfl⟩
theorem ax_f8_46 : ax_fl 8 46 3 12 := ⟨by decide, "AntsTurn$Tape", "AntsTurn$Tape", "nodes", "I", false, ax_GT_in (i := 190) (by decide +kernel) rfl, Or.inl rfl, fun ci C T N h e => by
  refine ax_okc (P := fun ci => vwCl[ci]? = some (C, T, N) → T 12 = _) h (by decide) ?_ e
  intro c hc e
  simp at hc
  subst hc; cases e; rfl⟩
theorem ax_f5_9 : ax_fl 5 9 4 0 := ⟨by decide, "AntsTurn$Sheet", "AntsTurn$Sheet", "sort", "I", false, ax_GT_in (i := 227) (by decide +kernel) rfl, Or.inl rfl, fun ci C T N h e => by
  refine ax_okc (P := fun ci => vwCl[ci]? = some (C, T, N) → T 0 = _) h (by decide) ?_ e
  intro c hc e
  simp at hc
  subst hc; cases e; rfl⟩
theorem ax_f10_277 : ax_fl 10 277 4 0 := ⟨by decide, "AntsTurn$Sheet", "AntsTurn$Sheet", "sort", "I", false, ax_GT_in (i := 228) (by decide +kernel) rfl, Or.inl rfl, fun ci C T N h e => by
  refine ax_okc (P := fun ci => vwCl[ci]? = some (C, T, N) → T 0 = _) h (by decide) ?_ e
  intro c hc e
  simp at hc
  subst hc; cases e; rfl⟩
theorem ax_f5_19 : ax_fl 5 19 4 1 := ⟨by decide, "AntsTurn$Sheet", "AntsTurn$Sheet", "size", "I", false, ax_GT_in (i := 229) (by decide +kernel) rfl, Or.inl rfl, fun ci C T N h e => by
  refine ax_okc (P := fun ci => vwCl[ci]? = some (C, T, N) → T 1 = _) h (by decide) ?_ e
  intro c hc e
  simp at hc
  subst hc; cases e; rfl⟩
theorem ax_f10_223 : ax_fl 10 223 4 1 := ⟨by decide, "AntsTurn$Sheet", "AntsTurn$Sheet", "size", "I", false, ax_GT_in (i := 230) (by decide +kernel) rfl, Or.inl rfl, fun ci C T N h e => by
  refine ax_okc (P := fun ci => vwCl[ci]? = some (C, T, N) → T 1 = _) h (by decide) ?_ e
  intro c hc e
  simp at hc
  subst hc; cases e; rfl⟩
theorem ax_f5_15 : ax_fl 5 15 4 2 := ⟨by decide, "AntsTurn$Sheet", "AntsTurn$Sheet", "cells", "[I", true, ax_GT_in (i := 231) (by decide +kernel) rfl, Or.inl rfl, fun ci C T N h e => by
  refine ax_okc (P := fun ci => vwCl[ci]? = some (C, T, N) → T 2 = _) h (by decide) ?_ e
  intro c hc e
  simp at hc
  subst hc; cases e; rfl⟩
theorem ax_f10_231 : ax_fl 10 231 4 2 := ⟨by decide, "AntsTurn$Sheet", "AntsTurn$Sheet", "cells", "[I", true, ax_GT_in (i := 232) (by decide +kernel) rfl, Or.inl rfl, fun ci C T N h e => by
  refine ax_okc (P := fun ci => vwCl[ci]? = some (C, T, N) → T 2 = _) h (by decide) ?_ e
  intro c hc e
  simp at hc
  subst hc; cases e; rfl⟩
theorem ax_f4_15 : ax_fl 4 15 6 0 := ⟨by decide, "AntsTurn$Rule", "AntsTurn$Rule", "signs", "[I", true, ax_GT_in (i := 411) (by decide +kernel) rfl, Or.inl rfl, fun ci C T N h e => by
  refine ax_okc (P := fun ci => vwCl[ci]? = some (C, T, N) → T 0 = _) h (by decide) ?_ e
  intro c hc e
  simp at hc
  subst hc; cases e; rfl⟩
theorem ax_f4_21 : ax_fl 4 21 6 1 := ⟨by decide, "AntsTurn$Rule", "AntsTurn$Rule", "firsts", "[I", true, ax_GT_in (i := 412) (by decide +kernel) rfl, Or.inl rfl, fun ci C T N h e => by
  refine ax_okc (P := fun ci => vwCl[ci]? = some (C, T, N) → T 1 = _) h (by decide) ?_ e
  intro c hc e
  simp at hc
  subst hc; cases e; rfl⟩
theorem ax_f4_24 : ax_fl 4 24 6 2 := ⟨by decide, "AntsTurn$Rule", "AntsTurn$Rule", "seconds", "[I", true, ax_GT_in (i := 413) (by decide +kernel) rfl, Or.inl rfl, fun ci C T N h e => by
  refine ax_okc (P := fun ci => vwCl[ci]? = some (C, T, N) → T 2 = _) h (by decide) ?_ e
  intro c hc e
  simp at hc
  subst hc; cases e; rfl⟩
theorem ax_f4_27 : ax_fl 4 27 6 3 := ⟨by decide, "AntsTurn$Rule", "AntsTurn$Rule", "roots", "[I", true, ax_GT_in (i := 414) (by decide +kernel) rfl, Or.inl rfl, fun ci C T N h e => by
  refine ax_okc (P := fun ci => vwCl[ci]? = some (C, T, N) → T 3 = _) h (by decide) ?_ e
  intro c hc e
  simp at hc
  subst hc; cases e; rfl⟩
theorem ax_f4_30 : ax_fl 4 30 6 4 := ⟨by decide, "AntsTurn$Rule", "AntsTurn$Rule", "worths", "[I", true, ax_GT_in (i := 415) (by decide +kernel) rfl, Or.inl rfl, fun ci C T N h e => by
  refine ax_okc (P := fun ci => vwCl[ci]? = some (C, T, N) → T 4 = _) h (by decide) ?_ e
  intro c hc e
  simp at hc
  subst hc; cases e; rfl⟩
theorem ax_f10_10 : ax_fl 10 10 1 0 := ⟨by decide, "AntsTurn", "AntsTurn", "board", "LAntsTurn$Plank;", true, ax_GT_in (i := 428) (by decide +kernel) rfl, Or.inl rfl, fun ci C T N h e => by
  refine ax_okc (P := fun ci => vwCl[ci]? = some (C, T, N) → T 0 = _) h (by decide) ?_ e
  intro c hc e
  simp at hc
  subst hc; cases e; rfl⟩
theorem ax_f10_19 : ax_fl 10 19 1 1 := ⟨by decide, "AntsTurn", "AntsTurn", "tape", "LAntsTurn$Tape;", true, ax_GT_in (i := 429) (by decide +kernel) rfl, Or.inl rfl, fun ci C T N h e => by
  refine ax_okc (P := fun ci => vwCl[ci]? = some (C, T, N) → T 1 = _) h (by decide) ?_ e
  intro c hc e
  simp at hc
  subst hc; cases e; rfl⟩
theorem ax_f10_25 : ax_fl 10 25 1 2 := ⟨by decide, "AntsTurn", "AntsTurn", "rules", "[LAntsTurn$Rule;", true, ax_GT_in (i := 430) (by decide +kernel) rfl, Or.inl rfl, fun ci C T N h e => by
  refine ax_okc (P := fun ci => vwCl[ci]? = some (C, T, N) → T 2 = _) h (by decide) ?_ e
  intro c hc e
  simp at hc
  subst hc; cases e; rfl⟩
theorem ax_f10_31 : ax_fl 10 31 1 3 := ⟨by decide, "AntsTurn", "AntsTurn", "sheets", "[LAntsTurn$Sheet;", true, ax_GT_in (i := 431) (by decide +kernel) rfl, Or.inl rfl, fun ci C T N h e => by
  refine ax_okc (P := fun ci => vwCl[ci]? = some (C, T, N) → T 3 = _) h (by decide) ?_ e
  intro c hc e
  simp at hc
  subst hc; cases e; rfl⟩
theorem ax_f10_67 : ax_fl 10 67 1 4 := ⟨by decide, "AntsTurn", "AntsTurn", "ruleCount", "I", false, ax_GT_in (i := 432) (by decide +kernel) rfl, Or.inl rfl, fun ci C T N h e => by
  refine ax_okc (P := fun ci => vwCl[ci]? = some (C, T, N) → T 4 = _) h (by decide) ?_ e
  intro c hc e
  simp at hc
  subst hc; cases e; rfl⟩
theorem ax_f10_134 : ax_fl 10 134 1 5 := ⟨by decide, "AntsTurn", "AntsTurn", "ruleNumber", "I", false, ax_GT_in (i := 433) (by decide +kernel) rfl, Or.inl rfl, fun ci C T N h e => by
  refine ax_okc (P := fun ci => vwCl[ci]? = some (C, T, N) → T 5 = _) h (by decide) ?_ e
  intro c hc e
  simp at hc
  subst hc; cases e; rfl⟩
theorem ax_f10_35 : ax_fl 10 35 1 6 := ⟨by decide, "AntsTurn", "AntsTurn", "keptSize", "I", false, ax_GT_in (i := 434) (by decide +kernel) rfl, Or.inl rfl, fun ci C T N h e => by
  refine ax_okc (P := fun ci => vwCl[ci]? = some (C, T, N) → T 6 = _) h (by decide) ?_ e
  intro c hc e
  simp at hc
  subst hc; cases e; rfl⟩
theorem ax_f10_252 : ax_fl 10 252 1 7 := ⟨by decide, "AntsTurn", "AntsTurn", "keptLong", "I", false, ax_GT_in (i := 435) (by decide +kernel) rfl, Or.inl rfl, fun ci C T N h e => by
  refine ax_okc (P := fun ci => vwCl[ci]? = some (C, T, N) → T 7 = _) h (by decide) ?_ e
  intro c hc e
  simp at hc
  subst hc; cases e; rfl⟩
theorem ax_f10_255 : ax_fl 10 255 1 8 := ⟨by decide, "AntsTurn", "AntsTurn", "keptRing", "I", false, ax_GT_in (i := 436) (by decide +kernel) rfl, Or.inl rfl, fun ci C T N h e => by
  refine ax_okc (P := fun ci => vwCl[ci]? = some (C, T, N) → T 8 = _) h (by decide) ?_ e
  intro c hc e
  simp at hc
  subst hc; cases e; rfl⟩
theorem ax_f10_258 : ax_fl 10 258 1 9 := ⟨by decide, "AntsTurn", "AntsTurn", "keptRule", "I", false, ax_GT_in (i := 437) (by decide +kernel) rfl, Or.inl rfl, fun ci C T N h e => by
  refine ax_okc (P := fun ci => vwCl[ci]? = some (C, T, N) → T 9 = _) h (by decide) ?_ e
  intro c hc e
  simp at hc
  subst hc; cases e; rfl⟩
theorem ax_f0_9 : ax_fl 0 9 5 0 := ⟨by decide, "AntsTurn$Ant", "AntsTurn$Ant", "traits", "[I", true, ax_GT_in (i := 495) (by decide +kernel) rfl, Or.inl rfl, fun ci C T N h e => by
  refine ax_okc (P := fun ci => vwCl[ci]? = some (C, T, N) → T 0 = _) h (by decide) ?_ e
  intro c hc e
  simp at hc
  rcases hc with rfl | rfl | rfl | rfl | rfl | rfl <;> cases e <;> rfl⟩
theorem ax_f3_15 : ax_fl 3 15 5 0 := ⟨by decide, "AntsTurn$Proud", "AntsTurn$Ant", "traits", "[I", true, ax_GT_in (i := 496) (by decide +kernel) rfl, Or.inr (ax_GT_in (i := 497) (by decide +kernel) rfl), fun ci C T N h e => by
  refine ax_okc (P := fun ci => vwCl[ci]? = some (C, T, N) → T 0 = _) h (by decide) ?_ e
  intro c hc e
  simp at hc
  rcases hc with rfl | rfl | rfl | rfl | rfl | rfl <;> cases e <;> rfl⟩
theorem ax_f9_15 : ax_fl 9 15 5 0 := ⟨by decide, "AntsTurn$Tired", "AntsTurn$Ant", "traits", "[I", true, ax_GT_in (i := 498) (by decide +kernel) rfl, Or.inr (ax_GT_in (i := 499) (by decide +kernel) rfl), fun ci C T N h e => by
  refine ax_okc (P := fun ci => vwCl[ci]? = some (C, T, N) → T 0 = _) h (by decide) ?_ e
  intro c hc e
  simp at hc
  rcases hc with rfl | rfl | rfl | rfl | rfl | rfl <;> cases e <;> rfl⟩
theorem ax_f6_15 : ax_fl 6 15 5 0 := ⟨by decide, "AntsTurn$Shy", "AntsTurn$Ant", "traits", "[I", true, ax_GT_in (i := 500) (by decide +kernel) rfl, Or.inr (ax_GT_in (i := 501) (by decide +kernel) rfl), fun ci C T N h e => by
  refine ax_okc (P := fun ci => vwCl[ci]? = some (C, T, N) → T 0 = _) h (by decide) ?_ e
  intro c hc e
  simp at hc
  rcases hc with rfl | rfl | rfl | rfl | rfl | rfl <;> cases e <;> rfl⟩
theorem ax_f10_85 : ax_fl 10 85 5 0 := ⟨by decide, "AntsTurn$Ant", "AntsTurn$Ant", "traits", "[I", true, ax_GT_in (i := 502) (by decide +kernel) rfl, Or.inl rfl, fun ci C T N h e => by
  refine ax_okc (P := fun ci => vwCl[ci]? = some (C, T, N) → T 0 = _) h (by decide) ?_ e
  intro c hc e
  simp at hc
  rcases hc with rfl | rfl | rfl | rfl | rfl | rfl <;> cases e <;> rfl⟩
theorem ax_f1_23 : ax_fl 1 23 5 0 := ⟨by decide, "AntsTurn$Edgy", "AntsTurn$Ant", "traits", "[I", true, ax_GT_in (i := 503) (by decide +kernel) rfl, Or.inr (ax_GT_in (i := 504) (by decide +kernel) rfl), fun ci C T N h e => by
  refine ax_okc (P := fun ci => vwCl[ci]? = some (C, T, N) → T 0 = _) h (by decide) ?_ e
  intro c hc e
  simp at hc
  rcases hc with rfl | rfl | rfl | rfl | rfl | rfl <;> cases e <;> rfl⟩
theorem ax_f2_43 : ax_fl 2 43 5 0 := ⟨by decide, "AntsTurn$Ant", "AntsTurn$Ant", "traits", "[I", true, ax_GT_in (i := 505) (by decide +kernel) rfl, Or.inl rfl, fun ci C T N h e => by
  refine ax_okc (P := fun ci => vwCl[ci]? = some (C, T, N) → T 0 = _) h (by decide) ?_ e
  intro c hc e
  simp at hc
  rcases hc with rfl | rfl | rfl | rfl | rfl | rfl <;> cases e <;> rfl⟩
theorem ax_f0_15 : ax_fl 0 15 5 1 := ⟨by decide, "AntsTurn$Ant", "AntsTurn$Ant", "kept", "[I", true, ax_GT_in (i := 506) (by decide +kernel) rfl, Or.inl rfl, fun ci C T N h e => by
  refine ax_okc (P := fun ci => vwCl[ci]? = some (C, T, N) → T 1 = _) h (by decide) ?_ e
  intro c hc e
  simp at hc
  rcases hc with rfl | rfl | rfl | rfl | rfl | rfl <;> cases e <;> rfl⟩
theorem ax_f0_18 : ax_fl 0 18 5 2 := ⟨by decide, "AntsTurn$Ant", "AntsTurn$Ant", "on", "Z", false, ax_GT_in (i := 507) (by decide +kernel) rfl, Or.inl rfl, fun ci C T N h e => by
  refine ax_okc (P := fun ci => vwCl[ci]? = some (C, T, N) → T 2 = _) h (by decide) ?_ e
  intro c hc e
  simp at hc
  rcases hc with rfl | rfl | rfl | rfl | rfl | rfl <;> cases e <;> rfl⟩
theorem ax_f2_90 : ax_fl 2 90 5 2 := ⟨by decide, "AntsTurn$Ant", "AntsTurn$Ant", "on", "Z", false, ax_GT_in (i := 508) (by decide +kernel) rfl, Or.inl rfl, fun ci C T N h e => by
  refine ax_okc (P := fun ci => vwCl[ci]? = some (C, T, N) → T 2 = _) h (by decide) ?_ e
  intro c hc e
  simp at hc
  rcases hc with rfl | rfl | rfl | rfl | rfl | rfl <;> cases e <;> rfl⟩
theorem ax_f10_166 : ax_fl 10 166 5 2 := ⟨by decide, "AntsTurn$Ant", "AntsTurn$Ant", "on", "Z", false, ax_GT_in (i := 509) (by decide +kernel) rfl, Or.inl rfl, fun ci C T N h e => by
  refine ax_okc (P := fun ci => vwCl[ci]? = some (C, T, N) → T 2 = _) h (by decide) ?_ e
  intro c hc e
  simp at hc
  rcases hc with rfl | rfl | rfl | rfl | rfl | rfl <;> cases e <;> rfl⟩
theorem ax_f0_22 : ax_fl 0 22 5 3 := ⟨by decide, "AntsTurn$Ant", "AntsTurn$Ant", "place", "I", false, ax_GT_in (i := 510) (by decide +kernel) rfl, Or.inl rfl, fun ci C T N h e => by
  refine ax_okc (P := fun ci => vwCl[ci]? = some (C, T, N) → T 3 = _) h (by decide) ?_ e
  intro c hc e
  simp at hc
  rcases hc with rfl | rfl | rfl | rfl | rfl | rfl <;> cases e <;> rfl⟩
theorem ax_f2_93 : ax_fl 2 93 5 3 := ⟨by decide, "AntsTurn$Ant", "AntsTurn$Ant", "place", "I", false, ax_GT_in (i := 511) (by decide +kernel) rfl, Or.inl rfl, fun ci C T N h e => by
  refine ax_okc (P := fun ci => vwCl[ci]? = some (C, T, N) → T 3 = _) h (by decide) ?_ e
  intro c hc e
  simp at hc
  rcases hc with rfl | rfl | rfl | rfl | rfl | rfl <;> cases e <;> rfl⟩
theorem ax_f10_170 : ax_fl 10 170 5 3 := ⟨by decide, "AntsTurn$Ant", "AntsTurn$Ant", "place", "I", false, ax_GT_in (i := 512) (by decide +kernel) rfl, Or.inl rfl, fun ci C T N h e => by
  refine ax_okc (P := fun ci => vwCl[ci]? = some (C, T, N) → T 3 = _) h (by decide) ?_ e
  intro c hc e
  simp at hc
  rcases hc with rfl | rfl | rfl | rfl | rfl | rfl <;> cases e <;> rfl⟩
theorem ax_f0_26 : ax_fl 0 26 5 4 := ⟨by decide, "AntsTurn$Ant", "AntsTurn$Ant", "left", "I", false, ax_GT_in (i := 513) (by decide +kernel) rfl, Or.inl rfl, fun ci C T N h e => by
  refine ax_okc (P := fun ci => vwCl[ci]? = some (C, T, N) → T 4 = _) h (by decide) ?_ e
  intro c hc e
  simp at hc
  rcases hc with rfl | rfl | rfl | rfl | rfl | rfl <;> cases e <;> rfl⟩
theorem ax_f2_96 : ax_fl 2 96 5 4 := ⟨by decide, "AntsTurn$Ant", "AntsTurn$Ant", "left", "I", false, ax_GT_in (i := 514) (by decide +kernel) rfl, Or.inl rfl, fun ci C T N h e => by
  refine ax_okc (P := fun ci => vwCl[ci]? = some (C, T, N) → T 4 = _) h (by decide) ?_ e
  intro c hc e
  simp at hc
  rcases hc with rfl | rfl | rfl | rfl | rfl | rfl <;> cases e <;> rfl⟩
theorem ax_f10_173 : ax_fl 10 173 5 4 := ⟨by decide, "AntsTurn$Ant", "AntsTurn$Ant", "left", "I", false, ax_GT_in (i := 515) (by decide +kernel) rfl, Or.inl rfl, fun ci C T N h e => by
  refine ax_okc (P := fun ci => vwCl[ci]? = some (C, T, N) → T 4 = _) h (by decide) ?_ e
  intro c hc e
  simp at hc
  rcases hc with rfl | rfl | rfl | rfl | rfl | rfl <;> cases e <;> rfl⟩
theorem ax_f3_9 : ax_fl 3 9 5 5 := ⟨by decide, "AntsTurn$Proud", "AntsTurn$Ant", "met", "I", false, ax_GT_in (i := 516) (by decide +kernel) rfl, Or.inr (ax_GT_in (i := 517) (by decide +kernel) rfl), fun ci C T N h e => by
  refine ax_okc (P := fun ci => vwCl[ci]? = some (C, T, N) → T 5 = _) h (by decide) ?_ e
  intro c hc e
  simp at hc
  rcases hc with rfl | rfl | rfl | rfl | rfl | rfl <;> cases e <;> rfl⟩
theorem ax_f9_9 : ax_fl 9 9 5 5 := ⟨by decide, "AntsTurn$Tired", "AntsTurn$Ant", "met", "I", false, ax_GT_in (i := 518) (by decide +kernel) rfl, Or.inr (ax_GT_in (i := 519) (by decide +kernel) rfl), fun ci C T N h e => by
  refine ax_okc (P := fun ci => vwCl[ci]? = some (C, T, N) → T 5 = _) h (by decide) ?_ e
  intro c hc e
  simp at hc
  rcases hc with rfl | rfl | rfl | rfl | rfl | rfl <;> cases e <;> rfl⟩
theorem ax_f0_29 : ax_fl 0 29 5 5 := ⟨by decide, "AntsTurn$Ant", "AntsTurn$Ant", "met", "I", false, ax_GT_in (i := 520) (by decide +kernel) rfl, Or.inl rfl, fun ci C T N h e => by
  refine ax_okc (P := fun ci => vwCl[ci]? = some (C, T, N) → T 5 = _) h (by decide) ?_ e
  intro c hc e
  simp at hc
  rcases hc with rfl | rfl | rfl | rfl | rfl | rfl <;> cases e <;> rfl⟩
theorem ax_f2_141 : ax_fl 2 141 5 5 := ⟨by decide, "AntsTurn$Ant", "AntsTurn$Ant", "met", "I", false, ax_GT_in (i := 521) (by decide +kernel) rfl, Or.inl rfl, fun ci C T N h e => by
  refine ax_okc (P := fun ci => vwCl[ci]? = some (C, T, N) → T 5 = _) h (by decide) ?_ e
  intro c hc e
  simp at hc
  rcases hc with rfl | rfl | rfl | rfl | rfl | rfl <;> cases e <;> rfl⟩
theorem ax_f10_151 : ax_fl 10 151 5 5 := ⟨by decide, "AntsTurn$Ant", "AntsTurn$Ant", "met", "I", false, ax_GT_in (i := 522) (by decide +kernel) rfl, Or.inl rfl, fun ci C T N h e => by
  refine ax_okc (P := fun ci => vwCl[ci]? = some (C, T, N) → T 5 = _) h (by decide) ?_ e
  intro c hc e
  simp at hc
  rcases hc with rfl | rfl | rfl | rfl | rfl | rfl <;> cases e <;> rfl⟩
theorem ax_f0_32 : ax_fl 0 32 5 6 := ⟨by decide, "AntsTurn$Ant", "AntsTurn$Ant", "turned", "I", false, ax_GT_in (i := 523) (by decide +kernel) rfl, Or.inl rfl, fun ci C T N h e => by
  refine ax_okc (P := fun ci => vwCl[ci]? = some (C, T, N) → T 6 = _) h (by decide) ?_ e
  intro c hc e
  simp at hc
  rcases hc with rfl | rfl | rfl | rfl | rfl | rfl <;> cases e <;> rfl⟩
theorem ax_f10_154 : ax_fl 10 154 5 6 := ⟨by decide, "AntsTurn$Ant", "AntsTurn$Ant", "turned", "I", false, ax_GT_in (i := 524) (by decide +kernel) rfl, Or.inl rfl, fun ci C T N h e => by
  refine ax_okc (P := fun ci => vwCl[ci]? = some (C, T, N) → T 6 = _) h (by decide) ?_ e
  intro c hc e
  simp at hc
  rcases hc with rfl | rfl | rfl | rfl | rfl | rfl <;> cases e <;> rfl⟩
theorem ax_f1_9 : ax_fl 1 9 5 7 := ⟨by decide, "AntsTurn$Edgy", "AntsTurn$Ant", "returned", "I", false, ax_GT_in (i := 525) (by decide +kernel) rfl, Or.inr (ax_GT_in (i := 526) (by decide +kernel) rfl), fun ci C T N h e => by
  refine ax_okc (P := fun ci => vwCl[ci]? = some (C, T, N) → T 7 = _) h (by decide) ?_ e
  intro c hc e
  simp at hc
  rcases hc with rfl | rfl | rfl | rfl | rfl | rfl <;> cases e <;> rfl⟩
theorem ax_f6_9 : ax_fl 6 9 5 7 := ⟨by decide, "AntsTurn$Shy", "AntsTurn$Ant", "returned", "I", false, ax_GT_in (i := 527) (by decide +kernel) rfl, Or.inr (ax_GT_in (i := 528) (by decide +kernel) rfl), fun ci C T N h e => by
  refine ax_okc (P := fun ci => vwCl[ci]? = some (C, T, N) → T 7 = _) h (by decide) ?_ e
  intro c hc e
  simp at hc
  rcases hc with rfl | rfl | rfl | rfl | rfl | rfl <;> cases e <;> rfl⟩
theorem ax_f3_23 : ax_fl 3 23 5 7 := ⟨by decide, "AntsTurn$Proud", "AntsTurn$Ant", "returned", "I", false, ax_GT_in (i := 529) (by decide +kernel) rfl, Or.inr (ax_GT_in (i := 530) (by decide +kernel) rfl), fun ci C T N h e => by
  refine ax_okc (P := fun ci => vwCl[ci]? = some (C, T, N) → T 7 = _) h (by decide) ?_ e
  intro c hc e
  simp at hc
  rcases hc with rfl | rfl | rfl | rfl | rfl | rfl <;> cases e <;> rfl⟩
theorem ax_f0_35 : ax_fl 0 35 5 7 := ⟨by decide, "AntsTurn$Ant", "AntsTurn$Ant", "returned", "I", false, ax_GT_in (i := 531) (by decide +kernel) rfl, Or.inl rfl, fun ci C T N h e => by
  refine ax_okc (P := fun ci => vwCl[ci]? = some (C, T, N) → T 7 = _) h (by decide) ?_ e
  intro c hc e
  simp at hc
  rcases hc with rfl | rfl | rfl | rfl | rfl | rfl <;> cases e <;> rfl⟩
theorem ax_f2_150 : ax_fl 2 150 5 7 := ⟨by decide, "AntsTurn$Ant", "AntsTurn$Ant", "returned", "I", false, ax_GT_in (i := 532) (by decide +kernel) rfl, Or.inl rfl, fun ci C T N h e => by
  refine ax_okc (P := fun ci => vwCl[ci]? = some (C, T, N) → T 7 = _) h (by decide) ?_ e
  intro c hc e
  simp at hc
  rcases hc with rfl | rfl | rfl | rfl | rfl | rfl <;> cases e <;> rfl⟩
theorem ax_f0_38 : ax_fl 0 38 5 8 := ⟨by decide, "AntsTurn$Ant", "AntsTurn$Ant", "heat", "I", false, ax_GT_in (i := 533) (by decide +kernel) rfl, Or.inl rfl, fun ci C T N h e => by
  refine ax_okc (P := fun ci => vwCl[ci]? = some (C, T, N) → T 8 = _) h (by decide) ?_ e
  intro c hc e
  simp at hc
  rcases hc with rfl | rfl | rfl | rfl | rfl | rfl <;> cases e <;> rfl⟩
theorem ax_f2_129 : ax_fl 2 129 5 8 := ⟨by decide, "AntsTurn$Ant", "AntsTurn$Ant", "heat", "I", false, ax_GT_in (i := 534) (by decide +kernel) rfl, Or.inl rfl, fun ci C T N h e => by
  refine ax_okc (P := fun ci => vwCl[ci]? = some (C, T, N) → T 8 = _) h (by decide) ?_ e
  intro c hc e
  simp at hc
  rcases hc with rfl | rfl | rfl | rfl | rfl | rfl <;> cases e <;> rfl⟩
theorem ax_f10_157 : ax_fl 10 157 5 8 := ⟨by decide, "AntsTurn$Ant", "AntsTurn$Ant", "heat", "I", false, ax_GT_in (i := 535) (by decide +kernel) rfl, Or.inl rfl, fun ci C T N h e => by
  refine ax_okc (P := fun ci => vwCl[ci]? = some (C, T, N) → T 8 = _) h (by decide) ?_ e
  intro c hc e
  simp at hc
  rcases hc with rfl | rfl | rfl | rfl | rfl | rfl <;> cases e <;> rfl⟩
theorem ax_f0_41 : ax_fl 0 41 5 9 := ⟨by decide, "AntsTurn$Ant", "AntsTurn$Ant", "off", "I", false, ax_GT_in (i := 536) (by decide +kernel) rfl, Or.inl rfl, fun ci C T N h e => by
  refine ax_okc (P := fun ci => vwCl[ci]? = some (C, T, N) → T 9 = _) h (by decide) ?_ e
  intro c hc e
  simp at hc
  rcases hc with rfl | rfl | rfl | rfl | rfl | rfl <;> cases e <;> rfl⟩
theorem ax_f10_145 : ax_fl 10 145 5 9 := ⟨by decide, "AntsTurn$Ant", "AntsTurn$Ant", "off", "I", false, ax_GT_in (i := 537) (by decide +kernel) rfl, Or.inl rfl, fun ci C T N h e => by
  refine ax_okc (P := fun ci => vwCl[ci]? = some (C, T, N) → T 9 = _) h (by decide) ?_ e
  intro c hc e
  simp at hc
  rcases hc with rfl | rfl | rfl | rfl | rfl | rfl <;> cases e <;> rfl⟩
theorem ax_f2_165 : ax_fl 2 165 5 9 := ⟨by decide, "AntsTurn$Ant", "AntsTurn$Ant", "off", "I", false, ax_GT_in (i := 538) (by decide +kernel) rfl, Or.inl rfl, fun ci C T N h e => by
  refine ax_okc (P := fun ci => vwCl[ci]? = some (C, T, N) → T 9 = _) h (by decide) ?_ e
  intro c hc e
  simp at hc
  rcases hc with rfl | rfl | rfl | rfl | rfl | rfl <;> cases e <;> rfl⟩
theorem ax_f0_44 : ax_fl 0 44 5 10 := ⟨by decide, "AntsTurn$Ant", "AntsTurn$Ant", "end", "I", false, ax_GT_in (i := 539) (by decide +kernel) rfl, Or.inl rfl, fun ci C T N h e => by
  refine ax_okc (P := fun ci => vwCl[ci]? = some (C, T, N) → T 10 = _) h (by decide) ?_ e
  intro c hc e
  simp at hc
  rcases hc with rfl | rfl | rfl | rfl | rfl | rfl <;> cases e <;> rfl⟩
theorem ax_f10_148 : ax_fl 10 148 5 10 := ⟨by decide, "AntsTurn$Ant", "AntsTurn$Ant", "end", "I", false, ax_GT_in (i := 540) (by decide +kernel) rfl, Or.inl rfl, fun ci C T N h e => by
  refine ax_okc (P := fun ci => vwCl[ci]? = some (C, T, N) → T 10 = _) h (by decide) ?_ e
  intro c hc e
  simp at hc
  rcases hc with rfl | rfl | rfl | rfl | rfl | rfl <;> cases e <;> rfl⟩
theorem ax_f0_47 : ax_fl 0 47 5 11 := ⟨by decide, "AntsTurn$Ant", "AntsTurn$Ant", "notedPlace", "I", false, ax_GT_in (i := 541) (by decide +kernel) rfl, Or.inl rfl, fun ci C T N h e => by
  refine ax_okc (P := fun ci => vwCl[ci]? = some (C, T, N) → T 11 = _) h (by decide) ?_ e
  intro c hc e
  simp at hc
  rcases hc with rfl | rfl | rfl | rfl | rfl | rfl <;> cases e <;> rfl⟩
theorem ax_f0_50 : ax_fl 0 50 5 12 := ⟨by decide, "AntsTurn$Ant", "AntsTurn$Ant", "notedLeft", "I", false, ax_GT_in (i := 542) (by decide +kernel) rfl, Or.inl rfl, fun ci C T N h e => by
  refine ax_okc (P := fun ci => vwCl[ci]? = some (C, T, N) → T 12 = _) h (by decide) ?_ e
  intro c hc e
  simp at hc
  rcases hc with rfl | rfl | rfl | rfl | rfl | rfl <;> cases e <;> rfl⟩
theorem ax_f11_11 : ax_fl 11 11 50 0 := ⟨by decide, "AntsTurnModel", "AntsTurnModel", "knots", "I", false, ax_GT_in (i := 1195) (by decide +kernel) rfl, Or.inl rfl, fun ci C T N h e => by
  refine ax_okc (P := fun ci => vwCl[ci]? = some (C, T, N) → T 0 = _) h (by decide) ?_ e
  intro c hc e
  simp at hc
  subst hc; cases e; rfl⟩
theorem ax_f11_14 : ax_fl 11 14 50 1 := ⟨by decide, "AntsTurnModel", "AntsTurnModel", "ring", "I", false, ax_GT_in (i := 1196) (by decide +kernel) rfl, Or.inl rfl, fun ci C T N h e => by
  refine ax_okc (P := fun ci => vwCl[ci]? = some (C, T, N) → T 1 = _) h (by decide) ?_ e
  intro c hc e
  simp at hc
  subst hc; cases e; rfl⟩
theorem ax_f11_1 : ax_fl 11 1 50 2 := ⟨by decide, "AntsTurnModel", "AntsTurnModel", "ants", "I", false, ax_GT_in (i := 1197) (by decide +kernel) rfl, Or.inl rfl, fun ci C T N h e => by
  refine ax_okc (P := fun ci => vwCl[ci]? = some (C, T, N) → T 2 = _) h (by decide) ?_ e
  intro c hc e
  simp at hc
  subst hc; cases e; rfl⟩
theorem ax_f11_21 : ax_fl 11 21 50 3 := ⟨by decide, "AntsTurnModel", "AntsTurnModel", "kind", "[I", true, ax_GT_in (i := 1198) (by decide +kernel) rfl, Or.inl rfl, fun ci C T N h e => by
  refine ax_okc (P := fun ci => vwCl[ci]? = some (C, T, N) → T 3 = _) h (by decide) ?_ e
  intro c hc e
  simp at hc
  subst hc; cases e; rfl⟩
theorem ax_f11_17 : ax_fl 11 17 50 4 := ⟨by decide, "AntsTurnModel", "AntsTurnModel", "knot", "[I", true, ax_GT_in (i := 1199) (by decide +kernel) rfl, Or.inl rfl, fun ci C T N h e => by
  refine ax_okc (P := fun ci => vwCl[ci]? = some (C, T, N) → T 4 = _) h (by decide) ?_ e
  intro c hc e
  simp at hc
  subst hc; cases e; rfl⟩
theorem ax_f11_24 : ax_fl 11 24 50 5 := ⟨by decide, "AntsTurnModel", "AntsTurnModel", "left", "[I", true, ax_GT_in (i := 1200) (by decide +kernel) rfl, Or.inl rfl, fun ci C T N h e => by
  refine ax_okc (P := fun ci => vwCl[ci]? = some (C, T, N) → T 5 = _) h (by decide) ?_ e
  intro c hc e
  simp at hc
  subst hc; cases e; rfl⟩
theorem ax_f11_27 : ax_fl 11 27 50 6 := ⟨by decide, "AntsTurnModel", "AntsTurnModel", "start", "[I", true, ax_GT_in (i := 1201) (by decide +kernel) rfl, Or.inl rfl, fun ci C T N h e => by
  refine ax_okc (P := fun ci => vwCl[ci]? = some (C, T, N) → T 6 = _) h (by decide) ?_ e
  intro c hc e
  simp at hc
  subst hc; cases e; rfl⟩
theorem ax_f11_30 : ax_fl 11 30 50 7 := ⟨by decide, "AntsTurnModel", "AntsTurnModel", "number", "[I", true, ax_GT_in (i := 1202) (by decide +kernel) rfl, Or.inl rfl, fun ci C T N h e => by
  refine ax_okc (P := fun ci => vwCl[ci]? = some (C, T, N) → T 7 = _) h (by decide) ?_ e
  intro c hc e
  simp at hc
  subst hc; cases e; rfl⟩
theorem ax_f11_48 : ax_fl 11 48 50 8 := ⟨by decide, "AntsTurnModel", "AntsTurnModel", "tape", "[I", true, ax_GT_in (i := 1203) (by decide +kernel) rfl, Or.inl rfl, fun ci C T N h e => by
  refine ax_okc (P := fun ci => vwCl[ci]? = some (C, T, N) → T 8 = _) h (by decide) ?_ e
  intro c hc e
  simp at hc
  subst hc; cases e; rfl⟩
theorem ax_f11_45 : ax_fl 11 45 50 9 := ⟨by decide, "AntsTurnModel", "AntsTurnModel", "taped", "I", false, ax_GT_in (i := 1204) (by decide +kernel) rfl, Or.inl rfl, fun ci C T N h e => by
  refine ax_okc (P := fun ci => vwCl[ci]? = some (C, T, N) → T 9 = _) h (by decide) ?_ e
  intro c hc e
  simp at hc
  subst hc; cases e; rfl⟩
theorem ax_f11_147 : ax_fl 11 147 50 10 := ⟨by decide, "AntsTurnModel", "AntsTurnModel", "texts", "I", false, ax_GT_in (i := 1205) (by decide +kernel) rfl, Or.inl rfl, fun ci C T N h e => by
  refine ax_okc (P := fun ci => vwCl[ci]? = some (C, T, N) → T 10 = _) h (by decide) ?_ e
  intro c hc e
  simp at hc
  subst hc; cases e; rfl⟩
theorem ax_f11_153 : ax_fl 11 153 50 11 := ⟨by decide, "AntsTurnModel", "AntsTurnModel", "rule", "I", false, ax_GT_in (i := 1206) (by decide +kernel) rfl, Or.inl rfl, fun ci C T N h e => by
  refine ax_okc (P := fun ci => vwCl[ci]? = some (C, T, N) → T 11 = _) h (by decide) ?_ e
  intro c hc e
  simp at hc
  subst hc; cases e; rfl⟩
theorem ax_f11_83 : ax_fl 11 83 50 12 := ⟨by decide, "AntsTurnModel", "AntsTurnModel", "codes", "[I", true, ax_GT_in (i := 1207) (by decide +kernel) rfl, Or.inl rfl, fun ci C T N h e => by
  refine ax_okc (P := fun ci => vwCl[ci]? = some (C, T, N) → T 12 = _) h (by decide) ?_ e
  intro c hc e
  simp at hc
  subst hc; cases e; rfl⟩
theorem ax_f11_131 : ax_fl 11 131 50 13 := ⟨by decide, "AntsTurnModel", "AntsTurnModel", "codeMany", "[I", true, ax_GT_in (i := 1208) (by decide +kernel) rfl, Or.inl rfl, fun ci C T N h e => by
  refine ax_okc (P := fun ci => vwCl[ci]? = some (C, T, N) → T 13 = _) h (by decide) ?_ e
  intro c hc e
  simp at hc
  subst hc; cases e; rfl⟩
theorem ax_f11_51 : ax_fl 11 51 50 14 := ⟨by decide, "AntsTurnModel", "AntsTurnModel", "at", "I", false, ax_GT_in (i := 1209) (by decide +kernel) rfl, Or.inl rfl, fun ci C T N h e => by
  refine ax_okc (P := fun ci => vwCl[ci]? = some (C, T, N) → T 14 = _) h (by decide) ?_ e
  intro c hc e
  simp at hc
  subst hc; cases e; rfl⟩
theorem ax_f11_57 : ax_fl 11 57 50 15 := ⟨by decide, "AntsTurnModel", "AntsTurnModel", "token", "I", false, ax_GT_in (i := 1210) (by decide +kernel) rfl, Or.inl rfl, fun ci C T N h e => by
  refine ax_okc (P := fun ci => vwCl[ci]? = some (C, T, N) → T 15 = _) h (by decide) ?_ e
  intro c hc e
  simp at hc
  subst hc; cases e; rfl⟩
theorem ax_f11_70 : ax_fl 11 70 50 16 := ⟨by decide, "AntsTurnModel", "AntsTurnModel", "worth", "I", false, ax_GT_in (i := 1211) (by decide +kernel) rfl, Or.inl rfl, fun ci C T N h e => by
  refine ax_okc (P := fun ci => vwCl[ci]? = some (C, T, N) → T 16 = _) h (by decide) ?_ e
  intro c hc e
  simp at hc
  subst hc; cases e; rfl⟩
theorem ax_f11_63 : ax_fl 11 63 50 17 := ⟨by decide, "AntsTurnModel", "AntsTurnModel", "place", "I", false, ax_GT_in (i := 1212) (by decide +kernel) rfl, Or.inl rfl, fun ci C T N h e => by
  refine ax_okc (P := fun ci => vwCl[ci]? = some (C, T, N) → T 17 = _) h (by decide) ?_ e
  intro c hc e
  simp at hc
  subst hc; cases e; rfl⟩
theorem ax_f11_66 : ax_fl 11 66 50 18 := ⟨by decide, "AntsTurnModel", "AntsTurnModel", "letters", "[C", true, ax_GT_in (i := 1213) (by decide +kernel) rfl, Or.inl rfl, fun ci C T N h e => by
  refine ax_okc (P := fun ci => vwCl[ci]? = some (C, T, N) → T 18 = _) h (by decide) ?_ e
  intro c hc e
  simp at hc
  subst hc; cases e; rfl⟩
theorem ax_f11_60 : ax_fl 11 60 50 19 := ⟨by decide, "AntsTurnModel", "AntsTurnModel", "begins", "[I", true, ax_GT_in (i := 1214) (by decide +kernel) rfl, Or.inl rfl, fun ci C T N h e => by
  refine ax_okc (P := fun ci => vwCl[ci]? = some (C, T, N) → T 19 = _) h (by decide) ?_ e
  intro c hc e
  simp at hc
  subst hc; cases e; rfl⟩
theorem ax_f11_95 : ax_fl 11 95 50 20 := ⟨by decide, "AntsTurnModel", "AntsTurnModel", "waits", "[I", true, ax_GT_in (i := 1215) (by decide +kernel) rfl, Or.inl rfl, fun ci C T N h e => by
  refine ax_okc (P := fun ci => vwCl[ci]? = some (C, T, N) → T 20 = _) h (by decide) ?_ e
  intro c hc e
  simp at hc
  subst hc; cases e; rfl⟩
theorem ax_f11_92 : ax_fl 11 92 50 21 := ⟨by decide, "AntsTurnModel", "AntsTurnModel", "waiting", "I", false, ax_GT_in (i := 1216) (by decide +kernel) rfl, Or.inl rfl, fun ci C T N h e => by
  refine ax_okc (P := fun ci => vwCl[ci]? = some (C, T, N) → T 21 = _) h (by decide) ?_ e
  intro c hc e
  simp at hc
  subst hc; cases e; rfl⟩
theorem ax_f11_101 : ax_fl 11 101 50 22 := ⟨by decide, "AntsTurnModel", "AntsTurnModel", "open", "I", false, ax_GT_in (i := 1217) (by decide +kernel) rfl, Or.inl rfl, fun ci C T N h e => by
  refine ax_okc (P := fun ci => vwCl[ci]? = some (C, T, N) → T 22 = _) h (by decide) ?_ e
  intro c hc e
  simp at hc
  subst hc; cases e; rfl⟩
theorem ax_f11_118 : ax_fl 11 118 50 23 := ⟨by decide, "AntsTurnModel", "AntsTurnModel", "nested", "I", false, ax_GT_in (i := 1218) (by decide +kernel) rfl, Or.inl rfl, fun ci C T N h e => by
  refine ax_okc (P := fun ci => vwCl[ci]? = some (C, T, N) → T 23 = _) h (by decide) ?_ e
  intro c hc e
  simp at hc
  subst hc; cases e; rfl⟩
theorem ax_f11_114 : ax_fl 11 114 50 24 := ⟨by decide, "AntsTurnModel", "AntsTurnModel", "compared", "[Z", true, ax_GT_in (i := 1219) (by decide +kernel) rfl, Or.inl rfl, fun ci C T N h e => by
  refine ax_okc (P := fun ci => vwCl[ci]? = some (C, T, N) → T 24 = _) h (by decide) ?_ e
  intro c hc e
  simp at hc
  subst hc; cases e; rfl⟩
theorem ax_f11_86 : ax_fl 11 86 50 25 := ⟨by decide, "AntsTurnModel", "AntsTurnModel", "codeAt", "I", false, ax_GT_in (i := 1220) (by decide +kernel) rfl, Or.inl rfl, fun ci C T N h e => by
  refine ax_okc (P := fun ci => vwCl[ci]? = some (C, T, N) → T 25 = _) h (by decide) ?_ e
  intro c hc e
  simp at hc
  subst hc; cases e; rfl⟩
theorem ax_f11_89 : ax_fl 11 89 50 26 := ⟨by decide, "AntsTurnModel", "AntsTurnModel", "made", "I", false, ax_GT_in (i := 1221) (by decide +kernel) rfl, Or.inl rfl, fun ci C T N h e => by
  refine ax_okc (P := fun ci => vwCl[ci]? = some (C, T, N) → T 26 = _) h (by decide) ?_ e
  intro c hc e
  simp at hc
  subst hc; cases e; rfl⟩
theorem ax_f11_161 : ax_fl 11 161 50 27 := ⟨by decide, "AntsTurnModel", "AntsTurnModel", "stack", "[I", true, ax_GT_in (i := 1222) (by decide +kernel) rfl, Or.inl rfl, fun ci C T N h e => by
  refine ax_okc (P := fun ci => vwCl[ci]? = some (C, T, N) → T 27 = _) h (by decide) ?_ e
  intro c hc e
  simp at hc
  subst hc; cases e; rfl⟩
theorem ax_f11_164 : ax_fl 11 164 50 28 := ⟨by decide, "AntsTurnModel", "AntsTurnModel", "names", "[I", true, ax_GT_in (i := 1223) (by decide +kernel) rfl, Or.inl rfl, fun ci C T N h e => by
  refine ax_okc (P := fun ci => vwCl[ci]? = some (C, T, N) → T 28 = _) h (by decide) ?_ e
  intro c hc e
  simp at hc
  subst hc; cases e; rfl⟩
theorem ax_f11_167 : ax_fl 11 167 50 29 := ⟨by decide, "AntsTurnModel", "AntsTurnModel", "where", "[I", true, ax_GT_in (i := 1224) (by decide +kernel) rfl, Or.inl rfl, fun ci C T N h e => by
  refine ax_okc (P := fun ci => vwCl[ci]? = some (C, T, N) → T 29 = _) h (by decide) ?_ e
  intro c hc e
  simp at hc
  subst hc; cases e; rfl⟩
theorem ax_f11_170 : ax_fl 11 170 50 30 := ⟨by decide, "AntsTurnModel", "AntsTurnModel", "faces", "[I", true, ax_GT_in (i := 1225) (by decide +kernel) rfl, Or.inl rfl, fun ci C T N h e => by
  refine ax_okc (P := fun ci => vwCl[ci]? = some (C, T, N) → T 30 = _) h (by decide) ?_ e
  intro c hc e
  simp at hc
  subst hc; cases e; rfl⟩
theorem ax_f11_173 : ax_fl 11 173 50 31 := ⟨by decide, "AntsTurnModel", "AntsTurnModel", "met", "[I", true, ax_GT_in (i := 1226) (by decide +kernel) rfl, Or.inl rfl, fun ci C T N h e => by
  refine ax_okc (P := fun ci => vwCl[ci]? = some (C, T, N) → T 31 = _) h (by decide) ?_ e
  intro c hc e
  simp at hc
  subst hc; cases e; rfl⟩
theorem ax_f11_176 : ax_fl 11 176 50 32 := ⟨by decide, "AntsTurnModel", "AntsTurnModel", "turned", "[I", true, ax_GT_in (i := 1227) (by decide +kernel) rfl, Or.inl rfl, fun ci C T N h e => by
  refine ax_okc (P := fun ci => vwCl[ci]? = some (C, T, N) → T 32 = _) h (by decide) ?_ e
  intro c hc e
  simp at hc
  subst hc; cases e; rfl⟩
theorem ax_f11_179 : ax_fl 11 179 50 33 := ⟨by decide, "AntsTurnModel", "AntsTurnModel", "ended", "[I", true, ax_GT_in (i := 1228) (by decide +kernel) rfl, Or.inl rfl, fun ci C T N h e => by
  refine ax_okc (P := fun ci => vwCl[ci]? = some (C, T, N) → T 33 = _) h (by decide) ?_ e
  intro c hc e
  simp at hc
  subst hc; cases e; rfl⟩
theorem ax_f11_182 : ax_fl 11 182 50 34 := ⟨by decide, "AntsTurnModel", "AntsTurnModel", "heat", "[I", true, ax_GT_in (i := 1229) (by decide +kernel) rfl, Or.inl rfl, fun ci C T N h e => by
  refine ax_okc (P := fun ci => vwCl[ci]? = some (C, T, N) → T 34 = _) h (by decide) ?_ e
  intro c hc e
  simp at hc
  subst hc; cases e; rfl⟩
theorem ax_f11_185 : ax_fl 11 185 50 35 := ⟨by decide, "AntsTurnModel", "AntsTurnModel", "off", "[I", true, ax_GT_in (i := 1230) (by decide +kernel) rfl, Or.inl rfl, fun ci C T N h e => by
  refine ax_okc (P := fun ci => vwCl[ci]? = some (C, T, N) → T 35 = _) h (by decide) ?_ e
  intro c hc e
  simp at hc
  subst hc; cases e; rfl⟩
theorem ax_f11_188 : ax_fl 11 188 50 36 := ⟨by decide, "AntsTurnModel", "AntsTurnModel", "end", "[I", true, ax_GT_in (i := 1231) (by decide +kernel) rfl, Or.inl rfl, fun ci C T N h e => by
  refine ax_okc (P := fun ci => vwCl[ci]? = some (C, T, N) → T 36 = _) h (by decide) ?_ e
  intro c hc e
  simp at hc
  subst hc; cases e; rfl⟩
theorem ax_f11_191 : ax_fl 11 191 50 37 := ⟨by decide, "AntsTurnModel", "AntsTurnModel", "meets", "[Z", true, ax_GT_in (i := 1232) (by decide +kernel) rfl, Or.inl rfl, fun ci C T N h e => by
  refine ax_okc (P := fun ci => vwCl[ci]? = some (C, T, N) → T 37 = _) h (by decide) ?_ e
  intro c hc e
  simp at hc
  subst hc; cases e; rfl⟩
theorem ax_f11_194 : ax_fl 11 194 50 38 := ⟨by decide, "AntsTurnModel", "AntsTurnModel", "will", "[Z", true, ax_GT_in (i := 1233) (by decide +kernel) rfl, Or.inl rfl, fun ci C T N h e => by
  refine ax_okc (P := fun ci => vwCl[ci]? = some (C, T, N) → T 38 = _) h (by decide) ?_ e
  intro c hc e
  simp at hc
  subst hc; cases e; rfl⟩
theorem ax_f11_234 : ax_fl 11 234 50 39 := ⟨by decide, "AntsTurnModel", "AntsTurnModel", "beat", "I", false, ax_GT_in (i := 1234) (by decide +kernel) rfl, Or.inl rfl, fun ci C T N h e => by
  refine ax_okc (P := fun ci => vwCl[ci]? = some (C, T, N) → T 39 = _) h (by decide) ?_ e
  intro c hc e
  simp at hc
  subst hc; cases e; rfl⟩
theorem ax_f11_237 : ax_fl 11 237 50 40 := ⟨by decide, "AntsTurnModel", "AntsTurnModel", "pairs", "I", false, ax_GT_in (i := 1235) (by decide +kernel) rfl, Or.inl rfl, fun ci C T N h e => by
  refine ax_okc (P := fun ci => vwCl[ci]? = some (C, T, N) → T 40 = _) h (by decide) ?_ e
  intro c hc e
  simp at hc
  subst hc; cases e; rfl⟩
theorem ax_f11_240 : ax_fl 11 240 50 41 := ⟨by decide, "AntsTurnModel", "AntsTurnModel", "carrier", "I", false, ax_GT_in (i := 1236) (by decide +kernel) rfl, Or.inl rfl, fun ci C T N h e => by
  refine ax_okc (P := fun ci => vwCl[ci]? = some (C, T, N) → T 41 = _) h (by decide) ?_ e
  intro c hc e
  simp at hc
  subst hc; cases e; rfl⟩
theorem ax_f11_243 : ax_fl 11 243 50 42 := ⟨by decide, "AntsTurnModel", "AntsTurnModel", "through", "Z", false, ax_GT_in (i := 1237) (by decide +kernel) rfl, Or.inl rfl, fun ci C T N h e => by
  refine ax_okc (P := fun ci => vwCl[ci]? = some (C, T, N) → T 42 = _) h (by decide) ?_ e
  intro c hc e
  simp at hc
  subst hc; cases e; rfl⟩
theorem ax_f11_197 : ax_fl 11 197 50 43 := ⟨by decide, "AntsTurnModel", "AntsTurnModel", "offThen", "[I", true, ax_GT_in (i := 1238) (by decide +kernel) rfl, Or.inl rfl, fun ci C T N h e => by
  refine ax_okc (P := fun ci => vwCl[ci]? = some (C, T, N) → T 43 = _) h (by decide) ?_ e
  intro c hc e
  simp at hc
  subst hc; cases e; rfl⟩
theorem ax_f11_200 : ax_fl 11 200 50 44 := ⟨by decide, "AntsTurnModel", "AntsTurnModel", "whereThen", "[I", true, ax_GT_in (i := 1239) (by decide +kernel) rfl, Or.inl rfl, fun ci C T N h e => by
  refine ax_okc (P := fun ci => vwCl[ci]? = some (C, T, N) → T 44 = _) h (by decide) ?_ e
  intro c hc e
  simp at hc
  subst hc; cases e; rfl⟩
theorem ax_f11_203 : ax_fl 11 203 50 45 := ⟨by decide, "AntsTurnModel", "AntsTurnModel", "facesThen", "[I", true, ax_GT_in (i := 1240) (by decide +kernel) rfl, Or.inl rfl, fun ci C T N h e => by
  refine ax_okc (P := fun ci => vwCl[ci]? = some (C, T, N) → T 45 = _) h (by decide) ?_ e
  intro c hc e
  simp at hc
  subst hc; cases e; rfl⟩
theorem ax_f11_311 : ax_fl 11 311 50 46 := ⟨by decide, "AntsTurnModel", "AntsTurnModel", "kept", "Z", false, ax_GT_in (i := 1241) (by decide +kernel) rfl, Or.inl rfl, fun ci C T N h e => by
  refine ax_okc (P := fun ci => vwCl[ci]? = some (C, T, N) → T 46 = _) h (by decide) ?_ e
  intro c hc e
  simp at hc
  subst hc; cases e; rfl⟩
theorem ax_f11_314 : ax_fl 11 314 50 47 := ⟨by decide, "AntsTurnModel", "AntsTurnModel", "antsThen", "I", false, ax_GT_in (i := 1242) (by decide +kernel) rfl, Or.inl rfl, fun ci C T N h e => by
  refine ax_okc (P := fun ci => vwCl[ci]? = some (C, T, N) → T 47 = _) h (by decide) ?_ e
  intro c hc e
  simp at hc
  subst hc; cases e; rfl⟩
theorem ax_f11_317 : ax_fl 11 317 50 48 := ⟨by decide, "AntsTurnModel", "AntsTurnModel", "knotsThen", "I", false, ax_GT_in (i := 1243) (by decide +kernel) rfl, Or.inl rfl, fun ci C T N h e => by
  refine ax_okc (P := fun ci => vwCl[ci]? = some (C, T, N) → T 48 = _) h (by decide) ?_ e
  intro c hc e
  simp at hc
  subst hc; cases e; rfl⟩
theorem ax_f11_320 : ax_fl 11 320 50 49 := ⟨by decide, "AntsTurnModel", "AntsTurnModel", "ringThen", "I", false, ax_GT_in (i := 1244) (by decide +kernel) rfl, Or.inl rfl, fun ci C T N h e => by
  refine ax_okc (P := fun ci => vwCl[ci]? = some (C, T, N) → T 49 = _) h (by decide) ?_ e
  intro c hc e
  simp at hc
  subst hc; cases e; rfl⟩
theorem ax_f11_323 : ax_fl 11 323 50 50 := ⟨by decide, "AntsTurnModel", "AntsTurnModel", "ruleThen", "I", false, ax_GT_in (i := 1245) (by decide +kernel) rfl, Or.inl rfl, fun ci C T N h e => by
  refine ax_okc (P := fun ci => vwCl[ci]? = some (C, T, N) → T 50 = _) h (by decide) ?_ e
  intro c hc e
  simp at hc
  subst hc; cases e; rfl⟩
theorem ax_f11_206 : ax_fl 11 206 50 51 := ⟨by decide, "AntsTurnModel", "AntsTurnModel", "knotThen", "[I", true, ax_GT_in (i := 1246) (by decide +kernel) rfl, Or.inl rfl, fun ci C T N h e => by
  refine ax_okc (P := fun ci => vwCl[ci]? = some (C, T, N) → T 51 = _) h (by decide) ?_ e
  intro c hc e
  simp at hc
  subst hc; cases e; rfl⟩
theorem ax_f11_209 : ax_fl 11 209 50 52 := ⟨by decide, "AntsTurnModel", "AntsTurnModel", "leftThen", "[I", true, ax_GT_in (i := 1247) (by decide +kernel) rfl, Or.inl rfl, fun ci C T N h e => by
  refine ax_okc (P := fun ci => vwCl[ci]? = some (C, T, N) → T 52 = _) h (by decide) ?_ e
  intro c hc e
  simp at hc
  subst hc; cases e; rfl⟩
theorem ax_f11_212 : ax_fl 11 212 50 53 := ⟨by decide, "AntsTurnModel", "AntsTurnModel", "startThen", "[I", true, ax_GT_in (i := 1248) (by decide +kernel) rfl, Or.inl rfl, fun ci C T N h e => by
  refine ax_okc (P := fun ci => vwCl[ci]? = some (C, T, N) → T 53 = _) h (by decide) ?_ e
  intro c hc e
  simp at hc
  subst hc; cases e; rfl⟩
theorem ax_f11_215 : ax_fl 11 215 50 54 := ⟨by decide, "AntsTurnModel", "AntsTurnModel", "numberThen", "[I", true, ax_GT_in (i := 1249) (by decide +kernel) rfl, Or.inl rfl, fun ci C T N h e => by
  refine ax_okc (P := fun ci => vwCl[ci]? = some (C, T, N) → T 54 = _) h (by decide) ?_ e
  intro c hc e
  simp at hc
  subst hc; cases e; rfl⟩
theorem ax_f11_218 : ax_fl 11 218 50 55 := ⟨by decide, "AntsTurnModel", "AntsTurnModel", "sorts", "[I", true, ax_GT_in (i := 1250) (by decide +kernel) rfl, Or.inl rfl, fun ci C T N h e => by
  refine ax_okc (P := fun ci => vwCl[ci]? = some (C, T, N) → T 55 = _) h (by decide) ?_ e
  intro c hc e
  simp at hc
  subst hc; cases e; rfl⟩
theorem ax_f11_221 : ax_fl 11 221 50 56 := ⟨by decide, "AntsTurnModel", "AntsTurnModel", "sizes", "[I", true, ax_GT_in (i := 1251) (by decide +kernel) rfl, Or.inl rfl, fun ci C T N h e => by
  refine ax_okc (P := fun ci => vwCl[ci]? = some (C, T, N) → T 56 = _) h (by decide) ?_ e
  intro c hc e
  simp at hc
  subst hc; cases e; rfl⟩
theorem ax_f11_224 : ax_fl 11 224 50 57 := ⟨by decide, "AntsTurnModel", "AntsTurnModel", "items", "[I", true, ax_GT_in (i := 1252) (by decide +kernel) rfl, Or.inl rfl, fun ci C T N h e => by
  refine ax_okc (P := fun ci => vwCl[ci]? = some (C, T, N) → T 57 = _) h (by decide) ?_ e
  intro c hc e
  simp at hc
  subst hc; cases e; rfl⟩
theorem ax_f11_227 : ax_fl 11 227 50 58 := ⟨by decide, "AntsTurnModel", "AntsTurnModel", "moved", "[I", true, ax_GT_in (i := 1253) (by decide +kernel) rfl, Or.inl rfl, fun ci C T N h e => by
  refine ax_okc (P := fun ci => vwCl[ci]? = some (C, T, N) → T 58 = _) h (by decide) ?_ e
  intro c hc e
  simp at hc
  subst hc; cases e; rfl⟩
def ax_fls0 : List (Nat × Nat × Nat) := [(9, 5, 0), (15, 5, 1), (18, 5, 2), (22, 5, 3), (26, 5, 4), (29, 5, 5), (32, 5, 6), (35, 5, 7), (38, 5, 8), (41, 5, 9), (44, 5, 10), (47, 5, 11), (50, 5, 12)]
theorem ax_fls0_ok : ∀ e ∈ ax_fls0, ax_fl 0 e.1 e.2.1 e.2.2 := List.forall_mem_cons.mpr ⟨ax_f0_9, List.forall_mem_cons.mpr ⟨ax_f0_15, List.forall_mem_cons.mpr ⟨ax_f0_18, List.forall_mem_cons.mpr ⟨ax_f0_22, List.forall_mem_cons.mpr ⟨ax_f0_26, List.forall_mem_cons.mpr ⟨ax_f0_29, List.forall_mem_cons.mpr ⟨ax_f0_32, List.forall_mem_cons.mpr ⟨ax_f0_35, List.forall_mem_cons.mpr ⟨ax_f0_38, List.forall_mem_cons.mpr ⟨ax_f0_41, List.forall_mem_cons.mpr ⟨ax_f0_44, List.forall_mem_cons.mpr ⟨ax_f0_47, List.forall_mem_cons.mpr ⟨ax_f0_50, fun _ h => absurd h List.not_mem_nil⟩⟩⟩⟩⟩⟩⟩⟩⟩⟩⟩⟩⟩
def ax_fls1 : List (Nat × Nat × Nat) := [(23, 5, 0), (9, 5, 7)]
theorem ax_fls1_ok : ∀ e ∈ ax_fls1, ax_fl 1 e.1 e.2.1 e.2.2 := List.forall_mem_cons.mpr ⟨ax_f1_23, List.forall_mem_cons.mpr ⟨ax_f1_9, fun _ h => absurd h List.not_mem_nil⟩⟩
def ax_fls2 : List (Nat × Nat × Nat) := [(11, 2, 0), (40, 2, 1), (17, 2, 2), (81, 2, 3), (119, 2, 4), (54, 2, 5), (57, 2, 6), (60, 2, 7), (66, 2, 8), (21, 2, 9), (25, 2, 10), (28, 2, 11), (63, 2, 12), (50, 2, 13), (31, 2, 14), (34, 2, 15), (37, 2, 16), (43, 5, 0), (90, 5, 2), (93, 5, 3), (96, 5, 4), (141, 5, 5), (150, 5, 7), (129, 5, 8), (165, 5, 9)]
theorem ax_fls2_ok : ∀ e ∈ ax_fls2, ax_fl 2 e.1 e.2.1 e.2.2 := List.forall_mem_cons.mpr ⟨ax_f2_11, List.forall_mem_cons.mpr ⟨ax_f2_40, List.forall_mem_cons.mpr ⟨ax_f2_17, List.forall_mem_cons.mpr ⟨ax_f2_81, List.forall_mem_cons.mpr ⟨ax_f2_119, List.forall_mem_cons.mpr ⟨ax_f2_54, List.forall_mem_cons.mpr ⟨ax_f2_57, List.forall_mem_cons.mpr ⟨ax_f2_60, List.forall_mem_cons.mpr ⟨ax_f2_66, List.forall_mem_cons.mpr ⟨ax_f2_21, List.forall_mem_cons.mpr ⟨ax_f2_25, List.forall_mem_cons.mpr ⟨ax_f2_28, List.forall_mem_cons.mpr ⟨ax_f2_63, List.forall_mem_cons.mpr ⟨ax_f2_50, List.forall_mem_cons.mpr ⟨ax_f2_31, List.forall_mem_cons.mpr ⟨ax_f2_34, List.forall_mem_cons.mpr ⟨ax_f2_37, List.forall_mem_cons.mpr ⟨ax_f2_43, List.forall_mem_cons.mpr ⟨ax_f2_90, List.forall_mem_cons.mpr ⟨ax_f2_93, List.forall_mem_cons.mpr ⟨ax_f2_96, List.forall_mem_cons.mpr ⟨ax_f2_141, List.forall_mem_cons.mpr ⟨ax_f2_150, List.forall_mem_cons.mpr ⟨ax_f2_129, List.forall_mem_cons.mpr ⟨ax_f2_165, fun _ h => absurd h List.not_mem_nil⟩⟩⟩⟩⟩⟩⟩⟩⟩⟩⟩⟩⟩⟩⟩⟩⟩⟩⟩⟩⟩⟩⟩⟩⟩
def ax_fls3 : List (Nat × Nat × Nat) := [(15, 5, 0), (9, 5, 5), (23, 5, 7)]
theorem ax_fls3_ok : ∀ e ∈ ax_fls3, ax_fl 3 e.1 e.2.1 e.2.2 := List.forall_mem_cons.mpr ⟨ax_f3_15, List.forall_mem_cons.mpr ⟨ax_f3_9, List.forall_mem_cons.mpr ⟨ax_f3_23, fun _ h => absurd h List.not_mem_nil⟩⟩⟩
def ax_fls4 : List (Nat × Nat × Nat) := [(15, 6, 0), (21, 6, 1), (24, 6, 2), (27, 6, 3), (30, 6, 4)]
theorem ax_fls4_ok : ∀ e ∈ ax_fls4, ax_fl 4 e.1 e.2.1 e.2.2 := List.forall_mem_cons.mpr ⟨ax_f4_15, List.forall_mem_cons.mpr ⟨ax_f4_21, List.forall_mem_cons.mpr ⟨ax_f4_24, List.forall_mem_cons.mpr ⟨ax_f4_27, List.forall_mem_cons.mpr ⟨ax_f4_30, fun _ h => absurd h List.not_mem_nil⟩⟩⟩⟩⟩
def ax_fls5 : List (Nat × Nat × Nat) := [(9, 4, 0), (19, 4, 1), (15, 4, 2)]
theorem ax_fls5_ok : ∀ e ∈ ax_fls5, ax_fl 5 e.1 e.2.1 e.2.2 := List.forall_mem_cons.mpr ⟨ax_f5_9, List.forall_mem_cons.mpr ⟨ax_f5_19, List.forall_mem_cons.mpr ⟨ax_f5_15, fun _ h => absurd h List.not_mem_nil⟩⟩⟩
def ax_fls6 : List (Nat × Nat × Nat) := [(15, 5, 0), (9, 5, 7)]
theorem ax_fls6_ok : ∀ e ∈ ax_fls6, ax_fl 6 e.1 e.2.1 e.2.2 := List.forall_mem_cons.mpr ⟨ax_f6_15, List.forall_mem_cons.mpr ⟨ax_f6_9, fun _ h => absurd h List.not_mem_nil⟩⟩
def ax_fls8 : List (Nat × Nat × Nat) := [(36, 3, 0), (49, 3, 1), (9, 3, 2), (15, 3, 3), (18, 3, 4), (21, 3, 5), (65, 3, 6), (43, 3, 7), (24, 3, 8), (27, 3, 9), (30, 3, 10), (33, 3, 11), (46, 3, 12)]
theorem ax_fls8_ok : ∀ e ∈ ax_fls8, ax_fl 8 e.1 e.2.1 e.2.2 := List.forall_mem_cons.mpr ⟨ax_f8_36, List.forall_mem_cons.mpr ⟨ax_f8_49, List.forall_mem_cons.mpr ⟨ax_f8_9, List.forall_mem_cons.mpr ⟨ax_f8_15, List.forall_mem_cons.mpr ⟨ax_f8_18, List.forall_mem_cons.mpr ⟨ax_f8_21, List.forall_mem_cons.mpr ⟨ax_f8_65, List.forall_mem_cons.mpr ⟨ax_f8_43, List.forall_mem_cons.mpr ⟨ax_f8_24, List.forall_mem_cons.mpr ⟨ax_f8_27, List.forall_mem_cons.mpr ⟨ax_f8_30, List.forall_mem_cons.mpr ⟨ax_f8_33, List.forall_mem_cons.mpr ⟨ax_f8_46, fun _ h => absurd h List.not_mem_nil⟩⟩⟩⟩⟩⟩⟩⟩⟩⟩⟩⟩⟩
def ax_fls9 : List (Nat × Nat × Nat) := [(15, 5, 0), (9, 5, 5)]
theorem ax_fls9_ok : ∀ e ∈ ax_fls9, ax_fl 9 e.1 e.2.1 e.2.2 := List.forall_mem_cons.mpr ⟨ax_f9_15, List.forall_mem_cons.mpr ⟨ax_f9_9, fun _ h => absurd h List.not_mem_nil⟩⟩
def ax_fls10 : List (Nat × Nat × Nat) := [(81, 2, 0), (80, 2, 1), (91, 2, 2), (74, 2, 3), (60, 2, 4), (242, 2, 5), (204, 2, 6), (237, 2, 7), (234, 2, 8), (210, 2, 9), (64, 3, 0), (131, 3, 1), (277, 4, 0), (223, 4, 1), (231, 4, 2), (10, 1, 0), (19, 1, 1), (25, 1, 2), (31, 1, 3), (67, 1, 4), (134, 1, 5), (35, 1, 6), (252, 1, 7), (255, 1, 8), (258, 1, 9), (85, 5, 0), (166, 5, 2), (170, 5, 3), (173, 5, 4), (151, 5, 5), (154, 5, 6), (157, 5, 8), (145, 5, 9), (148, 5, 10)]
theorem ax_fls10_ok : ∀ e ∈ ax_fls10, ax_fl 10 e.1 e.2.1 e.2.2 := List.forall_mem_cons.mpr ⟨ax_f10_81, List.forall_mem_cons.mpr ⟨ax_f10_80, List.forall_mem_cons.mpr ⟨ax_f10_91, List.forall_mem_cons.mpr ⟨ax_f10_74, List.forall_mem_cons.mpr ⟨ax_f10_60, List.forall_mem_cons.mpr ⟨ax_f10_242, List.forall_mem_cons.mpr ⟨ax_f10_204, List.forall_mem_cons.mpr ⟨ax_f10_237, List.forall_mem_cons.mpr ⟨ax_f10_234, List.forall_mem_cons.mpr ⟨ax_f10_210, List.forall_mem_cons.mpr ⟨ax_f10_64, List.forall_mem_cons.mpr ⟨ax_f10_131, List.forall_mem_cons.mpr ⟨ax_f10_277, List.forall_mem_cons.mpr ⟨ax_f10_223, List.forall_mem_cons.mpr ⟨ax_f10_231, List.forall_mem_cons.mpr ⟨ax_f10_10, List.forall_mem_cons.mpr ⟨ax_f10_19, List.forall_mem_cons.mpr ⟨ax_f10_25, List.forall_mem_cons.mpr ⟨ax_f10_31, List.forall_mem_cons.mpr ⟨ax_f10_67, List.forall_mem_cons.mpr ⟨ax_f10_134, List.forall_mem_cons.mpr ⟨ax_f10_35, List.forall_mem_cons.mpr ⟨ax_f10_252, List.forall_mem_cons.mpr ⟨ax_f10_255, List.forall_mem_cons.mpr ⟨ax_f10_258, List.forall_mem_cons.mpr ⟨ax_f10_85, List.forall_mem_cons.mpr ⟨ax_f10_166, List.forall_mem_cons.mpr ⟨ax_f10_170, List.forall_mem_cons.mpr ⟨ax_f10_173, List.forall_mem_cons.mpr ⟨ax_f10_151, List.forall_mem_cons.mpr ⟨ax_f10_154, List.forall_mem_cons.mpr ⟨ax_f10_157, List.forall_mem_cons.mpr ⟨ax_f10_145, List.forall_mem_cons.mpr ⟨ax_f10_148, fun _ h => absurd h List.not_mem_nil⟩⟩⟩⟩⟩⟩⟩⟩⟩⟩⟩⟩⟩⟩⟩⟩⟩⟩⟩⟩⟩⟩⟩⟩⟩⟩⟩⟩⟩⟩⟩⟩⟩⟩
def ax_fls11 : List (Nat × Nat × Nat) := [(11, 50, 0), (14, 50, 1), (1, 50, 2), (21, 50, 3), (17, 50, 4), (24, 50, 5), (27, 50, 6), (30, 50, 7), (48, 50, 8), (45, 50, 9), (147, 50, 10), (153, 50, 11), (83, 50, 12), (131, 50, 13), (51, 50, 14), (57, 50, 15), (70, 50, 16), (63, 50, 17), (66, 50, 18), (60, 50, 19), (95, 50, 20), (92, 50, 21), (101, 50, 22), (118, 50, 23), (114, 50, 24), (86, 50, 25), (89, 50, 26), (161, 50, 27), (164, 50, 28), (167, 50, 29), (170, 50, 30), (173, 50, 31), (176, 50, 32), (179, 50, 33), (182, 50, 34), (185, 50, 35), (188, 50, 36), (191, 50, 37), (194, 50, 38), (234, 50, 39), (237, 50, 40), (240, 50, 41), (243, 50, 42), (197, 50, 43), (200, 50, 44), (203, 50, 45), (311, 50, 46), (314, 50, 47), (317, 50, 48), (320, 50, 49), (323, 50, 50), (206, 50, 51), (209, 50, 52), (212, 50, 53), (215, 50, 54), (218, 50, 55), (221, 50, 56), (224, 50, 57), (227, 50, 58)]
theorem ax_fls11_ok : ∀ e ∈ ax_fls11, ax_fl 11 e.1 e.2.1 e.2.2 := List.forall_mem_cons.mpr ⟨ax_f11_11, List.forall_mem_cons.mpr ⟨ax_f11_14, List.forall_mem_cons.mpr ⟨ax_f11_1, List.forall_mem_cons.mpr ⟨ax_f11_21, List.forall_mem_cons.mpr ⟨ax_f11_17, List.forall_mem_cons.mpr ⟨ax_f11_24, List.forall_mem_cons.mpr ⟨ax_f11_27, List.forall_mem_cons.mpr ⟨ax_f11_30, List.forall_mem_cons.mpr ⟨ax_f11_48, List.forall_mem_cons.mpr ⟨ax_f11_45, List.forall_mem_cons.mpr ⟨ax_f11_147, List.forall_mem_cons.mpr ⟨ax_f11_153, List.forall_mem_cons.mpr ⟨ax_f11_83, List.forall_mem_cons.mpr ⟨ax_f11_131, List.forall_mem_cons.mpr ⟨ax_f11_51, List.forall_mem_cons.mpr ⟨ax_f11_57, List.forall_mem_cons.mpr ⟨ax_f11_70, List.forall_mem_cons.mpr ⟨ax_f11_63, List.forall_mem_cons.mpr ⟨ax_f11_66, List.forall_mem_cons.mpr ⟨ax_f11_60, List.forall_mem_cons.mpr ⟨ax_f11_95, List.forall_mem_cons.mpr ⟨ax_f11_92, List.forall_mem_cons.mpr ⟨ax_f11_101, List.forall_mem_cons.mpr ⟨ax_f11_118, List.forall_mem_cons.mpr ⟨ax_f11_114, List.forall_mem_cons.mpr ⟨ax_f11_86, List.forall_mem_cons.mpr ⟨ax_f11_89, List.forall_mem_cons.mpr ⟨ax_f11_161, List.forall_mem_cons.mpr ⟨ax_f11_164, List.forall_mem_cons.mpr ⟨ax_f11_167, List.forall_mem_cons.mpr ⟨ax_f11_170, List.forall_mem_cons.mpr ⟨ax_f11_173, List.forall_mem_cons.mpr ⟨ax_f11_176, List.forall_mem_cons.mpr ⟨ax_f11_179, List.forall_mem_cons.mpr ⟨ax_f11_182, List.forall_mem_cons.mpr ⟨ax_f11_185, List.forall_mem_cons.mpr ⟨ax_f11_188, List.forall_mem_cons.mpr ⟨ax_f11_191, List.forall_mem_cons.mpr ⟨ax_f11_194, List.forall_mem_cons.mpr ⟨ax_f11_234, List.forall_mem_cons.mpr ⟨ax_f11_237, List.forall_mem_cons.mpr ⟨ax_f11_240, List.forall_mem_cons.mpr ⟨ax_f11_243, List.forall_mem_cons.mpr ⟨ax_f11_197, List.forall_mem_cons.mpr ⟨ax_f11_200, List.forall_mem_cons.mpr ⟨ax_f11_203, List.forall_mem_cons.mpr ⟨ax_f11_311, List.forall_mem_cons.mpr ⟨ax_f11_314, List.forall_mem_cons.mpr ⟨ax_f11_317, List.forall_mem_cons.mpr ⟨ax_f11_320, List.forall_mem_cons.mpr ⟨ax_f11_323, List.forall_mem_cons.mpr ⟨ax_f11_206, List.forall_mem_cons.mpr ⟨ax_f11_209, List.forall_mem_cons.mpr ⟨ax_f11_212, List.forall_mem_cons.mpr ⟨ax_f11_215, List.forall_mem_cons.mpr ⟨ax_f11_218, List.forall_mem_cons.mpr ⟨ax_f11_221, List.forall_mem_cons.mpr ⟨ax_f11_224, List.forall_mem_cons.mpr ⟨ax_f11_227, fun _ h => absurd h List.not_mem_nil⟩⟩⟩⟩⟩⟩⟩⟩⟩⟩⟩⟩⟩⟩⟩⟩⟩⟩⟩⟩⟩⟩⟩⟩⟩⟩⟩⟩⟩⟩⟩⟩⟩⟩⟩⟩⟩⟩⟩⟩⟩⟩⟩⟩⟩⟩⟩⟩⟩⟩⟩⟩⟩⟩⟩⟩⟩⟩⟩
def ax_fls (own : Nat) : List (Nat × Nat × Nat) := match own % 100 with
  | 0 => ax_fls0
  | 1 => ax_fls1
  | 2 => ax_fls2
  | 3 => ax_fls3
  | 4 => ax_fls4
  | 5 => ax_fls5
  | 6 => ax_fls6
  | 8 => ax_fls8
  | 9 => ax_fls9
  | 10 => ax_fls10
  | 11 => ax_fls11
  | _ => []
theorem ax_fl_mod {own idx f k : Nat} (h : ax_fl (own % 100) idx f k) : ax_fl own idx f k := by
  have e : ax_nm (own % 100) = ax_nm own := by simp [ax_nm]
  unfold ax_fl at h ⊢
  rw [e] at h
  exact h
theorem ax_fls_ok {own : Nat} : ∀ e ∈ ax_fls own, ax_fl own e.1 e.2.1 e.2.2 := by
  intro e he
  apply ax_fl_mod
  unfold ax_fls at he
  split at he
  · rename_i q; rw [q]; exact ax_fls0_ok e he
  · rename_i q; rw [q]; exact ax_fls1_ok e he
  · rename_i q; rw [q]; exact ax_fls2_ok e he
  · rename_i q; rw [q]; exact ax_fls3_ok e he
  · rename_i q; rw [q]; exact ax_fls4_ok e he
  · rename_i q; rw [q]; exact ax_fls5_ok e he
  · rename_i q; rw [q]; exact ax_fls6_ok e he
  · rename_i q; rw [q]; exact ax_fls8_ok e he
  · rename_i q; rw [q]; exact ax_fls9_ok e he
  · rename_i q; rw [q]; exact ax_fls10_ok e he
  · rename_i q; rw [q]; exact ax_fls11_ok e he
  · cases he
def ax_lkf (l : List (Nat × Nat × Nat)) (idx : Nat) : Option (Nat × Nat) := match l with
  | [] => none
  | e :: r => if e.1 = idx then some e.2 else ax_lkf r idx
theorem ax_lkf_in {l : List (Nat × Nat × Nat)} {idx : Nat} {q : Nat × Nat} (h : ax_lkf l idx = some q) : (idx, q) ∈ l := by
  induction l with
  | nil => cases h
  | cons e r ih =>
    unfold ax_lkf at h
    split at h
    · rename_i q; cases h; subst q; exact List.mem_cons_self
    · exact List.mem_cons_of_mem _ (ih h)
theorem ax_lk_ok {own idx : Nat} {q : Nat × Nat} (h : ax_lkf (ax_fls own) idx = some q) : ax_fl own idx q.1 q.2 := ax_fls_ok _ (ax_lkf_in h)
