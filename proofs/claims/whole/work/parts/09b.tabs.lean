def im_X0_init : List (Nat × Instr × Nat) := [(0, .aload_n 0, 1), (1, .invokespecial 3, 3), (4, .aload_n 0, 1), (5, .iconst 4, 1), (6, .newarray .int, 2), (8, .putfield 9, 3), (11, .aload_n 0, 1), (12, .iconst 4, 1), (13, .newarray .int, 2), (15, .putfield 15, 3), (18, .return_, 1)]
theorem ok_X0_init : ax_im cX0_init im_X0_init := ax_im_of (by decide +kernel)
theorem cal_X0_init : ax_cal yX0_init cX0_init 1 none 0 := ⟨ax_T2 (i := 183) rfl rfl, ax_T1 (i := 14) (by decide +kernel) rfl, by decide, by decide +kernel, by decide⟩
theorem ins_X0_init : Cond.instanceMethod yX0_init ∈ ax_GT := ax_T2 (i := 182) (by decide +kernel) rfl
def im_X0_kind : List (Nat × Instr × Nat) := [(0, .iconst 0, 1), (1, .ireturn, 1)]
theorem ok_X0_kind : ax_im cX0_kind im_X0_kind := ax_im_of (by decide +kernel)
theorem cal_X0_kind : ax_cal yX0_kind cX0_kind 1 (some FieldType.int) 0 := ⟨ax_T3 (i := 148) rfl rfl, ax_T1 (i := 14) (by decide +kernel) rfl, by decide, by decide +kernel, by decide⟩
theorem ins_X0_kind : Cond.instanceMethod yX0_kind ∈ ax_GT := ax_T3 (i := 130) (by decide +kernel) rfl
theorem sel_X0_kind : Cond.selects RX0 yX0_kind yX0_kind ∈ ax_GT := ax_T3 (i := 131) (by decide +kernel) rfl
def im_X0_turns : List (Nat × Instr × Nat) := [(0, .iconst 1, 1), (1, .ireturn, 1)]
theorem ok_X0_turns : ax_im cX0_turns im_X0_turns := ax_im_of (by decide +kernel)
theorem cal_X0_turns : ax_cal yX0_turns cX0_turns 1 (some FieldType.boolean) 0 := ⟨ax_T4 (i := 34) rfl rfl, ax_T1 (i := 14) (by decide +kernel) rfl, by decide, by decide +kernel, by decide⟩
theorem ins_X0_turns : Cond.instanceMethod yX0_turns ∈ ax_GT := ax_T4 (i := 16) (by decide +kernel) rfl
theorem sel_X0_turns : Cond.selects RX0 yX0_turns yX0_turns ∈ ax_GT := ax_T4 (i := 17) (by decide +kernel) rfl
def im_X0_returns : List (Nat × Instr × Nat) := [(0, .iconst 0, 1), (1, .ireturn, 1)]
theorem ok_X0_returns : ax_im cX0_returns im_X0_returns := ax_im_of (by decide +kernel)
theorem cal_X0_returns : ax_cal yX0_returns cX0_returns 1 (some FieldType.boolean) 0 := ⟨ax_T4 (i := 77) rfl rfl, ax_T1 (i := 14) (by decide +kernel) rfl, by decide, by decide +kernel, by decide⟩
theorem ins_X0_returns : Cond.instanceMethod yX0_returns ∈ ax_GT := ax_T4 (i := 61) (by decide +kernel) rfl
theorem sel_X0_returns : Cond.selects RX0 yX0_returns yX0_returns ∈ ax_GT := ax_T4 (i := 62) (by decide +kernel) rfl
def im_X0_weighs : List (Nat × Instr × Nat) := [(0, .aload_n 0, 1), (1, .getfield 9, 3), (4, .iconst 3, 1), (5, .iaload, 1), (6, .ireturn, 1)]
theorem ok_X0_weighs : ax_im cX0_weighs im_X0_weighs := ax_im_of (by decide +kernel)
theorem cal_X0_weighs : ax_cal yX0_weighs cX0_weighs 1 (some FieldType.int) 0 := ⟨ax_T3 (i := 173) rfl rfl, ax_T1 (i := 14) (by decide +kernel) rfl, by decide, by decide +kernel, by decide⟩
theorem ins_X0_weighs : Cond.instanceMethod yX0_weighs ∈ ax_GT := ax_T3 (i := 150) (by decide +kernel) rfl
theorem sel_X0_weighs : Cond.selects RX0 yX0_weighs yX0_weighs ∈ ax_GT := ax_T3 (i := 151) (by decide +kernel) rfl
def im_X0_begin : List (Nat × Instr × Nat) := [(0, .aload_n 0, 1), (1, .iconst 0, 1), (2, .putfield 18, 3), (5, .aload_n 0, 1), (6, .iconst 0, 1), (7, .putfield 22, 3), (10, .aload_n 0, 1), (11, .iload_n 1, 1), (12, .putfield 26, 3), (15, .aload_n 0, 1), (16, .iconst 0, 1), (17, .putfield 29, 3), (20, .aload_n 0, 1), (21, .iconst 0, 1), (22, .putfield 32, 3), (25, .aload_n 0, 1), (26, .iconst 0, 1), (27, .putfield 35, 3), (30, .aload_n 0, 1), (31, .iconst 0, 1), (32, .putfield 38, 3), (35, .aload_n 0, 1), (36, .iconst (-1), 1), (37, .putfield 41, 3), (40, .aload_n 0, 1), (41, .iconst (-1), 1), (42, .putfield 44, 3), (45, .return_, 1)]
theorem ok_X0_begin : ax_im cX0_begin im_X0_begin := ax_im_of (by decide +kernel)
theorem cal_X0_begin : ax_cal yX0_begin cX0_begin 2 none 1 := ⟨ax_T3 (i := 216) rfl rfl, ax_T1 (i := 14) (by decide +kernel) rfl, by decide, by decide +kernel, by decide⟩
theorem ins_X0_begin : Cond.instanceMethod yX0_begin ∈ ax_GT := ax_T3 (i := 208) (by decide +kernel) rfl
theorem sel_X0_begin : Cond.selects RX0 yX0_begin yX0_begin ∈ ax_GT := ax_T3 (i := 209) (by decide +kernel) rfl
def im_X0_turnRound : List (Nat × Instr × Nat) := [(0, .aload_n 0, 1), (1, .iconst 1, 1), (2, .aload_n 0, 1), (3, .getfield 26, 3), (6, .isub, 1), (7, .putfield 26, 3), (10, .aload_n 0, 1), (11, .dup, 1), (12, .getfield 32, 3), (15, .iconst 1, 1), (16, .iadd, 1), (17, .putfield 32, 3), (20, .return_, 1)]
theorem ok_X0_turnRound : ax_im cX0_turnRound im_X0_turnRound := ax_im_of (by decide +kernel)
theorem cal_X0_turnRound : ax_cal yX0_turnRound cX0_turnRound 1 none 0 := ⟨ax_T4 (i := 55) rfl rfl, ax_T1 (i := 14) (by decide +kernel) rfl, by decide, by decide +kernel, by decide⟩
theorem ins_X0_turnRound : Cond.instanceMethod yX0_turnRound ∈ ax_GT := ax_T4 (i := 47) (by decide +kernel) rfl
theorem sel_X0_turnRound : Cond.selects RX0 yX0_turnRound yX0_turnRound ∈ ax_GT := ax_T4 (i := 48) (by decide +kernel) rfl
def im_X0_leave : List (Nat × Instr × Nat) := [(0, .aload_n 0, 1), (1, .iconst 0, 1), (2, .putfield 18, 3), (5, .aload_n 0, 1), (6, .iload_n 1, 1), (7, .putfield 41, 3), (10, .aload_n 0, 1), (11, .iconst 1, 1), (12, .aload_n 0, 1), (13, .getfield 26, 3), (16, .isub, 1), (17, .putfield 44, 3), (20, .return_, 1)]
theorem ok_X0_leave : ax_im cX0_leave im_X0_leave := ax_im_of (by decide +kernel)
theorem cal_X0_leave : ax_cal yX0_leave cX0_leave 2 none 1 := ⟨ax_T4 (i := 87) rfl rfl, ax_T1 (i := 14) (by decide +kernel) rfl, by decide, by decide +kernel, by decide⟩
theorem ins_X0_leave : Cond.instanceMethod yX0_leave ∈ ax_GT := ax_T4 (i := 79) (by decide +kernel) rfl
theorem sel_X0_leave : Cond.selects RX0 yX0_leave yX0_leave ∈ ax_GT := ax_T4 (i := 80) (by decide +kernel) rfl
def im_X0_note : List (Nat × Instr × Nat) := [(0, .aload_n 0, 1), (1, .aload_n 0, 1), (2, .getfield 22, 3), (5, .putfield 47, 3), (8, .aload_n 0, 1), (9, .aload_n 0, 1), (10, .getfield 26, 3), (13, .putfield 50, 3), (16, .return_, 1)]
theorem ok_X0_note : ax_im cX0_note im_X0_note := ax_im_of (by decide +kernel)
theorem cal_X0_note : ax_cal yX0_note cX0_note 1 none 0 := ⟨ax_T4 (i := 201) rfl rfl, ax_T1 (i := 14) (by decide +kernel) rfl, by decide, by decide +kernel, by decide⟩
theorem ins_X0_note : Cond.instanceMethod yX0_note ∈ ax_GT := ax_T4 (i := 193) (by decide +kernel) rfl
theorem sel_X0_note : Cond.selects RX0 yX0_note yX0_note ∈ ax_GT := ax_T4 (i := 194) (by decide +kernel) rfl
def im_X0_isAsNoted : List (Nat × Instr × Nat) := [(0, .aload_n 0, 1), (1, .getfield 22, 3), (4, .aload_n 0, 1), (5, .getfield 47, 3), (8, .if_icmp .ne 18, 3), (11, .aload_n 0, 1), (12, .getfield 26, 3), (15, .aload_n 0, 1), (16, .getfield 50, 3), (19, .if_icmp .ne 7, 3), (22, .iconst 1, 1), (23, .goto 4, 3), (26, .iconst 0, 1), (27, .ireturn, 1)]
theorem ok_X0_isAsNoted : ax_im cX0_isAsNoted im_X0_isAsNoted := ax_im_of (by decide +kernel)
theorem cal_X0_isAsNoted : ax_cal yX0_isAsNoted cX0_isAsNoted 1 (some FieldType.boolean) 0 := ⟨ax_T4 (i := 215) rfl rfl, ax_T1 (i := 14) (by decide +kernel) rfl, by decide, by decide +kernel, by decide⟩
theorem ins_X0_isAsNoted : Cond.instanceMethod yX0_isAsNoted ∈ ax_GT := ax_T4 (i := 207) (by decide +kernel) rfl
theorem sel_X0_isAsNoted : Cond.selects RX0 yX0_isAsNoted yX0_isAsNoted ∈ ax_GT := ax_T4 (i := 208) (by decide +kernel) rfl
def im_X0_keepTraits : List (Nat × Instr × Nat) := [(0, .aload_n 0, 1), (1, .getfield 9, 3), (4, .iconst 0, 1), (5, .aload_n 0, 1), (6, .getfield 15, 3), (9, .iconst 0, 1), (10, .iconst 4, 1), (11, .invokestatic 53, 3), (14, .return_, 1)]
theorem ok_X0_keepTraits : ax_im cX0_keepTraits im_X0_keepTraits := ax_im_of (by decide +kernel)
theorem cal_X0_keepTraits : ax_cal yX0_keepTraits cX0_keepTraits 1 none 0 := ⟨ax_T4 (i := 234) rfl rfl, ax_T1 (i := 14) (by decide +kernel) rfl, by decide, by decide +kernel, by decide⟩
theorem ins_X0_keepTraits : Cond.instanceMethod yX0_keepTraits ∈ ax_GT := ax_T4 (i := 226) (by decide +kernel) rfl
theorem sel_X0_keepTraits : Cond.selects RX0 yX0_keepTraits yX0_keepTraits ∈ ax_GT := ax_T4 (i := 227) (by decide +kernel) rfl
def im_X0_layTraitsBack : List (Nat × Instr × Nat) := [(0, .aload_n 0, 1), (1, .getfield 15, 3), (4, .iconst 0, 1), (5, .aload_n 0, 1), (6, .getfield 9, 3), (9, .iconst 0, 1), (10, .iconst 4, 1), (11, .invokestatic 53, 3), (14, .return_, 1)]
theorem ok_X0_layTraitsBack : ax_im cX0_layTraitsBack im_X0_layTraitsBack := ax_im_of (by decide +kernel)
theorem cal_X0_layTraitsBack : ax_cal yX0_layTraitsBack cX0_layTraitsBack 1 none 0 := ⟨ax_T5 (i := 9) rfl rfl, ax_T1 (i := 14) (by decide +kernel) rfl, by decide, by decide +kernel, by decide⟩
theorem ins_X0_layTraitsBack : Cond.instanceMethod yX0_layTraitsBack ∈ ax_GT := ax_T5 (i := 1) (by decide +kernel) rfl
theorem sel_X0_layTraitsBack : Cond.selects RX0 yX0_layTraitsBack yX0_layTraitsBack ∈ ax_GT := ax_T5 (i := 2) (by decide +kernel) rfl
def im_X1_init : List (Nat × Instr × Nat) := [(0, .aload_n 0, 1), (1, .invokespecial 3, 3), (4, .return_, 1)]
theorem ok_X1_init : ax_im cX1_init im_X1_init := ax_im_of (by decide +kernel)
theorem cal_X1_init : ax_cal yX1_init cX1_init 1 none 0 := ⟨ax_T3 (i := 84) rfl rfl, ax_T1 (i := 19) (by decide +kernel) rfl, by decide, by decide +kernel, by decide⟩
theorem ins_X1_init : Cond.instanceMethod yX1_init ∈ ax_GT := ax_T3 (i := 83) (by decide +kernel) rfl
def im_X1_kind : List (Nat × Instr × Nat) := [(0, .iconst 5, 1), (1, .ireturn, 1)]
theorem ok_X1_kind : ax_im cX1_kind im_X1_kind := ax_im_of (by decide +kernel)
theorem cal_X1_kind : ax_cal yX1_kind cX1_kind 1 (some FieldType.int) 0 := ⟨ax_T3 (i := 135) rfl rfl, ax_T1 (i := 19) (by decide +kernel) rfl, by decide, by decide +kernel, by decide⟩
theorem ins_X1_kind : Cond.instanceMethod yX1_kind ∈ ax_GT := ax_T3 (i := 134) (by decide +kernel) rfl
def im_X1_returns : List (Nat × Instr × Nat) := [(0, .aload_n 0, 1), (1, .getfield 9, 3), (4, .iconst 2, 1), (5, .irem, 1), (6, .ifCond .ne 14, 3), (9, .aload_n 0, 1), (10, .invokespecial 15, 3), (13, .ifCond .eq 7, 3), (16, .iconst 1, 1), (17, .goto 4, 3), (20, .iconst 0, 1), (21, .ireturn, 1)]
theorem ok_X1_returns : ax_im cX1_returns im_X1_returns := ax_im_of (by decide +kernel)
theorem cal_X1_returns : ax_cal yX1_returns cX1_returns 1 (some FieldType.boolean) 0 := ⟨ax_T4 (i := 66) rfl rfl, ax_T1 (i := 19) (by decide +kernel) rfl, by decide, by decide +kernel, by decide⟩
theorem ins_X1_returns : Cond.instanceMethod yX1_returns ∈ ax_GT := ax_T4 (i := 65) (by decide +kernel) rfl
def im_X1_weighs : List (Nat × Instr × Nat) := [(0, .aload_n 0, 1), (1, .invokespecial 19, 3), (4, .aload_n 0, 1), (5, .getfield 23, 3), (8, .iconst 3, 1), (9, .iaload, 1), (10, .iadd, 1), (11, .ireturn, 1)]
theorem ok_X1_weighs : ax_im cX1_weighs im_X1_weighs := ax_im_of (by decide +kernel)
theorem cal_X1_weighs : ax_cal yX1_weighs cX1_weighs 1 (some FieldType.int) 0 := ⟨ax_T3 (i := 155) rfl rfl, ax_T1 (i := 19) (by decide +kernel) rfl, by decide, by decide +kernel, by decide⟩
theorem ins_X1_weighs : Cond.instanceMethod yX1_weighs ∈ ax_GT := ax_T3 (i := 154) (by decide +kernel) rfl
def im_X3_init : List (Nat × Instr × Nat) := [(0, .aload_n 0, 1), (1, .invokespecial 3, 3), (4, .return_, 1)]
theorem ok_X3_init : ax_im cX3_init im_X3_init := ax_im_of (by decide +kernel)
theorem cal_X3_init : ax_cal yX3_init cX3_init 1 none 0 := ⟨ax_T3 (i := 64) rfl rfl, ax_T1 (i := 18) (by decide +kernel) rfl, by decide, by decide +kernel, by decide⟩
theorem ins_X3_init : Cond.instanceMethod yX3_init ∈ ax_GT := ax_T3 (i := 63) (by decide +kernel) rfl
def im_X3_kind : List (Nat × Instr × Nat) := [(0, .iconst 4, 1), (1, .ireturn, 1)]
theorem ok_X3_kind : ax_im cX3_kind im_X3_kind := ax_im_of (by decide +kernel)
theorem cal_X3_kind : ax_cal yX3_kind cX3_kind 1 (some FieldType.int) 0 := ⟨ax_T3 (i := 138) rfl rfl, ax_T1 (i := 18) (by decide +kernel) rfl, by decide, by decide +kernel, by decide⟩
theorem ins_X3_kind : Cond.instanceMethod yX3_kind ∈ ax_GT := ax_T3 (i := 137) (by decide +kernel) rfl
def im_X3_turns : List (Nat × Instr × Nat) := [(0, .aload_n 0, 1), (1, .getfield 9, 3), (4, .aload_n 0, 1), (5, .getfield 15, 3), (8, .iconst 3, 1), (9, .iaload, 1), (10, .if_icmp .eq 14, 3), (13, .aload_n 0, 1), (14, .invokespecial 19, 3), (17, .ifCond .eq 7, 3), (20, .iconst 1, 1), (21, .goto 4, 3), (24, .iconst 0, 1), (25, .ireturn, 1)]
theorem ok_X3_turns : ax_im cX3_turns im_X3_turns := ax_im_of (by decide +kernel)
theorem cal_X3_turns : ax_cal yX3_turns cX3_turns 1 (some FieldType.boolean) 0 := ⟨ax_T4 (i := 22) rfl rfl, ax_T1 (i := 18) (by decide +kernel) rfl, by decide, by decide +kernel, by decide⟩
theorem ins_X3_turns : Cond.instanceMethod yX3_turns ∈ ax_GT := ax_T4 (i := 21) (by decide +kernel) rfl
def im_X3_returns : List (Nat × Instr × Nat) := [(0, .aload_n 0, 1), (1, .getfield 23, 3), (4, .ifCond .eq 10, 3), (7, .aload_n 0, 1), (8, .invokespecial 26, 3), (11, .ifCond .eq 7, 3), (14, .iconst 1, 1), (15, .goto 4, 3), (18, .iconst 0, 1), (19, .ireturn, 1)]
theorem ok_X3_returns : ax_im cX3_returns im_X3_returns := ax_im_of (by decide +kernel)
theorem cal_X3_returns : ax_cal yX3_returns cX3_returns 1 (some FieldType.boolean) 0 := ⟨ax_T4 (i := 72) rfl rfl, ax_T1 (i := 18) (by decide +kernel) rfl, by decide, by decide +kernel, by decide⟩
theorem ins_X3_returns : Cond.instanceMethod yX3_returns ∈ ax_GT := ax_T4 (i := 71) (by decide +kernel) rfl
def im_X3_weighs : List (Nat × Instr × Nat) := [(0, .aload_n 0, 1), (1, .invokespecial 29, 3), (4, .iconst 3, 1), (5, .iadd, 1), (6, .ireturn, 1)]
theorem ok_X3_weighs : ax_im cX3_weighs im_X3_weighs := ax_im_of (by decide +kernel)
theorem cal_X3_weighs : ax_cal yX3_weighs cX3_weighs 1 (some FieldType.int) 0 := ⟨ax_T3 (i := 162) rfl rfl, ax_T1 (i := 18) (by decide +kernel) rfl, by decide, by decide +kernel, by decide⟩
theorem ins_X3_weighs : Cond.instanceMethod yX3_weighs ∈ ax_GT := ax_T3 (i := 161) (by decide +kernel) rfl
def im_X4_init : List (Nat × Instr × Nat) := [(0, .aload_n 0, 1), (1, .invokespecial 3, 3), (4, .aload_n 0, 1), (5, .aload_n 1, 1), (6, .iload 5, 2), (8, .invokestatic 9, 3), (11, .putfield 15, 3), (14, .aload_n 0, 1), (15, .aload_n 2, 1), (16, .iload 5, 2), (18, .invokestatic 9, 3), (21, .putfield 21, 3), (24, .aload_n 0, 1), (25, .aload_n 3, 1), (26, .iload 5, 2), (28, .invokestatic 9, 3), (31, .putfield 24, 3), (34, .aload_n 0, 1), (35, .aload 4, 2), (37, .iconst 3, 1), (38, .invokestatic 9, 3), (41, .putfield 27, 3), (44, .aload_n 0, 1), (45, .iload 5, 2), (47, .newarray .int, 2), (49, .putfield 30, 3), (52, .return_, 1)]
theorem ok_X4_init : ax_im cX4_init im_X4_init := ax_im_of (by decide +kernel)
theorem cal_X4_init : ax_cal yX4_init cX4_init 6 none 5 := ⟨ax_T2 (i := 83) rfl rfl, ax_T1 (i := 9) (by decide +kernel) rfl, by decide, by decide +kernel, by decide⟩
theorem ins_X4_init : Cond.instanceMethod yX4_init ∈ ax_GT := ax_T2 (i := 82) (by decide +kernel) rfl
def im_X4_worth_0 : List (Nat × Instr × Nat) := [(0, .iload_n 1, 1), (1, .ifCond .ne 7, 3), (4, .iconst 0, 1), (5, .goto 13, 3), (8, .aload_n 0, 1), (9, .getfield 27, 3), (12, .iload_n 1, 1), (13, .iconst 1, 1), (14, .isub, 1), (15, .iaload, 1), (16, .iconst 1, 1), (17, .iadd, 1), (18, .istore_n 3, 1), (19, .aload_n 0, 1), (20, .getfield 27, 3), (23, .iload_n 1, 1), (24, .iaload, 1), (25, .istore 4, 2), (27, .iload_n 3, 1), (28, .istore 5, 2), (30, .iload 5, 2), (32, .iload 4, 2), (34, .if_icmp .gt 181, 3), (37, .aload_n 0, 1), (38, .getfield 21, 3), (41, .iload 5, 2), (43, .iaload, 1), (44, .istore 6, 2), (46, .aload_n 0, 1), (47, .getfield 15, 3), (50, .iload 5, 2), (52, .iaload, 1), (53, .tableswitch 120 2 10 #[51, 63, 77, 120, 120, 120, 120, 120, 95], 51), (104, .aload_n 0, 1), (105, .getfield 30, 3), (108, .iload 5, 2), (110, .iload 6, 2), (112, .iastore, 1), (113, .goto 96, 3), (116, .aload_n 0, 1), (117, .getfield 30, 3), (120, .iload 5, 2), (122, .aload_n 2, 1), (123, .iload 6, 2), (125, .iaload, 1), (126, .iastore, 1), (127, .goto 82, 3), (130, .aload_n 0, 1), (131, .getfield 30, 3), (134, .iload 5, 2)]
theorem ok_X4_worth_0 : ax_im cX4_worth im_X4_worth_0 := ax_im_of (by decide +kernel)
def im_X4_worth_1 : List (Nat × Instr × Nat) := [(136, .aload_n 0, 1), (137, .getfield 30, 3), (140, .iload 6, 2), (142, .iaload, 1), (143, .ineg, 1), (144, .iastore, 1), (145, .goto 64, 3), (148, .aload_n 0, 1), (149, .getfield 30, 3), (152, .iload 5, 2), (154, .aload_n 0, 1), (155, .getfield 30, 3), (158, .iload 6, 2), (160, .iaload, 1), (161, .ifCond .ne 7, 3), (164, .iconst 1, 1), (165, .goto 4, 3), (168, .iconst 0, 1), (169, .iastore, 1), (170, .goto 39, 3), (173, .aload_n 0, 1), (174, .getfield 30, 3), (177, .iload 5, 2), (179, .aload_n 0, 1), (180, .getfield 15, 3), (183, .iload 5, 2), (185, .iaload, 1), (186, .aload_n 0, 1), (187, .getfield 30, 3), (190, .iload 6, 2), (192, .iaload, 1), (193, .aload_n 0, 1), (194, .getfield 30, 3), (197, .aload_n 0, 1), (198, .getfield 24, 3), (201, .iload 5, 2), (203, .iaload, 1), (204, .iaload, 1), (205, .invokestatic 33, 3), (208, .iastore, 1), (209, .iinc 5 1, 3), (212, .goto (-182), 3), (215, .aload_n 0, 1), (216, .getfield 30, 3), (219, .iload 4, 2), (221, .iaload, 1), (222, .ireturn, 1)]
theorem ok_X4_worth_1 : ax_im cX4_worth im_X4_worth_1 := ax_im_of (by decide +kernel)
def im_X4_worth : List (Nat × Instr × Nat) := im_X4_worth_0 ++ (im_X4_worth_1)
theorem ok_X4_worth : ax_im cX4_worth im_X4_worth := ax_im_app ok_X4_worth_0 (ok_X4_worth_1)
theorem cal_X4_worth : ax_cal yX4_worth cX4_worth 7 (some FieldType.int) 2 := ⟨ax_T4 (i := 38) rfl rfl, ax_T1 (i := 9) (by decide +kernel) rfl, by decide, by decide +kernel, by decide⟩
theorem ins_X4_worth : Cond.instanceMethod yX4_worth ∈ ax_GT := ax_T4 (i := 36) (by decide +kernel) rfl
theorem sel_X4_worth : Cond.selects RX4 yX4_worth yX4_worth ∈ ax_GT := ax_T4 (i := 37) (by decide +kernel) rfl
def im_X4_joined : List (Nat × Instr × Nat) := [(0, .iload_n 0, 1), (1, .lookupswitch 107 #[(9, 93), (42, 67), (43, 59), (45, 63), (60, 71), (61, 82)], 59), (60, .iload_n 1, 1), (61, .iload_n 2, 1), (62, .iadd, 1), (63, .ireturn, 1), (64, .iload_n 1, 1), (65, .iload_n 2, 1), (66, .isub, 1), (67, .ireturn, 1), (68, .iload_n 1, 1), (69, .iload_n 2, 1), (70, .imul, 1), (71, .ireturn, 1), (72, .iload_n 1, 1), (73, .iload_n 2, 1), (74, .if_icmp .ge 7, 3), (77, .iconst 1, 1), (78, .goto 4, 3), (81, .iconst 0, 1), (82, .ireturn, 1), (83, .iload_n 1, 1), (84, .iload_n 2, 1), (85, .if_icmp .ne 7, 3), (88, .iconst 1, 1), (89, .goto 4, 3), (92, .iconst 0, 1), (93, .ireturn, 1), (94, .iload_n 1, 1), (95, .ifCond .eq 11, 3), (98, .iload_n 2, 1), (99, .ifCond .eq 7, 3), (102, .iconst 1, 1), (103, .goto 4, 3), (106, .iconst 0, 1), (107, .ireturn, 1), (108, .iload_n 1, 1), (109, .ifCond .ne 7, 3), (112, .iload_n 2, 1), (113, .ifCond .eq 7, 3), (116, .iconst 1, 1), (117, .goto 4, 3), (120, .iconst 0, 1), (121, .ireturn, 1)]
theorem ok_X4_joined : ax_im cX4_joined im_X4_joined := ax_im_of (by decide +kernel)
theorem cal_X4_joined : ax_cal yX4_joined cX4_joined 3 (some FieldType.int) 3 := ⟨ax_T4 (i := 41) rfl rfl, ax_T1 (i := 9) (by decide +kernel) rfl, by decide, by decide +kernel, by decide⟩
theorem stc_X4_joined : Cond.static yX4_joined ∈ ax_GT := ax_T4 (i := 40) (by decide +kernel) rfl
def im_X5_init : List (Nat × Instr × Nat) := [(0, .aload_n 0, 1), (1, .invokespecial 3, 3), (4, .aload_n 0, 1), (5, .iconst (-1), 1), (6, .putfield 9, 3), (9, .aload_n 0, 1), (10, .bipush 40, 2), (12, .newarray .int, 2), (14, .putfield 15, 3), (17, .return_, 1)]
theorem ok_X5_init : ax_im cX5_init im_X5_init := ax_im_of (by decide +kernel)
theorem cal_X5_init : ax_cal yX5_init cX5_init 1 none 0 := ⟨ax_T1 (i := 155) rfl rfl, ax_T1 (i := 4) (by decide +kernel) rfl, by decide, by decide +kernel, by decide⟩
theorem ins_X5_init : Cond.instanceMethod yX5_init ∈ ax_GT := ax_T1 (i := 154) (by decide +kernel) rfl
def im_X5_isMissing : List (Nat × Instr × Nat) := [(0, .aload_n 0, 1), (1, .getfield 9, 3), (4, .iconst (-1), 1), (5, .if_icmp .ne 7, 3), (8, .iconst 1, 1), (9, .goto 4, 3), (12, .iconst 0, 1), (13, .ireturn, 1)]
theorem ok_X5_isMissing : ax_im cX5_isMissing im_X5_isMissing := ax_im_of (by decide +kernel)
theorem cal_X5_isMissing : ax_cal yX5_isMissing cX5_isMissing 1 (some FieldType.boolean) 0 := ⟨ax_T4 (i := 170) rfl rfl, ax_T1 (i := 4) (by decide +kernel) rfl, by decide, by decide +kernel, by decide⟩
theorem ins_X5_isMissing : Cond.instanceMethod yX5_isMissing ∈ ax_GT := ax_T4 (i := 168) (by decide +kernel) rfl
theorem sel_X5_isMissing : Cond.selects RX5 yX5_isMissing yX5_isMissing ∈ ax_GT := ax_T4 (i := 169) (by decide +kernel) rfl
def im_X5_become : List (Nat × Instr × Nat) := [(0, .aload_n 0, 1), (1, .iload_n 1, 1), (2, .putfield 9, 3), (5, .aload_n 0, 1), (6, .iload_n 2, 1), (7, .putfield 19, 3), (10, .aload_n 0, 1), (11, .getfield 15, 3), (14, .iconst 0, 1), (15, .invokestatic 22, 3), (18, .return_, 1)]
theorem ok_X5_become : ax_im cX5_become im_X5_become := ax_im_of (by decide +kernel)
theorem cal_X5_become : ax_cal yX5_become cX5_become 3 none 2 := ⟨ax_T5 (i := 24) rfl rfl, ax_T1 (i := 4) (by decide +kernel) rfl, by decide, by decide +kernel, by decide⟩
theorem ins_X5_become : Cond.instanceMethod yX5_become ∈ ax_GT := ax_T5 (i := 22) (by decide +kernel) rfl
theorem sel_X5_become : Cond.selects RX5 yX5_become yX5_become ∈ ax_GT := ax_T5 (i := 23) (by decide +kernel) rfl
def im_X5_write : List (Nat × Instr × Nat) := [(0, .aload_n 0, 1), (1, .getfield 9, 3), (4, .lookupswitch 50 #[(0, 28), (1, 39)], 28), (32, .aload_n 0, 1), (33, .getfield 15, 3), (36, .iload_n 1, 1), (37, .iload_n 2, 1), (38, .i2b, 1), (39, .iastore, 1), (40, .goto 21, 3), (43, .aload_n 0, 1), (44, .getfield 15, 3), (47, .iload_n 1, 1), (48, .iload_n 2, 1), (49, .i2s, 1), (50, .iastore, 1), (51, .goto 10, 3), (54, .aload_n 0, 1), (55, .getfield 15, 3), (58, .iload_n 1, 1), (59, .iload_n 2, 1), (60, .iastore, 1), (61, .return_, 1)]
theorem ok_X5_write : ax_im cX5_write im_X5_write := ax_im_of (by decide +kernel)
theorem cal_X5_write : ax_cal yX5_write cX5_write 3 none 2 := ⟨ax_T5 (i := 35) rfl rfl, ax_T1 (i := 4) (by decide +kernel) rfl, by decide, by decide +kernel, by decide⟩
theorem ins_X5_write : Cond.instanceMethod yX5_write ∈ ax_GT := ax_T5 (i := 33) (by decide +kernel) rfl
theorem sel_X5_write : Cond.selects RX5 yX5_write yX5_write ∈ ax_GT := ax_T5 (i := 34) (by decide +kernel) rfl
def im_X5_has : List (Nat × Instr × Nat) := [(0, .iload_n 1, 1), (1, .ifCond .lt 29, 3), (4, .iload_n 2, 1), (5, .ifCond .lt 25, 3), (8, .iload_n 1, 1), (9, .aload_n 0, 1), (10, .getfield 19, 3), (13, .if_icmp .gt 17, 3), (16, .iload_n 2, 1), (17, .aload_n 0, 1), (18, .getfield 19, 3), (21, .iload_n 1, 1), (22, .isub, 1), (23, .if_icmp .gt 7, 3), (26, .iconst 1, 1), (27, .goto 4, 3), (30, .iconst 0, 1), (31, .ireturn, 1)]
theorem ok_X5_has : ax_im cX5_has im_X5_has := ax_im_of (by decide +kernel)
theorem cal_X5_has : ax_cal yX5_has cX5_has 3 (some FieldType.boolean) 2 := ⟨ax_T5 (i := 43) rfl rfl, ax_T1 (i := 4) (by decide +kernel) rfl, by decide, by decide +kernel, by decide⟩
theorem ins_X5_has : Cond.instanceMethod yX5_has ∈ ax_GT := ax_T5 (i := 41) (by decide +kernel) rfl
theorem sel_X5_has : Cond.selects RX5 yX5_has yX5_has ∈ ax_GT := ax_T5 (i := 42) (by decide +kernel) rfl
def im_X6_init : List (Nat × Instr × Nat) := [(0, .aload_n 0, 1), (1, .invokespecial 3, 3), (4, .return_, 1)]
theorem ok_X6_init : ax_im cX6_init im_X6_init := ax_im_of (by decide +kernel)
theorem cal_X6_init : ax_cal yX6_init cX6_init 1 none 0 := ⟨ax_T3 (i := 24) rfl rfl, ax_T1 (i := 16) (by decide +kernel) rfl, by decide, by decide +kernel, by decide⟩
theorem ins_X6_init : Cond.instanceMethod yX6_init ∈ ax_GT := ax_T3 (i := 23) (by decide +kernel) rfl
def im_X6_kind : List (Nat × Instr × Nat) := [(0, .iconst 2, 1), (1, .ireturn, 1)]
theorem ok_X6_kind : ax_im cX6_kind im_X6_kind := ax_im_of (by decide +kernel)
theorem cal_X6_kind : ax_cal yX6_kind cX6_kind 1 (some FieldType.int) 0 := ⟨ax_T3 (i := 141) rfl rfl, ax_T1 (i := 16) (by decide +kernel) rfl, by decide, by decide +kernel, by decide⟩
theorem ins_X6_kind : Cond.instanceMethod yX6_kind ∈ ax_GT := ax_T3 (i := 140) (by decide +kernel) rfl
def im_X6_returns : List (Nat × Instr × Nat) := [(0, .aload_n 0, 1), (1, .getfield 9, 3), (4, .aload_n 0, 1), (5, .getfield 15, 3), (8, .iconst 3, 1), (9, .iaload, 1), (10, .if_icmp .ge 7, 3), (13, .iconst 1, 1), (14, .goto 4, 3), (17, .iconst 0, 1), (18, .ireturn, 1)]
theorem ok_X6_returns : ax_im cX6_returns im_X6_returns := ax_im_of (by decide +kernel)
theorem cal_X6_returns : ax_cal yX6_returns cX6_returns 1 (some FieldType.boolean) 0 := ⟨ax_T4 (i := 69) rfl rfl, ax_T1 (i := 16) (by decide +kernel) rfl, by decide, by decide +kernel, by decide⟩
theorem ins_X6_returns : Cond.instanceMethod yX6_returns ∈ ax_GT := ax_T4 (i := 68) (by decide +kernel) rfl
def im_X6_weighs : List (Nat × Instr × Nat) := [(0, .aload_n 0, 1), (1, .invokespecial 19, 3), (4, .iconst 2, 1), (5, .idiv, 1), (6, .ireturn, 1)]
theorem ok_X6_weighs : ax_im cX6_weighs im_X6_weighs := ax_im_of (by decide +kernel)
theorem cal_X6_weighs : ax_cal yX6_weighs cX6_weighs 1 (some FieldType.int) 0 := ⟨ax_T3 (i := 158) rfl rfl, ax_T1 (i := 16) (by decide +kernel) rfl, by decide, by decide +kernel, by decide⟩
theorem ins_X6_weighs : Cond.instanceMethod yX6_weighs ∈ ax_GT := ax_T3 (i := 157) (by decide +kernel) rfl
def im_X7_init : List (Nat × Instr × Nat) := [(0, .aload_n 0, 1), (1, .invokespecial 1, 3), (4, .return_, 1)]
theorem ok_X7_init : ax_im cX7_init im_X7_init := ax_im_of (by decide +kernel)
theorem cal_X7_init : ax_cal yX7_init cX7_init 1 none 0 := ⟨ax_T2 (i := 180) rfl rfl, ax_T1 (i := 15) (by decide +kernel) rfl, by decide, by decide +kernel, by decide⟩
theorem ins_X7_init : Cond.instanceMethod yX7_init ∈ ax_GT := ax_T2 (i := 179) (by decide +kernel) rfl
def im_X7_kind : List (Nat × Instr × Nat) := [(0, .iconst 1, 1), (1, .ireturn, 1)]
theorem ok_X7_kind : ax_im cX7_kind im_X7_kind := ax_im_of (by decide +kernel)
theorem cal_X7_kind : ax_cal yX7_kind cX7_kind 1 (some FieldType.int) 0 := ⟨ax_T3 (i := 144) rfl rfl, ax_T1 (i := 15) (by decide +kernel) rfl, by decide, by decide +kernel, by decide⟩
theorem ins_X7_kind : Cond.instanceMethod yX7_kind ∈ ax_GT := ax_T3 (i := 143) (by decide +kernel) rfl
def im_X7_turns : List (Nat × Instr × Nat) := [(0, .iconst 0, 1), (1, .ireturn, 1)]
theorem ok_X7_turns : ax_im cX7_turns im_X7_turns := ax_im_of (by decide +kernel)
theorem cal_X7_turns : ax_cal yX7_turns cX7_turns 1 (some FieldType.boolean) 0 := ⟨ax_T4 (i := 29) rfl rfl, ax_T1 (i := 15) (by decide +kernel) rfl, by decide, by decide +kernel, by decide⟩
theorem ins_X7_turns : Cond.instanceMethod yX7_turns ∈ ax_GT := ax_T4 (i := 28) (by decide +kernel) rfl
def im_X7_weighs : List (Nat × Instr × Nat) := [(0, .aload_n 0, 1), (1, .invokespecial 7, 3), (4, .iconst 1, 1), (5, .iadd, 1), (6, .ireturn, 1)]
theorem ok_X7_weighs : ax_im cX7_weighs im_X7_weighs := ax_im_of (by decide +kernel)
theorem cal_X7_weighs : ax_cal yX7_weighs cX7_weighs 1 (some FieldType.int) 0 := ⟨ax_T3 (i := 167) rfl rfl, ax_T1 (i := 15) (by decide +kernel) rfl, by decide, by decide +kernel, by decide⟩
theorem ins_X7_weighs : Cond.instanceMethod yX7_weighs ∈ ax_GT := ax_T3 (i := 166) (by decide +kernel) rfl
def im_X9_init : List (Nat × Instr × Nat) := [(0, .aload_n 0, 1), (1, .invokespecial 3, 3), (4, .return_, 1)]
theorem ok_X9_init : ax_im cX9_init im_X9_init := ax_im_of (by decide +kernel)
theorem cal_X9_init : ax_cal yX9_init cX9_init 1 none 0 := ⟨ax_T3 (i := 44) rfl rfl, ax_T1 (i := 17) (by decide +kernel) rfl, by decide, by decide +kernel, by decide⟩
theorem ins_X9_init : Cond.instanceMethod yX9_init ∈ ax_GT := ax_T3 (i := 43) (by decide +kernel) rfl
def im_X9_kind : List (Nat × Instr × Nat) := [(0, .iconst 3, 1), (1, .ireturn, 1)]
theorem ok_X9_kind : ax_im cX9_kind im_X9_kind := ax_im_of (by decide +kernel)
theorem cal_X9_kind : ax_cal yX9_kind cX9_kind 1 (some FieldType.int) 0 := ⟨ax_T3 (i := 147) rfl rfl, ax_T1 (i := 17) (by decide +kernel) rfl, by decide, by decide +kernel, by decide⟩
theorem ins_X9_kind : Cond.instanceMethod yX9_kind ∈ ax_GT := ax_T3 (i := 146) (by decide +kernel) rfl
def im_X9_turns : List (Nat × Instr × Nat) := [(0, .aload_n 0, 1), (1, .getfield 9, 3), (4, .aload_n 0, 1), (5, .getfield 15, 3), (8, .iconst 3, 1), (9, .iaload, 1), (10, .if_icmp .lt 10, 3), (13, .aload_n 0, 1), (14, .invokespecial 19, 3), (17, .ifCond .eq 7, 3), (20, .iconst 1, 1), (21, .goto 4, 3), (24, .iconst 0, 1), (25, .ireturn, 1)]
theorem ok_X9_turns : ax_im cX9_turns im_X9_turns := ax_im_of (by decide +kernel)
theorem cal_X9_turns : ax_cal yX9_turns cX9_turns 1 (some FieldType.boolean) 0 := ⟨ax_T4 (i := 32) rfl rfl, ax_T1 (i := 17) (by decide +kernel) rfl, by decide, by decide +kernel, by decide⟩
theorem ins_X9_turns : Cond.instanceMethod yX9_turns ∈ ax_GT := ax_T4 (i := 31) (by decide +kernel) rfl
def im_X9_weighs : List (Nat × Instr × Nat) := [(0, .iconst 2, 1), (1, .aload_n 0, 1), (2, .invokespecial 23, 3), (5, .imul, 1), (6, .ireturn, 1)]
theorem ok_X9_weighs : ax_im cX9_weighs im_X9_weighs := ax_im_of (by decide +kernel)
theorem cal_X9_weighs : ax_cal yX9_weighs cX9_weighs 1 (some FieldType.int) 0 := ⟨ax_T3 (i := 171) rfl rfl, ax_T1 (i := 17) (by decide +kernel) rfl, by decide, by decide +kernel, by decide⟩
theorem ins_X9_weighs : Cond.instanceMethod yX9_weighs ∈ ax_GT := ax_T3 (i := 170) (by decide +kernel) rfl
def im_J6_compare_7cf53 : List (Nat × Instr × Nat) := [(0, .iload_n 0, 1), (1, .iload_n 1, 1), (2, .if_icmp .ge 7, 3), (5, .iconst (-1), 1), (6, .goto 13, 3), (9, .iload_n 0, 1), (10, .iload_n 1, 1), (11, .if_icmp .ne 7, 3), (14, .iconst 0, 1), (15, .goto 4, 3), (18, .iconst 1, 1), (19, .ireturn, 1)]
theorem ok_J6_compare_7cf53 : ax_im cJ6_compare_7cf53 im_J6_compare_7cf53 := ax_im_of (by decide +kernel)
theorem cal_J6_compare_7cf53 : ax_cal yJ6_compare_7cf53 cJ6_compare_7cf53 2 (some FieldType.int) 2 := ⟨ax_T4 (i := 134) rfl rfl, ax_T1 (i := 20) (by decide +kernel) rfl, by decide, by decide +kernel, by decide⟩
theorem stc_J6_compare_7cf53 : Cond.static yJ6_compare_7cf53 ∈ ax_GT := ax_T4 (i := 133) (by decide +kernel) rfl
def im_J6_bitCount_0f7a4 : List (Nat × Instr × Nat) := [(0, .iload_n 0, 1), (1, .iload_n 0, 1), (2, .iconst 1, 1), (3, .iushr, 1), (4, .ldc_w 265, 3), (7, .iand, 1), (8, .isub, 1), (9, .istore_n 0, 1), (10, .iload_n 0, 1), (11, .ldc_w 266, 3), (14, .iand, 1), (15, .iload_n 0, 1), (16, .iconst 2, 1), (17, .iushr, 1), (18, .ldc_w 266, 3), (21, .iand, 1), (22, .iadd, 1), (23, .istore_n 0, 1), (24, .iload_n 0, 1), (25, .iload_n 0, 1), (26, .iconst 4, 1), (27, .iushr, 1), (28, .iadd, 1), (29, .ldc_w 267, 3), (32, .iand, 1), (33, .istore_n 0, 1), (34, .iload_n 0, 1), (35, .iload_n 0, 1), (36, .bipush 8, 2), (38, .iushr, 1), (39, .iadd, 1), (40, .istore_n 0, 1), (41, .iload_n 0, 1), (42, .iload_n 0, 1), (43, .bipush 16, 2), (45, .iushr, 1), (46, .iadd, 1), (47, .istore_n 0, 1), (48, .iload_n 0, 1), (49, .bipush 63, 2), (51, .iand, 1), (52, .ireturn, 1)]
theorem ok_J6_bitCount_0f7a4 : ax_im cJ6_bitCount_0f7a4 im_J6_bitCount_0f7a4 := ax_im_of (by decide +kernel)
theorem cal_J6_bitCount_0f7a4 : ax_cal yJ6_bitCount_0f7a4 cJ6_bitCount_0f7a4 1 (some FieldType.int) 1 := ⟨ax_T3 (i := 239) rfl rfl, ax_T1 (i := 20) (by decide +kernel) rfl, by decide, by decide +kernel, by decide⟩
theorem stc_J6_bitCount_0f7a4 : Cond.static yJ6_bitCount_0f7a4 ∈ ax_GT := ax_T3 (i := 238) (by decide +kernel) rfl
def im_J9_max_7cf53 : List (Nat × Instr × Nat) := [(0, .iload_n 0, 1), (1, .iload_n 1, 1), (2, .if_icmp .lt 7, 3), (5, .iload_n 0, 1), (6, .goto 4, 3), (9, .iload_n 1, 1), (10, .ireturn, 1)]
theorem ok_J9_max_7cf53 : ax_im cJ9_max_7cf53 im_J9_max_7cf53 := ax_im_of (by decide +kernel)
theorem cal_J9_max_7cf53 : ax_cal yJ9_max_7cf53 cJ9_max_7cf53 2 (some FieldType.int) 2 := ⟨ax_T4 (i := 45) rfl rfl, ax_T1 (i := 11) (by decide +kernel) rfl, by decide, by decide +kernel, by decide⟩
theorem stc_J9_max_7cf53 : Cond.static yJ9_max_7cf53 ∈ ax_GT := ax_T4 (i := 44) (by decide +kernel) rfl
def im_J9_min_7cf53 : List (Nat × Instr × Nat) := [(0, .iload_n 0, 1), (1, .iload_n 1, 1), (2, .if_icmp .gt 7, 3), (5, .iload_n 0, 1), (6, .goto 4, 3), (9, .iload_n 1, 1), (10, .ireturn, 1)]
theorem ok_J9_min_7cf53 : ax_im cJ9_min_7cf53 im_J9_min_7cf53 := ax_im_of (by decide +kernel)
theorem cal_J9_min_7cf53 : ax_cal yJ9_min_7cf53 cJ9_min_7cf53 2 (some FieldType.int) 2 := ⟨ax_T2 (i := 97) rfl rfl, ax_T1 (i := 11) (by decide +kernel) rfl, by decide, by decide +kernel, by decide⟩
theorem stc_J9_min_7cf53 : Cond.static yJ9_min_7cf53 ∈ ax_GT := ax_T2 (i := 96) (by decide +kernel) rfl
def im_J0_length_8abf5 : List (Nat × Instr × Nat) := [(0, .aload_n 0, 1), (1, .getfield 9, 3), (4, .arraylength, 1), (5, .aload_n 0, 1), (6, .invokevirtual 335, 3), (9, .ishr, 1), (10, .ireturn, 1)]
theorem ok_J0_length_8abf5 : ax_im cJ0_length_8abf5 im_J0_length_8abf5 := ax_im_of (by decide +kernel)
theorem cal_J0_length_8abf5 : ax_cal yJ0_length_8abf5 cJ0_length_8abf5 1 (some FieldType.int) 0 := ⟨ax_T1 (i := 174) rfl rfl, ax_T1 (i := 5) (by decide +kernel) rfl, by decide, by decide +kernel, by decide⟩
theorem ins_J0_length_8abf5 : Cond.instanceMethod yJ0_length_8abf5 ∈ ax_GT := ax_T1 (i := 172) (by decide +kernel) rfl
theorem sel_J0_length_8abf5 : Cond.selects RJ0 yJ0_length_8abf5 yJ0_length_8abf5 ∈ ax_GT := ax_T1 (i := 173) (by decide +kernel) rfl
def im_J0_charAt_5068e : List (Nat × Instr × Nat) := [(0, .aload_n 0, 1), (1, .invokevirtual 492, 3), (4, .ifCond .eq 12, 3), (7, .aload_n 0, 1), (8, .getfield 9, 3), (11, .iload_n 1, 1), (12, .invokestatic 495, 3), (15, .ireturn, 1), (16, .aload_n 0, 1), (17, .getfield 9, 3), (20, .iload_n 1, 1), (21, .invokestatic 498, 3), (24, .ireturn, 1)]
theorem ok_J0_charAt_5068e : ax_im cJ0_charAt_5068e im_J0_charAt_5068e := ax_im_of (by decide +kernel)
theorem cal_J0_charAt_5068e : ax_cal yJ0_charAt_5068e cJ0_charAt_5068e 2 (some FieldType.char) 1 := ⟨ax_T1 (i := 184) rfl rfl, ax_T1 (i := 5) (by decide +kernel) rfl, by decide, by decide +kernel, by decide⟩
theorem ins_J0_charAt_5068e : Cond.instanceMethod yJ0_charAt_5068e ∈ ax_GT := ax_T1 (i := 182) (by decide +kernel) rfl
theorem sel_J0_charAt_5068e : Cond.selects RJ0 yJ0_charAt_5068e yJ0_charAt_5068e ∈ ax_GT := ax_T1 (i := 183) (by decide +kernel) rfl
def im_J0_coder_7d493 : List (Nat × Instr × Nat) := [(0, .getstatic 38, 3), (3, .ifCond .eq 10, 3), (6, .aload_n 0, 1), (7, .getfield 15, 3), (10, .goto 4, 3), (13, .iconst 1, 1), (14, .ireturn, 1)]
theorem ok_J0_coder_7d493 : ax_im cJ0_coder_7d493 im_J0_coder_7d493 := ax_im_of (by decide +kernel)
theorem cal_J0_coder_7d493 : ax_cal yJ0_coder_7d493 cJ0_coder_7d493 1 (some FieldType.byte) 0 := ⟨ax_T1 (i := 178) rfl rfl, ax_T1 (i := 5) (by decide +kernel) rfl, by decide, by decide +kernel, by decide⟩
theorem ins_J0_coder_7d493 : Cond.instanceMethod yJ0_coder_7d493 ∈ ax_GT := ax_T1 (i := 176) (by decide +kernel) rfl
theorem sel_J0_coder_7d493 : Cond.selects RJ0 yJ0_coder_7d493 yJ0_coder_7d493 ∈ ax_GT := ax_T1 (i := 177) (by decide +kernel) rfl
def im_J0_isLatin1_aae02 : List (Nat × Instr × Nat) := [(0, .getstatic 38, 3), (3, .ifCond .eq 14, 3), (6, .aload_n 0, 1), (7, .getfield 15, 3), (10, .ifCond .ne 7, 3), (13, .iconst 1, 1), (14, .goto 4, 3), (17, .iconst 0, 1), (18, .ireturn, 1)]
theorem ok_J0_isLatin1_aae02 : ax_im cJ0_isLatin1_aae02 im_J0_isLatin1_aae02 := ax_im_of (by decide +kernel)
theorem cal_J0_isLatin1_aae02 : ax_cal yJ0_isLatin1_aae02 cJ0_isLatin1_aae02 1 (some FieldType.boolean) 0 := ⟨ax_T1 (i := 188) rfl rfl, ax_T1 (i := 5) (by decide +kernel) rfl, by decide, by decide +kernel, by decide⟩
theorem ins_J0_isLatin1_aae02 : Cond.instanceMethod yJ0_isLatin1_aae02 ∈ ax_GT := ax_T1 (i := 186) (by decide +kernel) rfl
theorem sel_J0_isLatin1_aae02 : Cond.selects RJ0 yJ0_isLatin1_aae02 yJ0_isLatin1_aae02 ∈ ax_GT := ax_T1 (i := 187) (by decide +kernel) rfl
def im_J0_checkIndex_df160 : List (Nat × Instr × Nat) := [(0, .iload_n 0, 1), (1, .iload_n 1, 1), (2, .getstatic 1053, 3), (5, .invokestatic 1059, 3), (8, .pop, 1), (9, .return_, 1)]
theorem ok_J0_checkIndex_df160 : ax_im cJ0_checkIndex_df160 im_J0_checkIndex_df160 := ax_im_of (by decide +kernel)
theorem cal_J0_checkIndex_df160 : ax_cal yJ0_checkIndex_df160 cJ0_checkIndex_df160 2 none 2 := ⟨ax_T1 (i := 194) rfl rfl, ax_T1 (i := 5) (by decide +kernel) rfl, by decide, by decide +kernel, by decide⟩
theorem stc_J0_checkIndex_df160 : Cond.static yJ0_checkIndex_df160 ∈ ax_GT := ax_T1 (i := 193) (by decide +kernel) rfl
def im_J1_charAt_3b067 : List (Nat × Instr × Nat) := [(0, .iload_n 1, 1), (1, .aload_n 0, 1), (2, .arraylength, 1), (3, .invokestatic 9, 3), (6, .aload_n 0, 1), (7, .iload_n 1, 1), (8, .baload, 1), (9, .sipush 255, 3), (12, .iand, 1), (13, .i2c, 1), (14, .ireturn, 1)]
theorem ok_J1_charAt_3b067 : ax_im cJ1_charAt_3b067 im_J1_charAt_3b067 := ax_im_of (by decide +kernel)
theorem cal_J1_charAt_3b067 : ax_cal yJ1_charAt_3b067 cJ1_charAt_3b067 2 (some FieldType.char) 2 := ⟨ax_T1 (i := 191) rfl rfl, ax_T1 (i := 6) (by decide +kernel) rfl, by decide, by decide +kernel, by decide⟩
theorem stc_J1_charAt_3b067 : Cond.static yJ1_charAt_3b067 ∈ ax_GT := ax_T1 (i := 190) (by decide +kernel) rfl
def im_J2_getChar_3b067 : List (Nat × Instr × Nat) := [(0, .getstatic 44, 3), (3, .ifCond .ne 25, 3), (6, .iload_n 1, 1), (7, .ifCond .lt 11, 3), (10, .iload_n 1, 1), (11, .aload_n 0, 1), (12, .invokestatic 48, 3), (15, .if_icmp .lt 13, 3), (18, .new 52, 3), (21, .dup, 1), (22, .ldc 54, 2), (24, .invokespecial 56, 3), (27, .athrow, 1), (28, .iload_n 1, 1), (29, .iconst 1, 1), (30, .ishl, 1), (31, .istore_n 1, 1), (32, .aload_n 0, 1), (33, .iload_n 1, 1), (34, .iinc 1 1, 3), (37, .baload, 1), (38, .sipush 255, 3), (41, .iand, 1), (42, .getstatic 59, 3), (45, .ishl, 1), (46, .aload_n 0, 1), (47, .iload_n 1, 1), (48, .baload, 1), (49, .sipush 255, 3), (52, .iand, 1), (53, .getstatic 63, 3), (56, .ishl, 1), (57, .ior, 1), (58, .i2c, 1), (59, .ireturn, 1)]
theorem ok_J2_getChar_3b067 : ax_im cJ2_getChar_3b067 im_J2_getChar_3b067 := ax_im_of (by decide +kernel)
theorem cal_J2_getChar_3b067 : ax_cal yJ2_getChar_3b067 cJ2_getChar_3b067 2 (some FieldType.char) 2 := ⟨ax_T1 (i := 212) rfl rfl, ax_T1 (i := 8) (by decide +kernel) rfl, by decide, by decide +kernel, by decide⟩
theorem stc_J2_getChar_3b067 : Cond.static yJ2_getChar_3b067 ∈ ax_GT := ax_T1 (i := 211) (by decide +kernel) rfl
def im_J2_length_9d52b : List (Nat × Instr × Nat) := [(0, .aload_n 0, 1), (1, .arraylength, 1), (2, .iconst 1, 1), (3, .ishr, 1), (4, .ireturn, 1)]
theorem ok_J2_length_9d52b : ax_im cJ2_length_9d52b im_J2_length_9d52b := ax_im_of (by decide +kernel)
theorem cal_J2_length_9d52b : ax_cal yJ2_length_9d52b cJ2_length_9d52b 1 (some FieldType.int) 1 := ⟨ax_T1 (i := 208) rfl rfl, ax_T1 (i := 8) (by decide +kernel) rfl, by decide, by decide +kernel, by decide⟩
theorem stc_J2_length_9d52b : Cond.static yJ2_length_9d52b ∈ ax_GT := ax_T1 (i := 207) (by decide +kernel) rfl
def im_J2_charAt_3b067 : List (Nat × Instr × Nat) := [(0, .iload_n 1, 1), (1, .aload_n 0, 1), (2, .invokestatic 67, 3), (5, .aload_n 0, 1), (6, .iload_n 1, 1), (7, .invokestatic 71, 3), (10, .ireturn, 1)]
theorem ok_J2_charAt_3b067 : ax_im cJ2_charAt_3b067 im_J2_charAt_3b067 := ax_im_of (by decide +kernel)
theorem cal_J2_charAt_3b067 : ax_cal yJ2_charAt_3b067 cJ2_charAt_3b067 2 (some FieldType.char) 2 := ⟨ax_T1 (i := 202) rfl rfl, ax_T1 (i := 8) (by decide +kernel) rfl, by decide, by decide +kernel, by decide⟩
theorem stc_J2_charAt_3b067 : Cond.static yJ2_charAt_3b067 ∈ ax_GT := ax_T1 (i := 201) (by decide +kernel) rfl
def im_J2_checkIndex_2214a : List (Nat × Instr × Nat) := [(0, .iload_n 0, 1), (1, .aload_n 1, 1), (2, .invokestatic 48, 3), (5, .invokestatic 414, 3), (8, .return_, 1)]
theorem ok_J2_checkIndex_2214a : ax_im cJ2_checkIndex_2214a im_J2_checkIndex_2214a := ax_im_of (by decide +kernel)
theorem cal_J2_checkIndex_2214a : ax_cal yJ2_checkIndex_2214a cJ2_checkIndex_2214a 2 none 2 := ⟨ax_T1 (i := 205) rfl rfl, ax_T1 (i := 8) (by decide +kernel) rfl, by decide, by decide +kernel, by decide⟩
theorem stc_J2_checkIndex_2214a : Cond.static yJ2_checkIndex_2214a ∈ ax_GT := ax_T1 (i := 204) (by decide +kernel) rfl
def im_J7_fill_53178 : List (Nat × Instr × Nat) := [(0, .iconst 0, 1), (1, .istore_n 2, 1), (2, .aload_n 0, 1), (3, .arraylength, 1), (4, .istore_n 3, 1), (5, .iload_n 2, 1), (6, .iload_n 3, 1), (7, .if_icmp .ge 13, 3), (10, .aload_n 0, 1), (11, .iload_n 2, 1), (12, .iload_n 1, 1), (13, .iastore, 1), (14, .iinc 2 1, 3), (17, .goto (-12), 3), (20, .return_, 1)]
theorem ok_J7_fill_53178 : ax_im cJ7_fill_53178 im_J7_fill_53178 := ax_im_of (by decide +kernel)
theorem cal_J7_fill_53178 : ax_cal yJ7_fill_53178 cJ7_fill_53178 4 none 2 := ⟨ax_T5 (i := 27) rfl rfl, ax_T1 (i := 10) (by decide +kernel) rfl, by decide, by decide +kernel, by decide⟩
theorem stc_J7_fill_53178 : Cond.static yJ7_fill_53178 ∈ ax_GT := ax_T5 (i := 26) (by decide +kernel) rfl
def im_J7_copyOf_59c91 : List (Nat × Instr × Nat) := [(0, .iload_n 1, 1), (1, .aload_n 0, 1), (2, .arraylength, 1), (3, .if_icmp .ne 11, 3), (6, .aload_n 0, 1), (7, .invokevirtual 316, 3), (10, .checkcast 317, 3), (13, .areturn, 1), (14, .iload_n 1, 1), (15, .newarray .int, 2), (17, .astore_n 2, 1), (18, .aload_n 0, 1), (19, .iconst 0, 1), (20, .aload_n 2, 1), (21, .iconst 0, 1), (22, .aload_n 0, 1), (23, .arraylength, 1), (24, .iload_n 1, 1), (25, .invokestatic 304, 3), (28, .invokestatic 150, 3), (31, .aload_n 2, 1), (32, .areturn, 1)]
theorem ok_J7_copyOf_59c91 : ax_im cJ7_copyOf_59c91 im_J7_copyOf_59c91 := ax_im_of (by decide +kernel)
theorem cal_J7_copyOf_59c91 : ax_cal yJ7_copyOf_59c91 cJ7_copyOf_59c91 3 (some (FieldType.array FieldType.int)) 2 := ⟨ax_T2 (i := 87) rfl rfl, ax_T1 (i := 10) (by decide +kernel) rfl, by decide, by decide +kernel, by decide⟩
theorem stc_J7_copyOf_59c91 : Cond.static yJ7_copyOf_59c91 ∈ ax_GT := ax_T2 (i := 86) (by decide +kernel) rfl
def im_J3_checkIndex_8e157 : List (Nat × Instr × Nat) := [(0, .iload_n 0, 1), (1, .ifCond .lt 8, 3), (4, .iload_n 0, 1), (5, .iload_n 1, 1), (6, .if_icmp .lt 10, 3), (9, .aload_n 2, 1), (10, .iload_n 0, 1), (11, .iload_n 1, 1), (12, .invokestatic 95, 3), (15, .athrow, 1), (16, .iload_n 0, 1), (17, .ireturn, 1)]
theorem ok_J3_checkIndex_8e157 : ax_im cJ3_checkIndex_8e157 im_J3_checkIndex_8e157 := ax_im_of (by decide +kernel)
theorem cal_J3_checkIndex_8e157 : ax_cal yJ3_checkIndex_8e157 cJ3_checkIndex_8e157 3 (some FieldType.int) 3 := ⟨ax_T1 (i := 199) rfl rfl, ax_T1 (i := 7) (by decide +kernel) rfl, by decide, by decide +kernel, by decide⟩
theorem stc_J3_checkIndex_8e157 : Cond.static yJ3_checkIndex_8e157 ∈ ax_GT := ax_T1 (i := 198) (by decide +kernel) rfl
