/-! ===== comparing instructions, cheaply ===== -/
def ax_ieq (i j : Instr) : Bool := match i with
  | .aaload => match j with
    | .aaload => true
    | _ => false
  | .aastore => match j with
    | .aastore => true
    | _ => false
  | .aconst_null => match j with
    | .aconst_null => true
    | _ => false
  | .aload a => match j with
    | .aload c => decide (a = c)
    | _ => false
  | .aload_n a => match j with
    | .aload_n c => decide (a = c)
    | _ => false
  | .anewarray a => match j with
    | .anewarray c => decide (a = c)
    | _ => false
  | .areturn => match j with
    | .areturn => true
    | _ => false
  | .arraylength => match j with
    | .arraylength => true
    | _ => false
  | .astore a => match j with
    | .astore c => decide (a = c)
    | _ => false
  | .astore_n a => match j with
    | .astore_n c => decide (a = c)
    | _ => false
  | .athrow => match j with
    | .athrow => true
    | _ => false
  | .baload => match j with
    | .baload => true
    | _ => false
  | .bastore => match j with
    | .bastore => true
    | _ => false
  | .bipush a => match j with
    | .bipush c => decide (a = c)
    | _ => false
  | .caload => match j with
    | .caload => true
    | _ => false
  | .castore => match j with
    | .castore => true
    | _ => false
  | .checkcast a => match j with
    | .checkcast c => decide (a = c)
    | _ => false
  | .dup => match j with
    | .dup => true
    | _ => false
  | .dup2 => match j with
    | .dup2 => true
    | _ => false
  | .getfield a => match j with
    | .getfield c => decide (a = c)
    | _ => false
  | .getstatic a => match j with
    | .getstatic c => decide (a = c)
    | _ => false
  | .goto a => match j with
    | .goto c => decide (a = c)
    | _ => false
  | .i2b => match j with
    | .i2b => true
    | _ => false
  | .i2c => match j with
    | .i2c => true
    | _ => false
  | .i2l => match j with
    | .i2l => true
    | _ => false
  | .i2s => match j with
    | .i2s => true
    | _ => false
  | .iadd => match j with
    | .iadd => true
    | _ => false
  | .iaload => match j with
    | .iaload => true
    | _ => false
  | .iand => match j with
    | .iand => true
    | _ => false
  | .iastore => match j with
    | .iastore => true
    | _ => false
  | .iconst a => match j with
    | .iconst c => decide (a = c)
    | _ => false
  | .idiv => match j with
    | .idiv => true
    | _ => false
  | .ifCond a b => match j with
    | .ifCond c d => decide (a = c) && decide (b = d)
    | _ => false
  | .if_icmp a b => match j with
    | .if_icmp c d => decide (a = c) && decide (b = d)
    | _ => false
  | .ifnonnull a => match j with
    | .ifnonnull c => decide (a = c)
    | _ => false
  | .iinc a b => match j with
    | .iinc c d => decide (a = c) && decide (b = d)
    | _ => false
  | .iload a => match j with
    | .iload c => decide (a = c)
    | _ => false
  | .iload_n a => match j with
    | .iload_n c => decide (a = c)
    | _ => false
  | .imul => match j with
    | .imul => true
    | _ => false
  | .ineg => match j with
    | .ineg => true
    | _ => false
  | .instanceof a => match j with
    | .instanceof c => decide (a = c)
    | _ => false
  | .invokespecial a => match j with
    | .invokespecial c => decide (a = c)
    | _ => false
  | .invokestatic a => match j with
    | .invokestatic c => decide (a = c)
    | _ => false
  | .invokevirtual a => match j with
    | .invokevirtual c => decide (a = c)
    | _ => false
  | .ior => match j with
    | .ior => true
    | _ => false
  | .irem => match j with
    | .irem => true
    | _ => false
  | .ireturn => match j with
    | .ireturn => true
    | _ => false
  | .ishl => match j with
    | .ishl => true
    | _ => false
  | .ishr => match j with
    | .ishr => true
    | _ => false
  | .istore a => match j with
    | .istore c => decide (a = c)
    | _ => false
  | .istore_n a => match j with
    | .istore_n c => decide (a = c)
    | _ => false
  | .isub => match j with
    | .isub => true
    | _ => false
  | .iushr => match j with
    | .iushr => true
    | _ => false
  | .l2i => match j with
    | .l2i => true
    | _ => false
  | .ladd => match j with
    | .ladd => true
    | _ => false
  | .lcmp => match j with
    | .lcmp => true
    | _ => false
  | .lconst a => match j with
    | .lconst c => decide (a = c)
    | _ => false
  | .ldc a => match j with
    | .ldc c => decide (a = c)
    | _ => false
  | .ldc2_w a => match j with
    | .ldc2_w c => decide (a = c)
    | _ => false
  | .ldc_w a => match j with
    | .ldc_w c => decide (a = c)
    | _ => false
  | .lload a => match j with
    | .lload c => decide (a = c)
    | _ => false
  | .lmul => match j with
    | .lmul => true
    | _ => false
  | .lookupswitch a b => match j with
    | .lookupswitch c d => decide (a = c) && decide (b = d)
    | _ => false
  | .lreturn => match j with
    | .lreturn => true
    | _ => false
  | .lstore a => match j with
    | .lstore c => decide (a = c)
    | _ => false
  | .new a => match j with
    | .new c => decide (a = c)
    | _ => false
  | .newarray a => match j with
    | .newarray c => decide (a = c)
    | _ => false
  | .pop => match j with
    | .pop => true
    | _ => false
  | .putfield a => match j with
    | .putfield c => decide (a = c)
    | _ => false
  | .return_ => match j with
    | .return_ => true
    | _ => false
  | .sipush a => match j with
    | .sipush c => decide (a = c)
    | _ => false
  | .tableswitch a b c d => match j with
    | .tableswitch a' b' c' d' => decide (a = a') && (decide (b = b') && (decide (c = c') && decide (d = d')))
    | _ => false
  | _ => false
theorem ax_ieq_ok {i j : Instr} (h : ax_ieq i j = true) : i = j := by
  unfold ax_ieq at h
  split at h <;> first | (cases h; done) | (split at h <;> first | (cases h; done) | rfl | (simp only [Bool.and_eq_true, decide_eq_true_eq] at h; simp [h]; done))
def ax_deq (r : Except DecodeError (Instr × Nat)) (i : Instr) (n : Nat) : Bool := match r with
  | .ok q => Nat.beq q.2 n && ax_ieq q.1 i
  | .error _ => false
theorem ax_deq_ok {r : Except DecodeError (Instr × Nat)} {i : Instr} {n : Nat} (h : ax_deq r i n = true) : r = .ok (i, n) := by
  unfold ax_deq at h
  split at h
  · simp only [Bool.and_eq_true] at h
    rename_i q
    obtain ⟨a, b⟩ := q
    have h1 : a = i := ax_ieq_ok h.2
    have h2 : b = n := Nat.eq_of_beq_eq_true h.1
    rw [h1, h2]
  · cases h
theorem ax_im_of {cc : ByteArray} {im : List (Nat × Instr × Nat)} (h : (im.all fun e => ax_deq (decode cc e.1) e.2.1 e.2.2) = true) : ax_im cc im := fun e he => ax_deq_ok (List.all_eq_true.mp h e he)
theorem ax_im_app {cc : ByteArray} {a b : List (Nat × Instr × Nat)} (ha : ax_im cc a) (hb : ax_im cc b) : ax_im cc (a ++ b) := fun e he => (List.mem_append.mp he).elim (ha e) (hb e)
