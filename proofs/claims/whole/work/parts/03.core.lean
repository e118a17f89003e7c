/-! ===== the abstract layer: values, memories, what a heap must be to stand for a memory ===== -/
abbrev ax_V : Type := Int ⊕ (Int ⊕ Option (Nat × Int))
abbrev ax_Mm : Type := (Nat → Int → Prop) × ((Nat → Int → Int → Int) × ((Nat → Int → Int → Option (Nat × Int)) × (Nat → Int → Int)))
/-- class numbers (of vwCl) that the objects of a family may have -/
def ax_ok (f ci : Nat) : Bool := match f % 1000 with
  | 1 => ci == 10
  | 2 => ci == 2
  | 3 => ci == 8
  | 4 => ci == 5
  | 5 => ci == 0 || (ci == 1 || (ci == 3 || (ci == 6 || (ci == 7 || ci == 9))))
  | 6 => ci == 4
  | 50 => ci == 11
  | _ => false
def ax_cc (f : Nat) : Nat := match f % 1000 with
  | 1 => 10
  | 2 => 2
  | 3 => 8
  | 4 => 5
  | 5 => 0
  | 6 => 4
  | _ => 11
def ax_ob (f : Nat) : Bool := match f % 1000 with
  | 1 => true
  | 2 => true
  | 3 => true
  | 4 => true
  | 5 => true
  | 6 => true
  | 50 => true
  | _ => false
def ax_ty (f k : Nat) : FieldType := match f % 1000 with
  | 1 => tyX10 k
  | 2 => tyX2 k
  | 3 => tyX8 k
  | 4 => tyX5 k
  | 5 => tyX0 k
  | 6 => tyX4 k
  | _ => tyX11 k
def ax_N (f : Nat) : Nat := match f % 1000 with
  | 1 => 10
  | 2 => 17
  | 3 => 13
  | 4 => 3
  | 5 => 13
  | 6 => 5
  | _ => 59
def ax_sb (f : Nat) : Nat := match f with
  | 1 => 700
  | 2 => 200
  | 3 => 300
  | 4 => 400
  | 5 => 500
  | 6 => 600
  | _ => 100
def ax_ow (f : Nat) : Nat := match f / 100 with
  | 7 => 1
  | 2 => 2
  | 3 => 3
  | 4 => 4
  | 5 => 5
  | 6 => 6
  | _ => 50
def ax_isR (f k : Nat) : Bool := match ax_ty f k with
  | .array _ => true
  | .object _ => true
  | _ => false
def ax_isA (f k : Nat) : Bool := match ax_ty f k with
  | .array _ => true
  | _ => false
/-- the element type of an array family -/
def ax_et (f : Nat) : FieldType := match ax_ty (ax_ow f) (f % 100) with
  | .array t => t
  | t => t
/-- families whose cells lie among the world's own -/
def ax_hp (f : Nat) : Bool := !(f == 90 || (f == 91 || (f == 92 || f == 93)))
def ax_nm (k : Nat) : String := match k % 100 with
  | 0 => RX0
  | 1 => RX1
  | 2 => RX2
  | 3 => RX3
  | 4 => RX4
  | 5 => RX5
  | 6 => RX6
  | 7 => RX7
  | 8 => RX8
  | 9 => RX9
  | 10 => RX10
  | 11 => RX11
  | 12 => RL
  | 13 => RJ6
  | 14 => RJ9
  | 15 => RJ7
  | 16 => RJ0
  | 17 => RJ1
  | 18 => RJ2
  | _ => RJ3
def ax_GT : List Cond := lw_tbl.filter goodWord
theorem ax_GT_good : GoodIn ax_GT ax_GT := fun w hw => ⟨hw, good_of_word (List.mem_filter.mp hw).2⟩
theorem ax_GT_in {w : Cond} {i : Nat} (h : lw_tbl[i]? = some w) (g : goodWord w = true) : w ∈ ax_GT := List.mem_filter.mpr ⟨List.mem_of_getElem? h, g⟩
def ax_ref (M : ax_Mm) (ad : Nat → Int → Nat) (r : Option (Nat × Int)) (v : Value) : Prop := match r with
  | none => v = .null
  | some q => M.1 q.1 q.2 → v = .ref (ad q.1 q.2)
def ax_fd (M : ax_Mm) (ad : Nat → Int → Nat) (f : Nat) (o : Int) (k : Nat) (v : Value) : Prop :=
  if ax_isR f k = true then ax_ref M ad (M.2.2.1 f o k) v else ∃ y : Int32, v = .int y ∧ y.toInt = M.2.1 f o k
def ax_E (M : ax_Mm) (ad : Nat → Int → Nat) (tys : List (ClassId × FieldType)) (f : Nat) (o : Int) (en : va_E) : Prop := match en with
  | .inr q => ax_ob f = true ∧ ax_ok f q.1 = true ∧ (q.1 : Int) = M.2.2.2 f o ∧ q.2.length = ax_N f ∧ ∀ (k : Nat) (v : Value), q.2[k]? = some v → ax_fd M ad f o k v
  | .inl (cA, n, .inl g) => ax_ob f = false ∧ (∃ t0 : Nat, tys[t0]? = some (cA, ax_et f)) ∧ refKind (ax_et f) = false ∧ (n : Int) = M.2.2.2 f o ∧ n < 2 ^ 31 ∧ ∀ j : Nat, j < n → (g j).toInt = M.2.1 f o j
  | .inl (cA, n, .inr (.inr (.inr (.inr g)))) => ax_ob f = false ∧ (∃ (t0 : Nat) (C : String), ax_et f = .object C ∧ tys[t0]? = some (cA, .object C)) ∧ (n : Int) = M.2.2.2 f o ∧ n < 2 ^ 31 ∧ ∀ j : Nat, j < n → ax_ref M ad (M.2.2.1 f o j) (va_rf (g j))
  | _ => False
/-- the heap H stands for the memory M: the cells, apart, and the fixed references -/
def ax_R (D : va_G) (N0 : Nat) (s : State) (ad : Nat → Int → Nat) (M : ax_Mm) (H : Heap) : Prop :=
  ∃ (ws : va_W) (tys : List (ClassId × FieldType)), va_K D vwCl tys s ∧ va_P D vwCl ws H ∧ va_D (fun q => N0 ≤ q) ws ∧
    (∀ (f : Nat) (o : Int), M.1 f o → ax_hp f = true → ∃ (q0 : Nat) (en : va_E), ws[q0]? = some (ad f o, en) ∧ ax_E M ad tys f o en) ∧
    (∀ (f f' : Nat) (o o' : Int), M.1 f o → M.1 f' o' → ax_hp f = true → ax_hp f' = true → ad f o = ad f' o' → f = f' ∧ o = o') ∧
    (∀ (f : Nat) (o : Int), M.1 f o → f < 1000 → ax_ob f = true → ∀ k : Nat, ax_isA f k = true → k < ax_N f → M.2.2.1 f o k = some (ax_sb f + k, o) ∧ M.1 (ax_sb f + k) o)
def ax_w (M : ax_Mm) (ad : Nat → Int → Nat) (v : ax_V) (w : Value) : Prop := match v with
  | .inl x => ∃ y : Int32, w = .int y ∧ y.toInt = x
  | .inr (.inl x) => ∃ y : Int64, w = .long y ∧ y.toInt = x
  | .inr (.inr none) => w = .null
  | .inr (.inr (some q)) => M.1 q.1 q.2 ∧ w = .ref (ad q.1 q.2)
def ax_st (M : ax_Mm) (ad : Nat → Int → Nat) : List ax_V → List Value → Prop
  | [], [] => True
  | v :: vs, w :: ws => ax_w M ad v w ∧ ax_st M ad vs ws
  | _, _ => False
def ax_lo (M : ax_Mm) (ad : Nat → Int → Nat) (nL : Nat) (la : List (Option ax_V)) (ls : Array Slot) : Prop :=
  la.length = nL ∧ ∃ lv : List (Nat × Value), lv_has ls nL lv ∧ ∀ (i : Nat) (v : ax_V), la[i]? = some (some v) → ∃ w : Value, (i, w) ∈ lv ∧ ax_w M ad v w
/-- the String constants: class and place of each, its text -/
def ax_ks : List (String × Nat × String) := [("AntsTurn", 40, "turn 1 ; stay 0 ; heat others ;"), ("AntsTurn$Tape", 107, "turn"), ("AntsTurn$Tape", 109, "stay"), ("AntsTurn$Tape", 111, "heat"), ("AntsTurn$Tape", 113, "or"), ("AntsTurn$Tape", 115, "and"), ("AntsTurn$Tape", 117, "not"), ("AntsTurn$Tape", 119, "meets"), ("AntsTurn$Tape", 121, "place"), ("AntsTurn$Tape", 123, "left"), ("AntsTurn$Tape", 125, "beat"), ("AntsTurn$Tape", 127, "others"), ("AntsTurn$Tape", 129, "number")]
def ax_klen : List Nat := [31, 4, 4, 4, 2, 3, 3, 5, 5, 4, 4, 6, 6]
def ax_kbyt : List (List Int32) := [[116, 117, 114, 110, 32, 49, 32, 59, 32, 115, 116, 97, 121, 32, 48, 32, 59, 32, 104, 101, 97, 116, 32, 111, 116, 104, 101, 114, 115, 32, 59], [116, 117, 114, 110], [115, 116, 97, 121], [104, 101, 97, 116], [111, 114], [97, 110, 100], [110, 111, 116], [109, 101, 101, 116, 115], [112, 108, 97, 99, 101], [108, 101, 102, 116], [98, 101, 97, 116], [111, 116, 104, 101, 114, 115], [110, 117, 109, 98, 101, 114]]
/-- pairs of ant classes: an object of the first is one of the second, or not -/
def ax_yes : List (String × String) := [(RX9, RX7), (RX3, RX6), (RX1, RX6), (RX7, RX0), (RX6, RX0), (RX9, RX0), (RX3, RX0), (RX1, RX0)]
def ax_not : List (String × String) := [(RX0, RX7), (RX0, RX6), (RX0, RX9), (RX0, RX3), (RX0, RX1), (RX7, RX6), (RX7, RX9), (RX7, RX3), (RX7, RX1), (RX6, RX7), (RX6, RX9), (RX6, RX3), (RX6, RX1), (RX9, RX6), (RX9, RX3), (RX9, RX1), (RX3, RX7), (RX3, RX9), (RX3, RX1), (RX1, RX7), (RX1, RX9), (RX1, RX3)]
/-- links to private constructors of nest mates -/
def ax_nst : List (String × Nat × MethodName × String) := [("AntsTurn", 9, ⟨"AntsTurn$Plank", "<init>", "()V"⟩, "AntsTurn"), ("AntsTurn", 18, ⟨"AntsTurn$Tape", "<init>", "()V"⟩, "AntsTurn"), ("AntsTurn", 39, ⟨"AntsTurn$Sheet", "<init>", "()V"⟩, "AntsTurn"), ("AntsTurn", 108, ⟨"AntsTurn$Stubborn", "<init>", "()V"⟩, "AntsTurn"), ("AntsTurn$Stubborn", 1, ⟨"AntsTurn$Ant", "<init>", "()V"⟩, "AntsTurn"), ("AntsTurn", 111, ⟨"AntsTurn$Shy", "<init>", "()V"⟩, "AntsTurn"), ("AntsTurn$Shy", 3, ⟨"AntsTurn$Ant", "<init>", "()V"⟩, "AntsTurn"), ("AntsTurn", 114, ⟨"AntsTurn$Tired", "<init>", "()V"⟩, "AntsTurn"), ("AntsTurn$Tired", 3, ⟨"AntsTurn$Stubborn", "<init>", "()V"⟩, "AntsTurn"), ("AntsTurn", 117, ⟨"AntsTurn$Proud", "<init>", "()V"⟩, "AntsTurn"), ("AntsTurn$Proud", 3, ⟨"AntsTurn$Shy", "<init>", "()V"⟩, "AntsTurn"), ("AntsTurn", 120, ⟨"AntsTurn$Edgy", "<init>", "()V"⟩, "AntsTurn"), ("AntsTurn$Edgy", 3, ⟨"AntsTurn$Shy", "<init>", "()V"⟩, "AntsTurn"), ("AntsTurn", 121, ⟨"AntsTurn$Ant", "<init>", "()V"⟩, "AntsTurn")]
/-- what of the tables is no word of the table list, and what constant cells hold -/
def ax_Kc (s : State) (ad : Nat → Int → Nat) (N0 : Nat) : Prop :=
  vk_S 13 ax_klen ax_kbyt (fun k => ad 91 k) (fun k => ad 92 k) (fun q => N0 ≤ q) s s.heap ∧
  (va_Z "java/lang/String" "COMPACT_STRINGS" "Z" (.int 1) (fun q => N0 ≤ q) s s.heap ∧ (va_Z "jdk/internal/util/Preconditions" "SIOOBE_FORMATTER" "Ljava/util/function/BiFunction;" .null (fun q => N0 ≤ q) s s.heap ∨ va_Z "jdk/internal/util/Preconditions" "SIOOBE_FORMATTER" "Ljava/util/function/BiFunction;" (.ref (ad 93 0)) (fun q => N0 ≤ q) s s.heap)) ∧
  (∀ (k : Nat) (q : String × Nat × String), ax_ks[k]? = some q → vk_R q.1 q.2.1 q.2.2 (ad 91 k) s) ∧
  (∀ q ∈ ax_yes, va_Nw (.castable q.1 q.2) s) ∧ (∀ q ∈ ax_not, va_Nc q.1 q.2 s) ∧ va_Nw (.castable "[I" "java/lang/Cloneable") s ∧
  va_AO "AntsTurn$Ant" s ∧ va_AO "AntsTurn$Rule" s ∧ va_AO "AntsTurn$Sheet" s ∧ (∀ q ∈ ax_nst, va_Nw (.methodLinkNest q.1 q.2.1 q.2.2.1 q.2.2.2) s)
/-- the law's own script -/
def ax_sc (scr : Option (Nat × (Nat → Int32))) (s : State) (ad : Nat → Int → Nat) (N0 : Nat) : Prop :=
  ∀ q, scr = some q → va_X (ad 90 0) q.1 q.2 s s.heap ∧ ad 90 0 < N0 ∧ q.1 < 2 ^ 31
def ax_C (own : Nat) (cc : ByteArray) (nL : Nat) (scr : Option (Nat × (Nat → Int32))) (p : Program) (s : State) (m : MethodId) (args : Array Value) (c : Code) (meth : Method) (N0 : Nat) (ad : Nat → Int → Nat) : Prop :=
  p.tables.exec = Jvm.exec ∧ c.code = cc ∧ c.maxLocals = nL ∧ s.vm.findClass (ax_nm own) = some m.cls ∧ (∀ w ∈ ax_GT, w.before args s = true) ∧ N0 ≤ s.heap.size ∧ ax_Kc s ad N0 ∧ ax_sc scr s ad N0 ∧ meth.locks = false ∧ (100 ≤ own → meth.name = "<init>")
/-- at a point of a method's walk -/
def ax_Z (D : va_G) (N0 nL : Nat) (s : State) (p0 : Nat → Int → Prop) (ad0 ad : Nat → Int → Nat) (M : ax_Mm) (H : Heap) (locs : List Loc) : Prop :=
  (∀ f o, p0 f o ∨ ax_hp f = false → ad f o = ad0 f o) ∧ (∀ f o, p0 f o → M.1 f o) ∧ ax_R D N0 s ad M H ∧ va_S (fun q => N0 ≤ q) s.heap H locs
def ax_rv (M : ax_Mm) (ad : Nat → Int → Nat) (r : Option ax_V) (rs : List Value) : Prop := match r with
  | none => rs = []
  | some v => ∃ w, rs = [w] ∧ ax_w M ad v w
def ax_ri (r : Option ax_V) : Instr := match r with
  | none => .return_
  | some (.inl _) => .ireturn
  | some (.inr (.inl _)) => .lreturn
  | some (.inr (.inr _)) => .areturn
abbrev ax_Q : Type := Option ax_V → ax_Mm → Nat → Nat → Prop
abbrev ax_rm (d KC KS : Nat) : Room := { frames := d, cells := KC, slots := KS, locals := 64 * d }
/-- THE JUDGEMENT: from this point, in every heap that stands for M, the method comes to an end of which Q holds -/
def ax_J (own : Nat) (cc : ByteArray) (nL : Nat) (scr : Option (Nat × (Nat → Int32))) (R : Room) (p0 : Nat → Int → Prop) (Q : ax_Q) (kc ks pc : Nat) (la : List (Option ax_V)) (st : List ax_V) (M : ax_Mm) : Prop :=
  ∀ (p : Program) (l : Launch) (e : Env) (s : State) (m : MethodId) (args : Array Value) (below : List Frame) (meth : Method) (c : Code) (N0 : Nat) (D : va_G) (QQ : State → Prop) (ad0 : Nat → Int → Nat),
    ax_C own cc nL scr p s m args c meth N0 ad0 →
    (∀ (r : Option ax_V) (M' : ax_Mm) (kc' ks' pc' : Nat) (ad : Nat → Int → Nat) (ls : Array Slot) (rs : List Value) (H : Heap) (locs : List Loc), Q r M' kc' ks' → decode cc pc' = .ok (ax_ri r, 1) → ax_rv M' ad r rs → ax_Z D N0 nL s p0 ad0 ad M' H locs → W p l e R s m args below meth c H locs kc' ks' QQ (F0 m pc' ls rs)) →
    ∀ (ad : Nat → Int → Nat) (ls : Array Slot) (rs : List Value) (H : Heap) (locs : List Loc), ax_Z D N0 nL s p0 ad0 ad M H locs → ax_lo M ad nL la ls → ax_st M ad st rs → W p l e R s m args below meth c H locs kc ks QQ (F0 m pc ls rs)
