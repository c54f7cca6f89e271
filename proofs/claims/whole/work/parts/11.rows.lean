/-! ===== what stays as it was: rows of statics, words of the nest, texts ===== -/
def sNm : Nat → String
  | 0 => "RULES_AT_FIRST" | 1 => "RULES_AT_MOST" | 2 => "SOUND_OF_LETTER" | 3 => "KIN_OF_LETTER" | _ => "KIN_OF_SOUND"
def sTb : Nat → List Int32
  | 0 => [60, 5, 2, 0, 30, 50]
  | 1 => [100, 20, 9, 5, 999, 100]
  | 2 => [0, 6, 2, 9, 0, 1, 2, -1, 0, 2, 2, 3, 4, 5, 0, 6, 2, 7, 8, 9, 0, 1, -1, 2, 0, 8]
  | 3 => [0, 8, 16400, 2, 4, 0, 0, 0, 2560, 256, 0, 256, 8192, 4096, 4, 65536, 32768, 0, 0, 0, 2097152, 1048576, 0, 0, 0, 0]
  | _ => [0, 64, 256, 128, 32, 16, 2, 8, 516, 256]
def nsF : List (String × Nat × String) := [("MarkField$Likeness", 82, "SOUND_OF_LETTER"), ("MarkField$Likeness", 85, "KIN_OF_LETTER"), ("MarkField$Likeness", 96, "KIN_OF_SOUND"), ("MarkField$Reader", 114, "RULES_AT_MOST"), ("MarkField$Register", 47, "RULES_AT_FIRST")]
def nsM : List (String × Nat × MethodName) := [("MarkField", 34, ⟨"MarkField$Acts", "<init>", "()V"⟩), ("MarkField", 41, ⟨"MarkField$Likeness", "<init>", "()V"⟩), ("MarkField", 51, ⟨"MarkField$Standing", "<init>", "()V"⟩), ("MarkField", 9, ⟨"MarkField$Tape", "<init>", "()V"⟩), ("MarkField$Likeness", 143, ⟨"MarkField", "setCouple", "([IIIZ)Z"⟩), ("MarkField$Likeness", 147, ⟨"MarkField", "isIn", "(II)Z"⟩), ("MarkField$Question", 77, ⟨"MarkField", "isIn", "(II)Z"⟩), ("MarkField$Reader", 143, ⟨"MarkField", "isClass", "(I)Z"⟩), ("MarkField$Reader", 149, ⟨"MarkField", "isIn", "(II)Z"⟩), ("MarkField$Reader", 163, ⟨"MarkField", "setCouple", "([IIIZ)Z"⟩), ("MarkField$Register", 74, ⟨"MarkField", "isIn", "(II)Z"⟩), ("MarkField$Standing", 42, ⟨"MarkField", "isIn", "(II)Z"⟩)]
/-- the texts: whose, which entry, what it says -/
def sxT : List (String × Nat × String) := [("MarkField", 139, "no such count"), ("MarkField", 169, "nothing such of a mark"), ("MarkField", 171, "no such place in a name"), ("MarkField", 180, "no such use"), ("MarkField", 220, "no such classes"), ("MarkField", 328, "no mark of that rank"), ("MarkField", 348, "no such days"), ("MarkField", 365, "no such value of that rule"), ("MarkField", 375, "too long a question"), ("MarkField", 390, "no such mark"), ("MarkField", 392, "no such two marks"), ("MarkField", 394, "no such half"), ("MarkField", 396, "nothing such can be asked"), ("MarkField", 398, "no such day"), ("MarkField", 400, "the tape has not so many bytes"), ("MarkField$Question", 43, "many"), ("MarkField$Question", 49, "first"), ("MarkField$Question", 87, "and"), ("MarkField$Question", 89, "or"), ("MarkField$Question", 91, "not"), ("MarkField$Question", 117, "mark"), ("MarkField$Question", 119, "filed"), ("MarkField$Question", 121, "classes"), ("MarkField$Question", 123, "uses"), ("MarkField$Question", 125, "length"), ("MarkField$Question", 127, "sounds"), ("MarkField$Question", 129, "field"), ("MarkField$Question", 131, "holds"), ("MarkField$Question", 133, "refused"), ("MarkField$Reader", 70, "lands"), ("MarkField$Reader", 82, "mark"), ("MarkField$Reader", 87, "use"), ("MarkField$Reader", 92, "near"), ("MarkField$Reader", 102, "consent"), ("MarkField$Reader", 120, "like"), ("MarkField$Reader", 122, "crowd"), ("MarkField$Reader", 124, "room"), ("MarkField$Reader", 126, "reach"), ("MarkField$Reader", 128, "lapse"), ("MarkField$Reader", 130, "ear"), ("MarkFieldModel", 391, "like"), ("MarkFieldModel", 397, "crowd"), ("MarkFieldModel", 399, "room"), ("MarkFieldModel", 401, "reach"), ("MarkFieldModel", 403, "lapse"), ("MarkFieldModel", 405, "ear"), ("MarkFieldModel", 410, "near"), ("MarkFieldModel", 415, "mark"), ("MarkFieldModel", 420, "use"), ("MarkFieldModel", 425, "consent"), ("MarkFieldModel", 439, "lands"), ("MarkFieldModel", 447, "filed"), ("MarkFieldModel", 449, "classes"), ("MarkFieldModel", 451, "uses"), ("MarkFieldModel", 453, "length"), ("MarkFieldModel", 454, "sounds"), ("MarkFieldModel", 455, "field"), ("MarkFieldModel", 456, "holds"), ("MarkFieldModel", 458, "refused"), ("MarkFieldModel", 472, "not"), ("MarkFieldModel", 486, "and"), ("MarkFieldModel", 491, "or"), ("MarkFieldModel", 493, "many"), ("MarkFieldModel", 495, "first")]
/-- their bytes -/
def sxB : List (List Nat) := [[110, 111, 32, 115, 117, 99, 104, 32, 99, 111, 117, 110, 116], [110, 111, 116, 104, 105, 110, 103, 32, 115, 117, 99, 104, 32, 111, 102, 32, 97, 32, 109, 97, 114, 107], [110, 111, 32, 115, 117, 99, 104, 32, 112, 108, 97, 99, 101, 32, 105, 110, 32, 97, 32, 110, 97, 109, 101], [110, 111, 32, 115, 117, 99, 104, 32, 117, 115, 101], [110, 111, 32, 115, 117, 99, 104, 32, 99, 108, 97, 115, 115, 101, 115], [110, 111, 32, 109, 97, 114, 107, 32, 111, 102, 32, 116, 104, 97, 116, 32, 114, 97, 110, 107], [110, 111, 32, 115, 117, 99, 104, 32, 100, 97, 121, 115], [110, 111, 32, 115, 117, 99, 104, 32, 118, 97, 108, 117, 101, 32, 111, 102, 32, 116, 104, 97, 116, 32, 114, 117, 108, 101], [116, 111, 111, 32, 108, 111, 110, 103, 32, 97, 32, 113, 117, 101, 115, 116, 105, 111, 110], [110, 111, 32, 115, 117, 99, 104, 32, 109, 97, 114, 107], [110, 111, 32, 115, 117, 99, 104, 32, 116, 119, 111, 32, 109, 97, 114, 107, 115], [110, 111, 32, 115, 117, 99, 104, 32, 104, 97, 108, 102], [110, 111, 116, 104, 105, 110, 103, 32, 115, 117, 99, 104, 32, 99, 97, 110, 32, 98, 101, 32, 97, 115, 107, 101, 100], [110, 111, 32, 115, 117, 99, 104, 32, 100, 97, 121], [116, 104, 101, 32, 116, 97, 112, 101, 32, 104, 97, 115, 32, 110, 111, 116, 32, 115, 111, 32, 109, 97, 110, 121, 32, 98, 121, 116, 101, 115], [109, 97, 110, 121], [102, 105, 114, 115, 116], [97, 110, 100], [111, 114], [110, 111, 116], [109, 97, 114, 107], [102, 105, 108, 101, 100], [99, 108, 97, 115, 115, 101, 115], [117, 115, 101, 115], [108, 101, 110, 103, 116, 104], [115, 111, 117, 110, 100, 115], [102, 105, 101, 108, 100], [104, 111, 108, 100, 115], [114, 101, 102, 117, 115, 101, 100], [108, 97, 110, 100, 115], [109, 97, 114, 107], [117, 115, 101], [110, 101, 97, 114], [99, 111, 110, 115, 101, 110, 116], [108, 105, 107, 101], [99, 114, 111, 119, 100], [114, 111, 111, 109], [114, 101, 97, 99, 104], [108, 97, 112, 115, 101], [101, 97, 114], [108, 105, 107, 101], [99, 114, 111, 119, 100], [114, 111, 111, 109], [114, 101, 97, 99, 104], [108, 97, 112, 115, 101], [101, 97, 114], [110, 101, 97, 114], [109, 97, 114, 107], [117, 115, 101], [99, 111, 110, 115, 101, 110, 116], [108, 97, 110, 100, 115], [102, 105, 108, 101, 100], [99, 108, 97, 115, 115, 101, 115], [117, 115, 101, 115], [108, 101, 110, 103, 116, 104], [115, 111, 117, 110, 100, 115], [102, 105, 101, 108, 100], [104, 111, 108, 100, 115], [114, 101, 102, 117, 115, 101, 100], [110, 111, 116], [97, 110, 100], [111, 114], [109, 97, 110, 121], [102, 105, 114, 115, 116]]
def nsx : Nat := 64
def sxL (i : Nat) : Nat := (sxB.getD i []).length
def sxC (i k : Nat) : Nat := (sxB.getD i []).getD k 0
/-- a text, as the heap has it -/
def sx1 (E : Ev) (i : Nat) (U : State) : Prop :=
  (∀ q : String × Nat × String, sxT[i]? = some q → vk_R q.1 q.2.1 q.2.2 (E.2.2.2.1 i) U) ∧ va_O "java/lang/String" (E.2.2.2.1 i) (rg E) U U.heap ∧ va_OF "java/lang/String" "coder" "B" (.int 0) (E.2.2.2.1 i) (rg E) U U.heap ∧ va_OF "java/lang/String" "value" "[B" (.ref (E.2.2.2.2.1 i)) (E.2.2.2.1 i) (rg E) U U.heap ∧ va_T .byte (E.2.2.2.2.1 i) (sxL i) (fun j => .int (nI (sxC i j))) (rg E) U U.heap
def se1 (E : Ev) (U : State) : Prop := ∀ i, i < 5 → va_Z "MarkField" (sNm i) "[I" (.ref (E.2.2.1 i)) (rg E) U U.heap ∧ va_T .int (E.2.2.1 i) (sTb i).length (fun j => .int ((sTb i).getD j 0)) (rg E) U U.heap
def se2 (U : State) : Prop := (∀ q ∈ nsF, va_Nw (.fieldLinkNest q.1 q.2.1 "MarkField" q.2.2 "[I" "MarkField") U) ∧ ∀ q ∈ nsM, va_Nw (.methodLinkNest q.1 q.2.1 q.2.2 "MarkField") U
def dcl : List MethodName := [Bundle.initS "java/lang/RuntimeException", Bundle.initS "java/lang/Exception", Bundle.initS Bundle.tN]
def xN : Nat → String
  | 0 => "java/util/NoSuchElementException"
  | _ => "java/lang/IllegalArgumentException"
def se5 (U : State) : Prop := (∀ y ∈ dcl, va_Nw (.declares y) U) ∧ (∀ i, va_Nw (.castable (xN i) (xN i)) U) ∧ va_Nc (xN 1) (xN 0) U
def se4 (E : Ev) (U : State) : Prop := vx_Zq Bundle.tN "UNASSIGNED_STACK" Bundle.steD (rg E) U U.heap ∧ vx_Zq Bundle.tN "SUPPRESSED_SENTINEL" Bundle.listD (rg E) U U.heap ∧ va_Z "java/lang/String" "COMPACT_STRINGS" "Z" (.int 1) (rg E) U U.heap ∧ va_Zq "jdk/internal/util/Preconditions" "SIOOBE_FORMATTER" "Ljava/util/function/BiFunction;" (rg E) U U.heap ∧ se5 U
def SE (E : Ev) (U : State) : Prop := se1 E U ∧ se2 U ∧ (∀ i, i < nsx → sx1 E i U) ∧ se4 E U
theorem SE.moved {E : Ev} {s U : State} (hW : s.WarmedH U.vm) (hq : ∀ a : Nat, a < s.heap.size → ¬ rg E a → U.heap[a]? = s.heap[a]?) (h : SE E s) : SE E U := by
  have hv : s.vm.Alike U.vm := hW.alike
  obtain ⟨h1, ⟨h2, h3⟩, h4, h5, h6, h7, h8, h9, h10, h11⟩ := h
  refine ⟨fun i hi => ⟨((h1 i hi).1.moved hv).kept hq, ((h1 i hi).2.moved hv).kept hq⟩, ⟨fun q m => va_Nw.warmF hW (h2 q m), fun q m => va_Nw.warmM hW (h3 q m)⟩, fun i hi => ?_, (h5.moved hv).kept hq, (h6.moved hv).kept hq, (h7.moved hv).kept hq, (h8.moved hv).kept hq, fun y m => va_Nw.warmD hW (h9 y m), fun i => va_Nw.warmC hW (h10 i), h11.moved hv⟩
  obtain ⟨g1, g2, g3, g4, g5⟩ := h4 i hi
  exact ⟨fun q m => (g1 q m).warm hW, (g2.moved hv).kept hq, (g3.moved hv).kept hq, (g4.moved hv).kept hq, (g5.moved hv).kept hq⟩
theorem SE.same {E : Ev} {s U : State} (hv : U.vm = s.vm) (hh : U.heap = s.heap) (h : SE E s) : SE E U := by
  have hA : s.vm.Alike U.vm := by rw [hv]; exact Vm.Alike.refl _
  have hq : ∀ a : Nat, a < s.heap.size → ¬ rg E a → U.heap[a]? = s.heap[a]? := fun a _ _ => by rw [hh]
  obtain ⟨h1, ⟨h2, h3⟩, h4, h5, h6, h7, h8, h9, h10, h11⟩ := h
  refine ⟨fun i hi => ⟨((h1 i hi).1.moved hA).kept hq, ((h1 i hi).2.moved hA).kept hq⟩, ⟨fun q m => va_Nw.same rfl hv.symm (h2 q m), fun q m => va_Nw.same rfl hv.symm (h3 q m)⟩, fun i hi => ?_, (h5.moved hA).kept hq, (h6.moved hA).kept hq, (h7.moved hA).kept hq, (h8.moved hA).kept hq, fun y m => va_Nw.same rfl hv.symm (h9 y m), fun i => va_Nw.same rfl hv.symm (h10 i), h11.moved hA⟩
  obtain ⟨g1, g2, g3, g4, g5⟩ := h4 i hi
  exact ⟨fun q m => (g1 q m).same hv, (g2.moved hA).kept hq, (g3.moved hA).kept hq, (g4.moved hA).kept hq, (g5.moved hA).kept hq⟩
/-- what a method has at hand -/
def Fx (E : Ev) (X : Cx) (own : String) (cc : ByteArray) (nL : Nat) : Prop := match X with
  | (p, l, e, R, s, m, args, below, meth, c, Q, sd, P) => p.tables.exec = Jvm.exec ∧ c.code = cc ∧ c.maxLocals = nL ∧ s.vm.findClass own = some m.cls ∧ (∀ w ∈ tb, w.before args s = true) ∧ KE E s ∧ SE E s ∧ E.2.2.2.2.2 ≤ s.heap.size ∧ meth.locks = false ∧ ∀ o, stt o = true → P o
/-! ===== a row an instruction ===== -/
section AWR
variable {E : Ev} {X : Cx} {own : String} {cc : ByteArray} {nL pc : Nat} {lv : List (Nat × Value)} {stk : List Value} {G : GH} {n1 n2 : Nat}
theorem aw_ic (F : Fx E X own cc nL) {n : Int} {v : Int32} (d : decode cc pc = .ok (.iconst n, 1)) (hv : Int32.ofInt n = v) (kk : AW E X nL (pc + 1) lv (.int v :: stk) G n1 n2) : AW E X nL pc lv stk G n1 n2 := by
  obtain ⟨p, l, e, R, s, m, args, below, meth, c, Q, sd, P⟩ := X
  intro ls H locs ad hag hl hH hS
  exact lv_iconst F.1 F.2.1 d hv (kk ls H locs ad hag hl hH hS)
theorem aw_bi (F : Fx E X own cc nL) {n : Int} {v : Int32} (d : decode cc pc = .ok (.bipush n, 2)) (hv : (Int8.ofInt n).toInt32 = v) (kk : AW E X nL (pc + 2) lv (.int v :: stk) G n1 n2) : AW E X nL pc lv stk G n1 n2 := by
  obtain ⟨p, l, e, R, s, m, args, below, meth, c, Q, sd, P⟩ := X
  intro ls H locs ad hag hl hH hS
  exact lv_bipush F.1 F.2.1 d hv (kk ls H locs ad hag hl hH hS)
theorem aw_si (F : Fx E X own cc nL) {n : Int} {v : Int32} (d : decode cc pc = .ok (.sipush n, 3)) (hv : (Int16.ofInt n).toInt32 = v) (kk : AW E X nL (pc + 3) lv (.int v :: stk) G n1 n2) : AW E X nL pc lv stk G n1 n2 := by
  obtain ⟨p, l, e, R, s, m, args, below, meth, c, Q, sd, P⟩ := X
  intro ls H locs ad hag hl hH hS
  exact lv_sipush F.1 F.2.1 d hv (kk ls H locs ad hag hl hH hS)
theorem aw_ldc (F : Fx E X own cc nL) {index : Nat} {v : Int32} (d : decode cc pc = .ok (.ldc index, 2)) (hw : Cond.constant own index v ∈ tb) (kk : AW E X nL (pc + 2) lv (.int v :: stk) G n1 n2) : AW E X nL pc lv stk G n1 n2 := by
  obtain ⟨p, l, e, R, s, m, args, below, meth, c, Q, sd, P⟩ := X
  intro ls H locs ad hag hl hH hS
  exact lv_ldc F.1 F.2.1 F.2.2.2.1 (F.2.2.2.2.1 _ hw) d (kk ls H locs ad hag hl hH hS)
theorem aw_ldcw (F : Fx E X own cc nL) {index : Nat} {v : Int32} (d : decode cc pc = .ok (.ldc_w index, 3)) (hw : Cond.constant own index v ∈ tb) (kk : AW E X nL (pc + 3) lv (.int v :: stk) G n1 n2) : AW E X nL pc lv stk G n1 n2 := by
  obtain ⟨p, l, e, R, s, m, args, below, meth, c, Q, sd, P⟩ := X
  intro ls H locs ad hag hl hH hS
  exact lv_ldcw F.1 F.2.1 F.2.2.2.1 (F.2.2.2.2.1 _ hw) d (kk ls H locs ad hag hl hH hS)
theorem aw_il_n (F : Fx E X own cc nL) {k : Fin 4} {i : Nat} {x : Int32} (j : Nat) (d : decode cc pc = .ok (.iload_n k, 1)) (hi : (k : Nat) = i) (hj : lv[j]? = some (i, .int x)) (kk : AW E X nL (pc + 1) lv (.int x :: stk) G n1 n2) : AW E X nL pc lv stk G n1 n2 := by
  obtain ⟨p, l, e, R, s, m, args, below, meth, c, Q, sd, P⟩ := X
  intro ls H locs ad hag hl hH hS
  exact lv_iload_n F.1 F.2.1 d hi (lv_at hl j hj) (kk ls H locs ad hag hl hH hS)
theorem aw_il (F : Fx E X own cc nL) {i : Nat} {x : Int32} (j : Nat) (d : decode cc pc = .ok (.iload i, 2)) (hj : lv[j]? = some (i, .int x)) (kk : AW E X nL (pc + 2) lv (.int x :: stk) G n1 n2) : AW E X nL pc lv stk G n1 n2 := by
  obtain ⟨p, l, e, R, s, m, args, below, meth, c, Q, sd, P⟩ := X
  intro ls H locs ad hag hl hH hS
  exact lv_iload F.1 F.2.1 d (lv_at hl j hj) (kk ls H locs ad hag hl hH hS)
theorem aw_al_n (F : Fx E X own cc nL) {k : Fin 4} {i : Nat} {x : Nat} (j : Nat) (d : decode cc pc = .ok (.aload_n k, 1)) (hi : (k : Nat) = i) (hj : lv[j]? = some (i, .ref x)) (kk : AW E X nL (pc + 1) lv (.ref x :: stk) G n1 n2) : AW E X nL pc lv stk G n1 n2 := by
  obtain ⟨p, l, e, R, s, m, args, below, meth, c, Q, sd, P⟩ := X
  intro ls H locs ad hag hl hH hS
  exact lv_aload_n F.1 F.2.1 d hi (lv_at hl j hj) (kk ls H locs ad hag hl hH hS)
theorem aw_al (F : Fx E X own cc nL) {i : Nat} {x : Nat} (j : Nat) (d : decode cc pc = .ok (.aload i, 2)) (hj : lv[j]? = some (i, .ref x)) (kk : AW E X nL (pc + 2) lv (.ref x :: stk) G n1 n2) : AW E X nL pc lv stk G n1 n2 := by
  obtain ⟨p, l, e, R, s, m, args, below, meth, c, Q, sd, P⟩ := X
  intro ls H locs ad hag hl hH hS
  exact lv_aload F.1 F.2.1 d (lv_at hl j hj) (kk ls H locs ad hag hl hH hS)
theorem aw_is_n (F : Fx E X own cc nL) {k : Fin 4} {i : Nat} {x : Int32} {lv1 : List (Nat × Value)} (d : decode cc pc = .ok (.istore_n k, 1)) (hi : (k : Nat) = i) (hn : i < nL) (hv : (i, Value.int x) :: lv.filter (fun q => !(q.1 == i) && !(q.1 + 1 == i && q.2.category == 2)) = lv1) (kk : AW E X nL (pc + 1) lv1 stk G n1 n2) : AW E X nL pc lv (.int x :: stk) G n1 n2 := by
  obtain ⟨p, l, e, R, s, m, args, below, meth, c, Q, sd, P⟩ := X
  intro ls H locs ad hag hl hH hS
  exact lv_istore_n F.1 F.2.1 d hi hl hn hv (fun ls hl => kk ls H locs ad hag hl hH hS)
theorem aw_is (F : Fx E X own cc nL) {i : Nat} {x : Int32} {lv1 : List (Nat × Value)} (d : decode cc pc = .ok (.istore i, 2)) (hn : i < nL) (hv : (i, Value.int x) :: lv.filter (fun q => !(q.1 == i) && !(q.1 + 1 == i && q.2.category == 2)) = lv1) (kk : AW E X nL (pc + 2) lv1 stk G n1 n2) : AW E X nL pc lv (.int x :: stk) G n1 n2 := by
  obtain ⟨p, l, e, R, s, m, args, below, meth, c, Q, sd, P⟩ := X
  intro ls H locs ad hag hl hH hS
  exact lv_istore F.1 F.2.1 d hl hn hv (fun ls hl => kk ls H locs ad hag hl hH hS)
theorem aw_as_n (F : Fx E X own cc nL) {k : Fin 4} {i : Nat} {x : Nat} {lv1 : List (Nat × Value)} (d : decode cc pc = .ok (.astore_n k, 1)) (hi : (k : Nat) = i) (hn : i < nL) (hv : (i, Value.ref x) :: lv.filter (fun q => !(q.1 == i) && !(q.1 + 1 == i && q.2.category == 2)) = lv1) (kk : AW E X nL (pc + 1) lv1 stk G n1 n2) : AW E X nL pc lv (.ref x :: stk) G n1 n2 := by
  obtain ⟨p, l, e, R, s, m, args, below, meth, c, Q, sd, P⟩ := X
  intro ls H locs ad hag hl hH hS
  exact lv_astore_n F.1 F.2.1 d hi hl hn hv (fun ls hl => kk ls H locs ad hag hl hH hS)
theorem aw_as (F : Fx E X own cc nL) {i : Nat} {x : Nat} {lv1 : List (Nat × Value)} (d : decode cc pc = .ok (.astore i, 2)) (hn : i < nL) (hv : (i, Value.ref x) :: lv.filter (fun q => !(q.1 == i) && !(q.1 + 1 == i && q.2.category == 2)) = lv1) (kk : AW E X nL (pc + 2) lv1 stk G n1 n2) : AW E X nL pc lv (.ref x :: stk) G n1 n2 := by
  obtain ⟨p, l, e, R, s, m, args, below, meth, c, Q, sd, P⟩ := X
  intro ls H locs ad hag hl hH hS
  exact lv_astore F.1 F.2.1 d hl hn hv (fun ls hl => kk ls H locs ad hag hl hH hS)
theorem aw_inc (F : Fx E X own cc nL) {i : Nat} {n : Int} {x v : Int32} {lv1 : List (Nat × Value)} (j : Nat) (d : decode cc pc = .ok (.iinc i n, 3)) (hj : lv[j]? = some (i, .int x)) (he : x + Int32.ofInt n = v) (hn : i < nL) (hv : (i, Value.int v) :: lv.filter (fun q => !(q.1 == i) && !(q.1 + 1 == i && q.2.category == 2)) = lv1) (kk : AW E X nL (pc + 3) lv1 stk G n1 n2) : AW E X nL pc lv stk G n1 n2 := by
  obtain ⟨p, l, e, R, s, m, args, below, meth, c, Q, sd, P⟩ := X
  intro ls H locs ad hag hl hH hS
  exact lv_iinc F.1 F.2.1 d hl hj he hn hv (fun ls hl => kk ls H locs ad hag hl hH hS)
theorem aw_iadd (F : Fx E X own cc nL) {x y : Int32} (d : decode cc pc = .ok (.iadd, 1)) (kk : AW E X nL (pc + 1) lv (.int (x + y) :: stk) G n1 n2) : AW E X nL pc lv (.int y :: .int x :: stk) G n1 n2 := by
  obtain ⟨p, l, e, R, s, m, args, below, meth, c, Q, sd, P⟩ := X
  intro ls H locs ad hag hl hH hS
  exact lv_iadd F.1 F.2.1 d (kk ls H locs ad hag hl hH hS)
theorem aw_isub (F : Fx E X own cc nL) {x y : Int32} (d : decode cc pc = .ok (.isub, 1)) (kk : AW E X nL (pc + 1) lv (.int (x - y) :: stk) G n1 n2) : AW E X nL pc lv (.int y :: .int x :: stk) G n1 n2 := by
  obtain ⟨p, l, e, R, s, m, args, below, meth, c, Q, sd, P⟩ := X
  intro ls H locs ad hag hl hH hS
  exact lv_isub F.1 F.2.1 d (kk ls H locs ad hag hl hH hS)
theorem aw_imul (F : Fx E X own cc nL) {x y : Int32} (d : decode cc pc = .ok (.imul, 1)) (kk : AW E X nL (pc + 1) lv (.int (x * y) :: stk) G n1 n2) : AW E X nL pc lv (.int y :: .int x :: stk) G n1 n2 := by
  obtain ⟨p, l, e, R, s, m, args, below, meth, c, Q, sd, P⟩ := X
  intro ls H locs ad hag hl hH hS
  exact lv_imul F.1 F.2.1 d (kk ls H locs ad hag hl hH hS)
theorem aw_iand (F : Fx E X own cc nL) {x y : Int32} (d : decode cc pc = .ok (.iand, 1)) (kk : AW E X nL (pc + 1) lv (.int (x &&& y) :: stk) G n1 n2) : AW E X nL pc lv (.int y :: .int x :: stk) G n1 n2 := by
  obtain ⟨p, l, e, R, s, m, args, below, meth, c, Q, sd, P⟩ := X
  intro ls H locs ad hag hl hH hS
  exact lv_iand F.1 F.2.1 d (kk ls H locs ad hag hl hH hS)
theorem aw_ior (F : Fx E X own cc nL) {x y : Int32} (d : decode cc pc = .ok (.ior, 1)) (kk : AW E X nL (pc + 1) lv (.int (x ||| y) :: stk) G n1 n2) : AW E X nL pc lv (.int y :: .int x :: stk) G n1 n2 := by
  obtain ⟨p, l, e, R, s, m, args, below, meth, c, Q, sd, P⟩ := X
  intro ls H locs ad hag hl hH hS
  exact lv_ior F.1 F.2.1 d (kk ls H locs ad hag hl hH hS)
theorem aw_ixor (F : Fx E X own cc nL) {x y : Int32} (d : decode cc pc = .ok (.ixor, 1)) (kk : AW E X nL (pc + 1) lv (.int (x ^^^ y) :: stk) G n1 n2) : AW E X nL pc lv (.int y :: .int x :: stk) G n1 n2 := by
  obtain ⟨p, l, e, R, s, m, args, below, meth, c, Q, sd, P⟩ := X
  intro ls H locs ad hag hl hH hS
  exact lv_ixor F.1 F.2.1 d (kk ls H locs ad hag hl hH hS)
theorem aw_ishl (F : Fx E X own cc nL) {x y : Int32} (d : decode cc pc = .ok (.ishl, 1)) (kk : AW E X nL (pc + 1) lv (.int (x <<< (y &&& 31)) :: stk) G n1 n2) : AW E X nL pc lv (.int y :: .int x :: stk) G n1 n2 := by
  obtain ⟨p, l, e, R, s, m, args, below, meth, c, Q, sd, P⟩ := X
  intro ls H locs ad hag hl hH hS
  exact lv_ishl F.1 F.2.1 d (kk ls H locs ad hag hl hH hS)
theorem aw_ishr (F : Fx E X own cc nL) {x y : Int32} (d : decode cc pc = .ok (.ishr, 1)) (kk : AW E X nL (pc + 1) lv (.int (x >>> (y &&& 31)) :: stk) G n1 n2) : AW E X nL pc lv (.int y :: .int x :: stk) G n1 n2 := by
  obtain ⟨p, l, e, R, s, m, args, below, meth, c, Q, sd, P⟩ := X
  intro ls H locs ad hag hl hH hS
  exact lv_ishr F.1 F.2.1 d (kk ls H locs ad hag hl hH hS)
theorem aw_idiv (F : Fx E X own cc nL) {x y : Int32} (d : decode cc pc = .ok (.idiv, 1)) (hne : ¬ y = 0) (kk : AW E X nL (pc + 1) lv (.int (x / y) :: stk) G n1 n2) : AW E X nL pc lv (.int y :: .int x :: stk) G n1 n2 := by
  obtain ⟨p, l, e, R, s, m, args, below, meth, c, Q, sd, P⟩ := X
  intro ls H locs ad hag hl hH hS
  exact lv_idiv F.1 F.2.1 d hne (kk ls H locs ad hag hl hH hS)
theorem aw_irem (F : Fx E X own cc nL) {x y : Int32} (d : decode cc pc = .ok (.irem, 1)) (hne : ¬ y = 0) (kk : AW E X nL (pc + 1) lv (.int (x - x / y * y) :: stk) G n1 n2) : AW E X nL pc lv (.int y :: .int x :: stk) G n1 n2 := by
  obtain ⟨p, l, e, R, s, m, args, below, meth, c, Q, sd, P⟩ := X
  intro ls H locs ad hag hl hH hS
  exact lv_irem F.1 F.2.1 d hne (kk ls H locs ad hag hl hH hS)
theorem aw_iushr (F : Fx E X own cc nL) {x y : Int32} (d : decode cc pc = .ok (.iushr, 1)) (kk : AW E X nL (pc + 1) lv (.int ((x.toUInt32 >>> (y.toUInt32 &&& Int32.toUInt32 31)).toInt32) :: stk) G n1 n2) : AW E X nL pc lv (.int y :: .int x :: stk) G n1 n2 := by
  obtain ⟨p, l, e, R, s, m, args, below, meth, c, Q, sd, P⟩ := X
  intro ls H locs ad hag hl hH hS
  exact lv_iushr F.1 F.2.1 d rfl (kk ls H locs ad hag hl hH hS)
theorem aw_ineg (F : Fx E X own cc nL) {x : Int32} (d : decode cc pc = .ok (.ineg, 1)) (kk : AW E X nL (pc + 1) lv (.int (-x) :: stk) G n1 n2) : AW E X nL pc lv (.int x :: stk) G n1 n2 := by
  obtain ⟨p, l, e, R, s, m, args, below, meth, c, Q, sd, P⟩ := X
  intro ls H locs ad hag hl hH hS
  exact lv_ineg F.1 F.2.1 d (kk ls H locs ad hag hl hH hS)
theorem aw_i2b (F : Fx E X own cc nL) {x : Int32} (d : decode cc pc = .ok (.i2b, 1)) (kk : AW E X nL (pc + 1) lv (.int (nb x) :: stk) G n1 n2) : AW E X nL pc lv (.int x :: stk) G n1 n2 := by
  obtain ⟨p, l, e, R, s, m, args, below, meth, c, Q, sd, P⟩ := X
  intro ls H locs ad hag hl hH hS
  exact lv_i2b F.1 F.2.1 d (nb_eq x).symm (kk ls H locs ad hag hl hH hS)
theorem aw_i2c (F : Fx E X own cc nL) {x : Int32} (d : decode cc pc = .ok (.i2c, 1)) (kk : AW E X nL (pc + 1) lv (.int ((x.toUInt32 % 65536).toInt32) :: stk) G n1 n2) : AW E X nL pc lv (.int x :: stk) G n1 n2 := by
  obtain ⟨p, l, e, R, s, m, args, below, meth, c, Q, sd, P⟩ := X
  intro ls H locs ad hag hl hH hS
  exact lv_i2c F.1 F.2.1 d rfl (kk ls H locs ad hag hl hH hS)
theorem aw_i2l (F : Fx E X own cc nL) {x : Int32} (d : decode cc pc = .ok (.i2l, 1)) (kk : AW E X nL (pc + 1) lv (.long x.toInt64 :: stk) G n1 n2) : AW E X nL pc lv (.int x :: stk) G n1 n2 := by
  obtain ⟨p, l, e, R, s, m, args, below, meth, c, Q, sd, P⟩ := X
  intro ls H locs ad hag hl hH hS
  exact lv_i2l F.1 F.2.1 d rfl (kk ls H locs ad hag hl hH hS)
theorem aw_dup (F : Fx E X own cc nL) {va : Value} (d : decode cc pc = .ok (.dup, 1)) (hc : va.category = 1) (kk : AW E X nL (pc + 1) lv (va :: va :: stk) G n1 n2) : AW E X nL pc lv (va :: stk) G n1 n2 := by
  obtain ⟨p, l, e, R, s, m, args, below, meth, c, Q, sd, P⟩ := X
  intro ls H locs ad hag hl hH hS
  exact lv_dup F.1 F.2.1 d hc (kk ls H locs ad hag hl hH hS)
theorem aw_pop (F : Fx E X own cc nL) {va : Value} (d : decode cc pc = .ok (.pop, 1)) (hc : va.category = 1) (kk : AW E X nL (pc + 1) lv stk G n1 n2) : AW E X nL pc lv (va :: stk) G n1 n2 := by
  obtain ⟨p, l, e, R, s, m, args, below, meth, c, Q, sd, P⟩ := X
  intro ls H locs ad hag hl hH hS
  exact lv_pop F.1 F.2.1 d hc (kk ls H locs ad hag hl hH hS)
theorem aw_dup2 (F : Fx E X own cc nL) {va vb : Value} (d : decode cc pc = .ok (.dup2, 1)) (hc : va.category = 1) (hc2 : vb.category = 1) (kk : AW E X nL (pc + 1) lv (va :: vb :: va :: vb :: stk) G n1 n2) : AW E X nL pc lv (va :: vb :: stk) G n1 n2 := by
  obtain ⟨p, l, e, R, s, m, args, below, meth, c, Q, sd, P⟩ := X
  intro ls H locs ad hag hl hH hS
  exact lv_dup2_11 F.1 F.2.1 d hc hc2 (kk ls H locs ad hag hl hH hS)
theorem aw_if_eq (F : Fx E X own cc nL) {x : Int32} {off : Int} {tgt : Nat} (d : decode cc pc = .ok (.ifCond .eq off, 3)) (ht : (pc : Int) + off = (tgt : Int)) (kt : x = 0 → AW E X nL tgt lv stk G n1 n2) (kf : ¬ (x = 0) → AW E X nL (pc + 3) lv stk G n1 n2) : AW E X nL pc lv (.int x :: stk) G n1 n2 := by
  obtain ⟨p, l, e, R, s, m, args, below, meth, c, Q, sd, P⟩ := X
  intro ls H locs ad hag hl hH hS
  exact lv_if_eq F.1 F.2.1 d ht (fun h => kt h ls H locs ad hag hl hH hS) (fun h => kf h ls H locs ad hag hl hH hS)
theorem aw_icmp_eq (F : Fx E X own cc nL) {x y : Int32} {off : Int} {tgt : Nat} (d : decode cc pc = .ok (.if_icmp .eq off, 3)) (ht : (pc : Int) + off = (tgt : Int)) (kt : x = y → AW E X nL tgt lv stk G n1 n2) (kf : ¬ (x = y) → AW E X nL (pc + 3) lv stk G n1 n2) : AW E X nL pc lv (.int y :: .int x :: stk) G n1 n2 := by
  obtain ⟨p, l, e, R, s, m, args, below, meth, c, Q, sd, P⟩ := X
  intro ls H locs ad hag hl hH hS
  exact lv_icmp_eq F.1 F.2.1 d ht (fun h => kt h ls H locs ad hag hl hH hS) (fun h => kf h ls H locs ad hag hl hH hS)
theorem aw_if_ne (F : Fx E X own cc nL) {x : Int32} {off : Int} {tgt : Nat} (d : decode cc pc = .ok (.ifCond .ne off, 3)) (ht : (pc : Int) + off = (tgt : Int)) (kt : ¬ x = 0 → AW E X nL tgt lv stk G n1 n2) (kf : x = 0 → AW E X nL (pc + 3) lv stk G n1 n2) : AW E X nL pc lv (.int x :: stk) G n1 n2 := by
  obtain ⟨p, l, e, R, s, m, args, below, meth, c, Q, sd, P⟩ := X
  intro ls H locs ad hag hl hH hS
  exact lv_if_ne F.1 F.2.1 d ht (fun h => kt h ls H locs ad hag hl hH hS) (fun h => kf h ls H locs ad hag hl hH hS)
theorem aw_icmp_ne (F : Fx E X own cc nL) {x y : Int32} {off : Int} {tgt : Nat} (d : decode cc pc = .ok (.if_icmp .ne off, 3)) (ht : (pc : Int) + off = (tgt : Int)) (kt : ¬ x = y → AW E X nL tgt lv stk G n1 n2) (kf : x = y → AW E X nL (pc + 3) lv stk G n1 n2) : AW E X nL pc lv (.int y :: .int x :: stk) G n1 n2 := by
  obtain ⟨p, l, e, R, s, m, args, below, meth, c, Q, sd, P⟩ := X
  intro ls H locs ad hag hl hH hS
  exact lv_icmp_ne F.1 F.2.1 d ht (fun h => kt h ls H locs ad hag hl hH hS) (fun h => kf h ls H locs ad hag hl hH hS)
theorem aw_if_lt (F : Fx E X own cc nL) {x : Int32} {off : Int} {tgt : Nat} (d : decode cc pc = .ok (.ifCond .lt off, 3)) (ht : (pc : Int) + off = (tgt : Int)) (kt : x < 0 → AW E X nL tgt lv stk G n1 n2) (kf : ¬ (x < 0) → AW E X nL (pc + 3) lv stk G n1 n2) : AW E X nL pc lv (.int x :: stk) G n1 n2 := by
  obtain ⟨p, l, e, R, s, m, args, below, meth, c, Q, sd, P⟩ := X
  intro ls H locs ad hag hl hH hS
  exact lv_if_lt F.1 F.2.1 d ht (fun h => kt h ls H locs ad hag hl hH hS) (fun h => kf h ls H locs ad hag hl hH hS)
theorem aw_icmp_lt (F : Fx E X own cc nL) {x y : Int32} {off : Int} {tgt : Nat} (d : decode cc pc = .ok (.if_icmp .lt off, 3)) (ht : (pc : Int) + off = (tgt : Int)) (kt : x < y → AW E X nL tgt lv stk G n1 n2) (kf : ¬ (x < y) → AW E X nL (pc + 3) lv stk G n1 n2) : AW E X nL pc lv (.int y :: .int x :: stk) G n1 n2 := by
  obtain ⟨p, l, e, R, s, m, args, below, meth, c, Q, sd, P⟩ := X
  intro ls H locs ad hag hl hH hS
  exact lv_icmp_lt F.1 F.2.1 d ht (fun h => kt h ls H locs ad hag hl hH hS) (fun h => kf h ls H locs ad hag hl hH hS)
theorem aw_if_ge (F : Fx E X own cc nL) {x : Int32} {off : Int} {tgt : Nat} (d : decode cc pc = .ok (.ifCond .ge off, 3)) (ht : (pc : Int) + off = (tgt : Int)) (kt : 0 ≤ x → AW E X nL tgt lv stk G n1 n2) (kf : ¬ (0 ≤ x) → AW E X nL (pc + 3) lv stk G n1 n2) : AW E X nL pc lv (.int x :: stk) G n1 n2 := by
  obtain ⟨p, l, e, R, s, m, args, below, meth, c, Q, sd, P⟩ := X
  intro ls H locs ad hag hl hH hS
  exact lv_if_ge F.1 F.2.1 d ht (fun h => kt h ls H locs ad hag hl hH hS) (fun h => kf h ls H locs ad hag hl hH hS)
theorem aw_icmp_ge (F : Fx E X own cc nL) {x y : Int32} {off : Int} {tgt : Nat} (d : decode cc pc = .ok (.if_icmp .ge off, 3)) (ht : (pc : Int) + off = (tgt : Int)) (kt : y ≤ x → AW E X nL tgt lv stk G n1 n2) (kf : ¬ (y ≤ x) → AW E X nL (pc + 3) lv stk G n1 n2) : AW E X nL pc lv (.int y :: .int x :: stk) G n1 n2 := by
  obtain ⟨p, l, e, R, s, m, args, below, meth, c, Q, sd, P⟩ := X
  intro ls H locs ad hag hl hH hS
  exact lv_icmp_ge F.1 F.2.1 d ht (fun h => kt h ls H locs ad hag hl hH hS) (fun h => kf h ls H locs ad hag hl hH hS)
theorem aw_if_gt (F : Fx E X own cc nL) {x : Int32} {off : Int} {tgt : Nat} (d : decode cc pc = .ok (.ifCond .gt off, 3)) (ht : (pc : Int) + off = (tgt : Int)) (kt : 0 < x → AW E X nL tgt lv stk G n1 n2) (kf : ¬ (0 < x) → AW E X nL (pc + 3) lv stk G n1 n2) : AW E X nL pc lv (.int x :: stk) G n1 n2 := by
  obtain ⟨p, l, e, R, s, m, args, below, meth, c, Q, sd, P⟩ := X
  intro ls H locs ad hag hl hH hS
  exact lv_if_gt F.1 F.2.1 d ht (fun h => kt h ls H locs ad hag hl hH hS) (fun h => kf h ls H locs ad hag hl hH hS)
theorem aw_icmp_gt (F : Fx E X own cc nL) {x y : Int32} {off : Int} {tgt : Nat} (d : decode cc pc = .ok (.if_icmp .gt off, 3)) (ht : (pc : Int) + off = (tgt : Int)) (kt : y < x → AW E X nL tgt lv stk G n1 n2) (kf : ¬ (y < x) → AW E X nL (pc + 3) lv stk G n1 n2) : AW E X nL pc lv (.int y :: .int x :: stk) G n1 n2 := by
  obtain ⟨p, l, e, R, s, m, args, below, meth, c, Q, sd, P⟩ := X
  intro ls H locs ad hag hl hH hS
  exact lv_icmp_gt F.1 F.2.1 d ht (fun h => kt h ls H locs ad hag hl hH hS) (fun h => kf h ls H locs ad hag hl hH hS)
theorem aw_if_le (F : Fx E X own cc nL) {x : Int32} {off : Int} {tgt : Nat} (d : decode cc pc = .ok (.ifCond .le off, 3)) (ht : (pc : Int) + off = (tgt : Int)) (kt : x ≤ 0 → AW E X nL tgt lv stk G n1 n2) (kf : ¬ (x ≤ 0) → AW E X nL (pc + 3) lv stk G n1 n2) : AW E X nL pc lv (.int x :: stk) G n1 n2 := by
  obtain ⟨p, l, e, R, s, m, args, below, meth, c, Q, sd, P⟩ := X
  intro ls H locs ad hag hl hH hS
  exact lv_if_le F.1 F.2.1 d ht (fun h => kt h ls H locs ad hag hl hH hS) (fun h => kf h ls H locs ad hag hl hH hS)
theorem aw_icmp_le (F : Fx E X own cc nL) {x y : Int32} {off : Int} {tgt : Nat} (d : decode cc pc = .ok (.if_icmp .le off, 3)) (ht : (pc : Int) + off = (tgt : Int)) (kt : x ≤ y → AW E X nL tgt lv stk G n1 n2) (kf : ¬ (x ≤ y) → AW E X nL (pc + 3) lv stk G n1 n2) : AW E X nL pc lv (.int y :: .int x :: stk) G n1 n2 := by
  obtain ⟨p, l, e, R, s, m, args, below, meth, c, Q, sd, P⟩ := X
  intro ls H locs ad hag hl hH hS
  exact lv_icmp_le F.1 F.2.1 d ht (fun h => kt h ls H locs ad hag hl hH hS) (fun h => kf h ls H locs ad hag hl hH hS)
theorem aw_go (F : Fx E X own cc nL) {off : Int} {tgt : Nat} (d : decode cc pc = .ok (.goto off, 3)) (ht : (pc : Int) + off = (tgt : Int)) (kk : AW E X nL tgt lv stk G n1 n2) : AW E X nL pc lv stk G n1 n2 := by
  obtain ⟨p, l, e, R, s, m, args, below, meth, c, Q, sd, P⟩ := X
  intro ls H locs ad hag hl hH hS
  exact lv_goto F.1 F.2.1 d ht (kk ls H locs ad hag hl hH hS)
theorem aw_tabO (F : Fx E X own cc nL) {dflt lo hi : Int} {offs : Array Int} {len : Nat} {x : Int32} {tgt : Nat} (d : decode cc pc = .ok (.tableswitch dflt lo hi offs, len)) (h : x.toInt < lo ∨ hi < x.toInt) (ht : (pc : Int) + dflt = (tgt : Int)) (kk : AW E X nL tgt lv stk G n1 n2) : AW E X nL pc lv (.int x :: stk) G n1 n2 := by
  obtain ⟨p, l, e, R, s, m, args, below, meth, c, Q, sd, P⟩ := X
  intro ls H locs ad hag hl hH hS
  exact lv_tableOut F.1 F.2.1 d h ht (kk ls H locs ad hag hl hH hS)
theorem aw_tabI (F : Fx E X own cc nL) {dflt lo hi : Int} {offs : Array Int} {len : Nat} {x : Int32} {off : Int} {tgt : Nat} (d : decode cc pc = .ok (.tableswitch dflt lo hi offs, len)) (h1 : ¬ x.toInt < lo) (h2 : ¬ hi < x.toInt) (ho : offs[(x.toInt - lo).toNat]? = some off) (ht : (pc : Int) + off = (tgt : Int)) (kk : AW E X nL tgt lv stk G n1 n2) : AW E X nL pc lv (.int x :: stk) G n1 n2 := by
  obtain ⟨p, l, e, R, s, m, args, below, meth, c, Q, sd, P⟩ := X
  intro ls H locs ad hag hl hH hS
  exact lv_tableIn F.1 F.2.1 d h1 h2 ho ht (kk ls H locs ad hag hl hH hS)
theorem aw_look (F : Fx E X own cc nL) {dflt : Int} {ps : Array (Int × Int)} {len : Nat} {x : Int32} {off : Int} {tgt : Nat} (d : decode cc pc = .ok (.lookupswitch dflt ps, len)) (hp : (ps.toList.zip (ps.toList.drop 1)).all (fun (a, next) => a.1 < next.1) = true) (ho : Op.lookupswitch.offset ps.toList dflt x.toInt = off) (ht : (pc : Int) + off = (tgt : Int)) (kk : AW E X nL tgt lv stk G n1 n2) : AW E X nL pc lv (.int x :: stk) G n1 n2 := by
  obtain ⟨p, l, e, R, s, m, args, below, meth, c, Q, sd, P⟩ := X
  intro ls H locs ad hag hl hH hS
  exact lv_lookup F.1 F.2.1 d hp ho ht (kk ls H locs ad hag hl hH hS)
theorem aw_top {x : Int32} (kk : ∀ y : Int32, y = x → AW E X nL pc lv (.int y :: stk) G n1 n2) : AW E X nL pc lv (.int x :: stk) G n1 n2 := kk x rfl
theorem aw_pc {pc2 : Nat} (h : pc = pc2) (kk : AW E X nL pc2 lv stk G n1 n2) : AW E X nL pc lv stk G n1 n2 := h ▸ kk
theorem aw_sub {lv1 : List (Nat × Value)} (ks : List Nat) (hl1 : lv_pick lv ks = lv1) (kk : AW E X nL pc lv1 stk G n1 n2) : AW E X nL pc lv stk G n1 n2 := by
  obtain ⟨p, l, e, R, s, m, args, below, meth, c, Q, sd, P⟩ := X
  intro ls H locs ad hag hl hH hS
  exact kk ls H locs ad hag (lv_sub hl ks hl1) hH hS
theorem aw_wide {k1 k2 : Nat} (h1 : n1 ≤ k1) (h2 : n2 ≤ k2) (kk : AW E X nL pc lv stk G k1 k2) : AW E X nL pc lv stk G n1 n2 := by
  obtain ⟨p, l, e, R, s, m, args, below, meth, c, Q, sd, P⟩ := X
  intro ls H locs ad hag hl hH hS
  exact W.widen (k := k1) (n := k2) h1 h2 (kk ls H locs ad hag hl hH hS)
end AWR
