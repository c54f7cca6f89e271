theorem ic_1 : Int32.ofInt (1) = (1 : Int32) := by decide
theorem ic_2 : Int32.ofInt (2) = (2 : Int32) := by decide
theorem ic_4 : Int32.ofInt (4) = (4 : Int32) := by decide
theorem bi_8 : (Int8.ofInt (8)).toInt32 = (8 : Int32) := by decide
theorem bi_16 : (Int8.ofInt (16)).toInt32 = (16 : Int32) := by decide
theorem bi_63 : (Int8.ofInt (63)).toInt32 = (63 : Int32) := by decide
theorem ic_0 : Int32.ofInt (0) = (0 : Int32) := by decide
theorem in_1 (x : Int32) : x + Int32.ofInt (1) = x + (1 : Int32) := by rw [show Int32.ofInt (1) = (1 : Int32) by decide]
theorem si_9999 : (Int16.ofInt (9999)).toInt32 = (9999 : Int32) := by decide
theorem bi_10 : (Int8.ofInt (10)).toInt32 = (10 : Int32) := by decide
theorem ic_m1 : Int32.ofInt (-1) = (-1 : Int32) := by decide
theorem bi_6 : (Int8.ofInt (6)).toInt32 = (6 : Int32) := by decide
theorem bi_36 : (Int8.ofInt (36)).toInt32 = (36 : Int32) := by decide
theorem ic_3 : Int32.ofInt (3) = (3 : Int32) := by decide
theorem bi_97 : (Int8.ofInt (97)).toInt32 = (97 : Int32) := by decide
theorem bi_12 : (Int8.ofInt (12)).toInt32 = (12 : Int32) := by decide
theorem tn_4 : (4 : Int32).toNatClampNeg = 4 := by decide
theorem si_10000 : (Int16.ofInt (10000)).toInt32 = (10000 : Int32) := by decide
theorem w_632 : (Jvm.Cond.constant "java/lang/Integer" (265 : Nat) (1431655765 : Int32)) ∈ tb := tb_of (List.mem_of_getElem? (i := 632) (by decide +kernel)) rfl
theorem w_633 : (Jvm.Cond.constant "java/lang/Integer" (266 : Nat) (858993459 : Int32)) ∈ tb := tb_of (List.mem_of_getElem? (i := 633) (by decide +kernel)) rfl
theorem w_634 : (Jvm.Cond.constant "java/lang/Integer" (267 : Nat) (252645135 : Int32)) ∈ tb := tb_of (List.mem_of_getElem? (i := 634) (by decide +kernel)) rfl
theorem w_631 : (Jvm.Cond.code ({ cls := "java/lang/Integer", name := "bitCount", desc := "(I)I" } : Jvm.MethodName) prog_16_method_49_code (1 : Nat) (Option.some Jvm.ClassFile.FieldType.int)) ∈ tb := tb_of (List.mem_of_getElem? (i := 631) (by decide +kernel)) rfl
theorem w_21 : (Jvm.Cond.initialized "java/lang/Integer") ∈ tb := tb_of (List.mem_of_getElem? (i := 21) (by decide +kernel)) rfl
theorem w_630 : (Jvm.Cond.static ({ cls := "java/lang/Integer", name := "bitCount", desc := "(I)I" } : Jvm.MethodName)) ∈ tb := tb_of (List.mem_of_getElem? (i := 630) (by decide +kernel)) rfl
theorem w_629 : (Jvm.Cond.methodLink "MarkField" (382 : Nat) ({ cls := "java/lang/Integer", name := "bitCount", desc := "(I)I" } : Jvm.MethodName)) ∈ tb := tb_of (List.mem_of_getElem? (i := 629) (by decide +kernel)) rfl
theorem w_577 : (Jvm.Cond.code ({ cls := "MarkField", name := "isIn", desc := "(II)Z" } : Jvm.MethodName) prog_1_method_34_code (2 : Nat) (Option.some Jvm.ClassFile.FieldType.boolean)) ∈ tb := tb_of (List.mem_of_getElem? (i := 577) (by decide +kernel)) rfl
theorem w_1 : (Jvm.Cond.initialized "MarkField") ∈ tb := tb_of (List.mem_of_getElem? (i := 1) (by decide +kernel)) rfl
theorem w_576 : (Jvm.Cond.static ({ cls := "MarkField", name := "isIn", desc := "(II)Z" } : Jvm.MethodName)) ∈ tb := tb_of (List.mem_of_getElem? (i := 576) (by decide +kernel)) rfl
theorem w_603 : (Jvm.Cond.methodLink "MarkField" (275 : Nat) ({ cls := "MarkField", name := "isIn", desc := "(II)Z" } : Jvm.MethodName)) ∈ tb := tb_of (List.mem_of_getElem? (i := 603) (by decide +kernel)) rfl
theorem w_80 : (Jvm.Cond.fieldLink "MarkField$Register" (40 : Nat) "MarkField$Register" "lands" "I") ∈ tb := tb_of (List.mem_of_getElem? (i := 80) (by decide +kernel)) rfl
theorem w_83 : (Jvm.Cond.fieldLink "MarkField$Register" (44 : Nat) "MarkField$Register" "marks" "I") ∈ tb := tb_of (List.mem_of_getElem? (i := 83) (by decide +kernel)) rfl
theorem w_114 : (Jvm.Cond.fieldLink "MarkField$Register" (34 : Nat) "MarkField$Register" "neighbours" "[I") ∈ tb := tb_of (List.mem_of_getElem? (i := 114) (by decide +kernel)) rfl
theorem w_459 : (Jvm.Cond.code ({ cls := "java/util/Arrays", name := "fill", desc := "([II)V" } : Jvm.MethodName) prog_26_method_103_code (4 : Nat) (Option.none : Option Jvm.ClassFile.FieldType)) ∈ tb := tb_of (List.mem_of_getElem? (i := 459) (by decide +kernel)) rfl
theorem w_15 : (Jvm.Cond.initialized "java/util/Arrays") ∈ tb := tb_of (List.mem_of_getElem? (i := 15) (by decide +kernel)) rfl
theorem w_458 : (Jvm.Cond.static ({ cls := "java/util/Arrays", name := "fill", desc := "([II)V" } : Jvm.MethodName)) ∈ tb := tb_of (List.mem_of_getElem? (i := 458) (by decide +kernel)) rfl
theorem w_457 : (Jvm.Cond.methodLink "MarkField$Register" (56 : Nat) ({ cls := "java/util/Arrays", name := "fill", desc := "([II)V" } : Jvm.MethodName)) ∈ tb := tb_of (List.mem_of_getElem? (i := 457) (by decide +kernel)) rfl
theorem w_117 : (Jvm.Cond.fieldLink "MarkField$Register" (37 : Nat) "MarkField$Register" "rules" "[I") ∈ tb := tb_of (List.mem_of_getElem? (i := 117) (by decide +kernel)) rfl
theorem w_77 : (Jvm.Cond.methodLink "MarkField$Register" (50 : Nat) ({ cls := "java/lang/System", name := "arraycopy", desc := "(Ljava/lang/Object;ILjava/lang/Object;II)V" } : Jvm.MethodName)) ∈ tb := tb_of (List.mem_of_getElem? (i := 77) (by decide +kernel)) rfl
theorem w_79 : (Jvm.Cond.native ({ cls := "java/lang/System", name := "arraycopy", desc := "(Ljava/lang/Object;ILjava/lang/Object;II)V" } : Jvm.MethodName)) ∈ tb := tb_of (List.mem_of_getElem? (i := 79) (by decide +kernel)) rfl
theorem w_78 : (Jvm.Cond.static ({ cls := "java/lang/System", name := "arraycopy", desc := "(Ljava/lang/Object;ILjava/lang/Object;II)V" } : Jvm.MethodName)) ∈ tb := tb_of (List.mem_of_getElem? (i := 78) (by decide +kernel)) rfl
theorem w_4 : (Jvm.Cond.initialized "java/lang/System") ∈ tb := tb_of (List.mem_of_getElem? (i := 4) (by decide +kernel)) rfl
theorem w_89 : (Jvm.Cond.fieldLink "MarkField$Register" (9 : Nat) "MarkField$Register" "filed" "[I") ∈ tb := tb_of (List.mem_of_getElem? (i := 89) (by decide +kernel)) rfl
theorem w_92 : (Jvm.Cond.fieldLink "MarkField$Register" (15 : Nat) "MarkField$Register" "classes" "[I") ∈ tb := tb_of (List.mem_of_getElem? (i := 92) (by decide +kernel)) rfl
theorem w_97 : (Jvm.Cond.fieldLink "MarkField$Register" (18 : Nat) "MarkField$Register" "lengths" "[I") ∈ tb := tb_of (List.mem_of_getElem? (i := 97) (by decide +kernel)) rfl
theorem w_101 : (Jvm.Cond.fieldLink "MarkField$Register" (21 : Nat) "MarkField$Register" "letters" "[B") ∈ tb := tb_of (List.mem_of_getElem? (i := 101) (by decide +kernel)) rfl
theorem w_104 : (Jvm.Cond.fieldLink "MarkField$Register" (25 : Nat) "MarkField$Register" "useCounts" "[I") ∈ tb := tb_of (List.mem_of_getElem? (i := 104) (by decide +kernel)) rfl
theorem w_108 : (Jvm.Cond.fieldLink "MarkField$Register" (28 : Nat) "MarkField$Register" "uses" "[I") ∈ tb := tb_of (List.mem_of_getElem? (i := 108) (by decide +kernel)) rfl
theorem w_110 : (Jvm.Cond.fieldLink "MarkField$Register" (31 : Nat) "MarkField$Register" "consents" "[I") ∈ tb := tb_of (List.mem_of_getElem? (i := 110) (by decide +kernel)) rfl
theorem w_586 : (Jvm.Cond.code ({ cls := "MarkField$Register", name := "halfCount", desc := "()I" } : Jvm.MethodName) prog_6_method_4_code (1 : Nat) (Option.some Jvm.ClassFile.FieldType.int)) ∈ tb := tb_of (List.mem_of_getElem? (i := 586) (by decide +kernel)) rfl
theorem w_3 : (Jvm.Cond.initialized "MarkField$Register") ∈ tb := tb_of (List.mem_of_getElem? (i := 3) (by decide +kernel)) rfl
theorem w_584 : (Jvm.Cond.instanceMethod ({ cls := "MarkField$Register", name := "halfCount", desc := "()I" } : Jvm.MethodName)) ∈ tb := tb_of (List.mem_of_getElem? (i := 584) (by decide +kernel)) rfl
theorem w_585 : (Jvm.Cond.selects "MarkField$Register" ({ cls := "MarkField$Register", name := "halfCount", desc := "()I" } : Jvm.MethodName) ({ cls := "MarkField$Register", name := "halfCount", desc := "()I" } : Jvm.MethodName)) ∈ tb := tb_of (List.mem_of_getElem? (i := 585) (by decide +kernel)) rfl
theorem w_981 : (Jvm.Cond.methodLink "MarkField$Register" (62 : Nat) ({ cls := "MarkField$Register", name := "halfCount", desc := "()I" } : Jvm.MethodName)) ∈ tb := tb_of (List.mem_of_getElem? (i := 981) (by decide +kernel)) rfl
theorem w_594 : (Jvm.Cond.code ({ cls := "MarkField$Register", name := "useAt", desc := "(II)I" } : Jvm.MethodName) prog_6_method_7_code (3 : Nat) (Option.some Jvm.ClassFile.FieldType.int)) ∈ tb := tb_of (List.mem_of_getElem? (i := 594) (by decide +kernel)) rfl
theorem w_592 : (Jvm.Cond.instanceMethod ({ cls := "MarkField$Register", name := "useAt", desc := "(II)I" } : Jvm.MethodName)) ∈ tb := tb_of (List.mem_of_getElem? (i := 592) (by decide +kernel)) rfl
theorem w_593 : (Jvm.Cond.selects "MarkField$Register" ({ cls := "MarkField$Register", name := "useAt", desc := "(II)I" } : Jvm.MethodName) ({ cls := "MarkField$Register", name := "useAt", desc := "(II)I" } : Jvm.MethodName)) ∈ tb := tb_of (List.mem_of_getElem? (i := 593) (by decide +kernel)) rfl
theorem w_591 : (Jvm.Cond.methodLink "MarkField$Register" (66 : Nat) ({ cls := "MarkField$Register", name := "useAt", desc := "(II)I" } : Jvm.MethodName)) ∈ tb := tb_of (List.mem_of_getElem? (i := 591) (by decide +kernel)) rfl
theorem w_1066 : (Jvm.Cond.code ({ cls := "MarkField$Register", name := "closeUp", desc := "([IIII)V" } : Jvm.MethodName) prog_6_method_11_code (4 : Nat) (Option.none : Option Jvm.ClassFile.FieldType)) ∈ tb := tb_of (List.mem_of_getElem? (i := 1066) (by decide +kernel)) rfl
theorem w_1065 : (Jvm.Cond.static ({ cls := "MarkField$Register", name := "closeUp", desc := "([IIII)V" } : Jvm.MethodName)) ∈ tb := tb_of (List.mem_of_getElem? (i := 1065) (by decide +kernel)) rfl
theorem w_1064 : (Jvm.Cond.methodLink "MarkField$Register" (70 : Nat) ({ cls := "MarkField$Register", name := "closeUp", desc := "([IIII)V" } : Jvm.MethodName)) ∈ tb := tb_of (List.mem_of_getElem? (i := 1064) (by decide +kernel)) rfl
theorem w_832 : (Jvm.Cond.code ({ cls := "MarkField$Register", name := "sinceOf", desc := "(III)I" } : Jvm.MethodName) prog_6_method_13_code (10 : Nat) (Option.some Jvm.ClassFile.FieldType.int)) ∈ tb := tb_of (List.mem_of_getElem? (i := 832) (by decide +kernel)) rfl
theorem w_830 : (Jvm.Cond.instanceMethod ({ cls := "MarkField$Register", name := "sinceOf", desc := "(III)I" } : Jvm.MethodName)) ∈ tb := tb_of (List.mem_of_getElem? (i := 830) (by decide +kernel)) rfl
theorem w_831 : (Jvm.Cond.selects "MarkField$Register" ({ cls := "MarkField$Register", name := "sinceOf", desc := "(III)I" } : Jvm.MethodName) ({ cls := "MarkField$Register", name := "sinceOf", desc := "(III)I" } : Jvm.MethodName)) ∈ tb := tb_of (List.mem_of_getElem? (i := 831) (by decide +kernel)) rfl
theorem w_837 : (Jvm.Cond.methodLink "MarkField$Register" (78 : Nat) ({ cls := "MarkField$Register", name := "sinceOf", desc := "(III)I" } : Jvm.MethodName)) ∈ tb := tb_of (List.mem_of_getElem? (i := 837) (by decide +kernel)) rfl
theorem w_838 : (Jvm.Cond.methodLink "MarkField$Register" (82 : Nat) ({ cls := "java/lang/Math", name := "min", desc := "(II)I" } : Jvm.MethodName)) ∈ tb := tb_of (List.mem_of_getElem? (i := 838) (by decide +kernel)) rfl
theorem w_479 : (Jvm.Cond.static ({ cls := "java/lang/Math", name := "min", desc := "(II)I" } : Jvm.MethodName)) ∈ tb := tb_of (List.mem_of_getElem? (i := 479) (by decide +kernel)) rfl
theorem w_16 : (Jvm.Cond.initialized "java/lang/Math") ∈ tb := tb_of (List.mem_of_getElem? (i := 16) (by decide +kernel)) rfl
theorem w_480 : (Jvm.Cond.code ({ cls := "java/lang/Math", name := "min", desc := "(II)I" } : Jvm.MethodName) prog_17_method_69_code (2 : Nat) (Option.some Jvm.ClassFile.FieldType.int)) ∈ tb := tb_of (List.mem_of_getElem? (i := 480) (by decide +kernel)) rfl
theorem w_836 : (Jvm.Cond.code ({ cls := "MarkField$Register", name := "priorityOf", desc := "(III)I" } : Jvm.MethodName) prog_6_method_14_code (5 : Nat) (Option.some Jvm.ClassFile.FieldType.int)) ∈ tb := tb_of (List.mem_of_getElem? (i := 836) (by decide +kernel)) rfl
theorem w_834 : (Jvm.Cond.instanceMethod ({ cls := "MarkField$Register", name := "priorityOf", desc := "(III)I" } : Jvm.MethodName)) ∈ tb := tb_of (List.mem_of_getElem? (i := 834) (by decide +kernel)) rfl
theorem w_835 : (Jvm.Cond.selects "MarkField$Register" ({ cls := "MarkField$Register", name := "priorityOf", desc := "(III)I" } : Jvm.MethodName) ({ cls := "MarkField$Register", name := "priorityOf", desc := "(III)I" } : Jvm.MethodName)) ∈ tb := tb_of (List.mem_of_getElem? (i := 835) (by decide +kernel)) rfl
theorem w_997 : (Jvm.Cond.methodLink "MarkField$Register" (87 : Nat) ({ cls := "MarkField$Register", name := "priorityOf", desc := "(III)I" } : Jvm.MethodName)) ∈ tb := tb_of (List.mem_of_getElem? (i := 997) (by decide +kernel)) rfl
theorem w_930 : (Jvm.Cond.code ({ cls := "MarkField$Register", name := "sooner", desc := "(III)I" } : Jvm.MethodName) prog_6_method_17_code (3 : Nat) (Option.some Jvm.ClassFile.FieldType.int)) ∈ tb := tb_of (List.mem_of_getElem? (i := 930) (by decide +kernel)) rfl
theorem w_929 : (Jvm.Cond.static ({ cls := "MarkField$Register", name := "sooner", desc := "(III)I" } : Jvm.MethodName)) ∈ tb := tb_of (List.mem_of_getElem? (i := 929) (by decide +kernel)) rfl
theorem w_928 : (Jvm.Cond.methodLink "MarkField$Register" (90 : Nat) ({ cls := "MarkField$Register", name := "sooner", desc := "(III)I" } : Jvm.MethodName)) ∈ tb := tb_of (List.mem_of_getElem? (i := 928) (by decide +kernel)) rfl
theorem ms_J6_bitCount_0f7a4 : MS yJ6_bitCount_0f7a4 cJ6_bitCount_0f7a4 1 (some .int) 1 := ⟨⟨w_631, w_21, by decide, by decide, by decide +kernel⟩, w_630⟩
theorem ms_X7_isIn : MS yX7_isIn cX7_isIn 2 (some .boolean) 2 := ⟨⟨w_577, w_1, by decide, by decide, by decide +kernel⟩, w_576⟩
theorem ms_J7_fill_53178 : MS yJ7_fill_53178 cJ7_fill_53178 4 none 2 := ⟨⟨w_459, w_15, by decide, by decide, by decide +kernel⟩, w_458⟩
theorem mv_X4_halfCount : MV yX4_halfCount cX4_halfCount 1 (some .int) 0 := ⟨⟨w_586, w_3, by decide, by decide, by decide +kernel⟩, w_584, w_585⟩
theorem mv_X4_useAt : MV yX4_useAt cX4_useAt 3 (some .int) 2 := ⟨⟨w_594, w_3, by decide, by decide, by decide +kernel⟩, w_592, w_593⟩
theorem ms_X4_closeUp : MS yX4_closeUp cX4_closeUp 4 none 4 := ⟨⟨w_1066, w_3, by decide, by decide, by decide +kernel⟩, w_1065⟩
theorem mv_X4_sinceOf : MV yX4_sinceOf cX4_sinceOf 10 (some .int) 3 := ⟨⟨w_832, w_3, by decide, by decide, by decide +kernel⟩, w_830, w_831⟩
theorem mv_X4_priorityOf : MV yX4_priorityOf cX4_priorityOf 5 (some .int) 3 := ⟨⟨w_836, w_3, by decide, by decide, by decide +kernel⟩, w_834, w_835⟩
theorem ms_X4_sooner : MS yX4_sooner cX4_sooner 3 (some .int) 3 := ⟨⟨w_930, w_3, by decide, by decide, by decide +kernel⟩, w_929⟩
-- J6_bitCount_0f7a4 (height 0)
def wp_J6_bitCount_0f7a4 (post : Int32 → GH → Prop) (x0 : Int32) (G : GH) : Prop :=
  (∀ y_1 : Int32, y_1 = (x0 - ((((x0).toUInt32 >>> (((1 : Int32)).toUInt32 &&& Int32.toUInt32 31)).toInt32) &&& (1431655765 : Int32))) → (∀ y_2 : Int32, y_2 = ((y_1 &&& (858993459 : Int32)) + ((((y_1).toUInt32 >>> (((2 : Int32)).toUInt32 &&& Int32.toUInt32 31)).toInt32) &&& (858993459 : Int32))) → (∀ y_3 : Int32, y_3 = ((y_2 + (((y_2).toUInt32 >>> (((4 : Int32)).toUInt32 &&& Int32.toUInt32 31)).toInt32)) &&& (252645135 : Int32)) → (∀ y_4 : Int32, y_4 = (y_3 + (((y_3).toUInt32 >>> (((8 : Int32)).toUInt32 &&& Int32.toUInt32 31)).toInt32)) → (∀ y_5 : Int32, y_5 = (y_4 + (((y_4).toUInt32 >>> (((16 : Int32)).toUInt32 &&& Int32.toUInt32 31)).toInt32)) → post (y_5 &&& (63 : Int32)) G)))))
set_option maxRecDepth 100000 in
set_option maxHeartbeats 4000000 in
theorem k_J6_bitCount_0f7a4 {l : Launch} {E : Ev} {P : Nat → Prop} {sd : Nat → Nat → Nat} {G : GH} {post : Int32 → GH → Prop} {x0 : Int32} (hPP : ∀ o, stt o = true → P o) (h : wp_J6_bitCount_0f7a4 post x0 G) : Ct l yJ6_bitCount_0f7a4 cJ6_bitCount_0f7a4 1 (some .int) 0 0 0 E P sd G [.int x0] (pI post) := by
  refine ct_of (own := "java/lang/Integer") (by decide) rfl (Nat.le_of_ble_eq_true rfl) hPP (fun X F T el eP es => ?_)
  subst el; subst eP; subst es
  have hP := F.P
  change AW E X 1 0 [(0, .int x0)] [] G 0 0
  refine aw_il_n F 0 dJ6_bitCount_0f7a4_0 rfl rfl ?_
  refine aw_il_n F 0 dJ6_bitCount_0f7a4_1 rfl rfl ?_
  refine aw_ic F dJ6_bitCount_0f7a4_2 ic_1 ?_
  refine aw_iushr F dJ6_bitCount_0f7a4_3 ?_
  refine aw_ldcw F dJ6_bitCount_0f7a4_4 w_632 ?_
  refine aw_iand F dJ6_bitCount_0f7a4_7 ?_
  refine aw_isub F dJ6_bitCount_0f7a4_8 ?_
  refine aw_top (fun y_1 ey_1 => ?_)
  replace h := h y_1 ey_1
  refine aw_is_n (lv1 := [(0, .int y_1)]) F dJ6_bitCount_0f7a4_9 rfl (by decide) rfl ?_
  refine aw_il_n F 0 dJ6_bitCount_0f7a4_10 rfl rfl ?_
  refine aw_ldcw F dJ6_bitCount_0f7a4_11 w_633 ?_
  refine aw_iand F dJ6_bitCount_0f7a4_14 ?_
  refine aw_il_n F 0 dJ6_bitCount_0f7a4_15 rfl rfl ?_
  refine aw_ic F dJ6_bitCount_0f7a4_16 ic_2 ?_
  refine aw_iushr F dJ6_bitCount_0f7a4_17 ?_
  refine aw_ldcw F dJ6_bitCount_0f7a4_18 w_633 ?_
  refine aw_iand F dJ6_bitCount_0f7a4_21 ?_
  refine aw_iadd F dJ6_bitCount_0f7a4_22 ?_
  refine aw_top (fun y_2 ey_2 => ?_)
  replace h := h y_2 ey_2
  refine aw_is_n (lv1 := [(0, .int y_2)]) F dJ6_bitCount_0f7a4_23 rfl (by decide) rfl ?_
  refine aw_il_n F 0 dJ6_bitCount_0f7a4_24 rfl rfl ?_
  refine aw_il_n F 0 dJ6_bitCount_0f7a4_25 rfl rfl ?_
  refine aw_ic F dJ6_bitCount_0f7a4_26 ic_4 ?_
  refine aw_iushr F dJ6_bitCount_0f7a4_27 ?_
  refine aw_iadd F dJ6_bitCount_0f7a4_28 ?_
  refine aw_ldcw F dJ6_bitCount_0f7a4_29 w_634 ?_
  refine aw_iand F dJ6_bitCount_0f7a4_32 ?_
  refine aw_top (fun y_3 ey_3 => ?_)
  replace h := h y_3 ey_3
  refine aw_is_n (lv1 := [(0, .int y_3)]) F dJ6_bitCount_0f7a4_33 rfl (by decide) rfl ?_
  refine aw_il_n F 0 dJ6_bitCount_0f7a4_34 rfl rfl ?_
  refine aw_il_n F 0 dJ6_bitCount_0f7a4_35 rfl rfl ?_
  refine aw_bi F dJ6_bitCount_0f7a4_36 bi_8 ?_
  refine aw_iushr F dJ6_bitCount_0f7a4_38 ?_
  refine aw_iadd F dJ6_bitCount_0f7a4_39 ?_
  refine aw_top (fun y_4 ey_4 => ?_)
  replace h := h y_4 ey_4
  refine aw_is_n (lv1 := [(0, .int y_4)]) F dJ6_bitCount_0f7a4_40 rfl (by decide) rfl ?_
  refine aw_il_n F 0 dJ6_bitCount_0f7a4_41 rfl rfl ?_
  refine aw_il_n F 0 dJ6_bitCount_0f7a4_42 rfl rfl ?_
  refine aw_bi F dJ6_bitCount_0f7a4_43 bi_16 ?_
  refine aw_iushr F dJ6_bitCount_0f7a4_45 ?_
  refine aw_iadd F dJ6_bitCount_0f7a4_46 ?_
  refine aw_top (fun y_5 ey_5 => ?_)
  replace h := h y_5 ey_5
  refine aw_is_n (lv1 := [(0, .int y_5)]) F dJ6_bitCount_0f7a4_47 rfl (by decide) rfl ?_
  refine aw_il_n F 0 dJ6_bitCount_0f7a4_48 rfl rfl ?_
  refine aw_bi F dJ6_bitCount_0f7a4_49 bi_63 ?_
  refine aw_iand F dJ6_bitCount_0f7a4_51 ?_
  exact aw_iret F T (Nat.le_of_ble_eq_true rfl) (Nat.le_of_ble_eq_true rfl) ⟨_, rfl, h⟩ dJ6_bitCount_0f7a4_52
-- J7_fill_53178 (height 0)
def lb_J7_fill_53178_5 (post : GH → Prop) (o0 k0 m0 : Nat) (P5 : Int32 → Int32 → Int32 → GH → Prop) (v1 v2 v3 : Int32) (G : GH) : Prop :=
  ((v3 ≤ v2 → post G) ∧ (¬ v3 ≤ v2 → (vp_in v2 m0 ∧ (∀ G_3 : GH, G_3 = gs G o0 k0 (upd (G o0 k0) v2.toNatClampNeg v1) → P5 v1 (v2 + (1 : Int32)) v3 G_3))))
def lp_J7_fill_53178_5 (post : GH → Prop) (o0 k0 m0 : Nat) (v1 v2 v3 : Int32) (G : GH) : Prop := ∀ P5 : Int32 → Int32 → Int32 → GH → Prop, (∀ (v1 v2 v3 : Int32) (G : GH), lb_J7_fill_53178_5 post o0 k0 m0 P5 v1 v2 v3 G → P5 v1 v2 v3 G) → P5 v1 v2 v3 G
def wp_J7_fill_53178 (post : GH → Prop) (o0 k0 m0 : Nat) (x1 : Int32) (G : GH) : Prop :=
  (∀ y_1 : Int32, y_1 = (Int32.ofNat m0) → lp_J7_fill_53178_5 post o0 k0 m0 x1 (0 : Int32) y_1 G)
set_option maxRecDepth 100000 in
set_option maxHeartbeats 4000000 in
theorem kl_J7_fill_53178_5 {E : Ev} {X : Cx} {post : GH → Prop} {o0 k0 m0 : Nat} {v1 v2 v3 : Int32} {G : GH} (F : Fx E X "java/util/Arrays" cJ7_fill_53178 4) (T : RT E X 0 0 0 none (pV post)) (hs0 : stt o0 = true) (ha0 : al (oc o0) k0 = some (0, m0)) (h : lp_J7_fill_53178_5 post o0 k0 m0 v1 v2 v3 G) : AW E X 4 5 [(0, .ref (sdX X o0 k0)), (1, .int v1), (2, .int v2), (3, .int v3)] [] G 0 0 := by
  have hP := F.P
  have K5 : ∀ (v1 v2 v3 : Int32) (G : GH), AW E X 4 5 [(0, .ref (sdX X o0 k0)), (1, .int v1), (2, .int v2), (3, .int v3)] [] G 0 0 → AW E X 4 5 [(0, .ref (sdX X o0 k0)), (1, .int v1), (2, .int v2), (3, .int v3)] [] G 0 0 := fun _ _ _ _ q => q
  refine h (fun (v1 v2 v3 : Int32) (G : GH) => AW E X 4 5 [(0, .ref (sdX X o0 k0)), (1, .int v1), (2, .int v2), (3, .int v3)] [] G 0 0) (fun (v1 v2 v3 : Int32) (G : GH) h => ?_)
  refine aw_il_n F 2 dJ7_fill_53178_5 rfl rfl ?_
  refine aw_il_n F 3 dJ7_fill_53178_6 rfl rfl ?_
  refine aw_icmp_ge (tgt := 20) F dJ7_fill_53178_7 (by decide) (fun c_2 => ?_) (fun c_2 => ?_)
  · replace h := h.1 c_2
    exact aw_vret F T (Nat.le_of_ble_eq_true rfl) (Nat.le_of_ble_eq_true rfl) ⟨rfl, h⟩ dJ7_fill_53178_20
  · replace h := h.2 c_2
    refine aw_al_n F 0 dJ7_fill_53178_10 rfl rfl ?_
    refine aw_il_n F 2 dJ7_fill_53178_11 rfl rfl ?_
    refine aw_il_n F 1 dJ7_fill_53178_12 rfl rfl ?_
    refine aw_iast F o0 k0 (lo_s hs0) (hP _ hs0) ha0 h.1 dJ7_fill_53178_13 ?_
    refine aw_nG (fun G_3 eG_3 => ?_)
    replace h := h.2 G_3 eG_3
    refine aw_inc (lv1 := [(2, .int (v2 + (1 : Int32))), (0, .ref (sdX X o0 k0)), (1, .int v1), (3, .int v3)]) F 2 dJ7_fill_53178_14 rfl (in_1 _) (by decide) rfl ?_
    refine aw_go (tgt := 5) F dJ7_fill_53178_17 (by decide) ?_
    refine aw_sub [1, 2, 0, 3] rfl ?_
    exact K5 _ _ _ _ h
set_option maxRecDepth 100000 in
set_option maxHeartbeats 4000000 in
theorem k_J7_fill_53178 {l : Launch} {E : Ev} {P : Nat → Prop} {sd : Nat → Nat → Nat} {G : GH} {post : GH → Prop} {o0 k0 m0 : Nat} {x1 : Int32} (hPP : ∀ o, stt o = true → P o) (hs0 : stt o0 = true) (ha0 : al (oc o0) k0 = some (0, m0)) (h : wp_J7_fill_53178 post o0 k0 m0 x1 G) : Ct l yJ7_fill_53178 cJ7_fill_53178 4 none 0 0 0 E P sd G [.ref (sd o0 k0), .int x1] (pV post) := by
  refine ct_of (own := "java/util/Arrays") (by decide) rfl (Nat.le_of_ble_eq_true rfl) hPP (fun X F T el eP es => ?_)
  subst el; subst eP; subst es
  have hP := F.P
  change AW E X 4 0 [(0, .ref (sdX X o0 k0)), (1, .int x1)] [] G 0 0
  refine aw_ic F dJ7_fill_53178_0 ic_0 ?_
  refine aw_is_n (lv1 := [(2, .int (0 : Int32)), (0, .ref (sdX X o0 k0)), (1, .int x1)]) F dJ7_fill_53178_1 rfl (by decide) rfl ?_
  refine aw_al_n F 1 dJ7_fill_53178_2 rfl rfl ?_
  refine aw_len F o0 k0 (by decide) (lo_s hs0) (hP _ hs0) ha0 rfl dJ7_fill_53178_3 ?_
  refine aw_top (fun y_1 ey_1 => ?_)
  replace h := h y_1 ey_1
  refine aw_is_n (lv1 := [(3, .int y_1), (2, .int (0 : Int32)), (0, .ref (sdX X o0 k0)), (1, .int x1)]) F dJ7_fill_53178_4 rfl (by decide) rfl ?_
  refine aw_sub [2, 3, 1, 0] rfl ?_
  exact kl_J7_fill_53178_5 F T hs0 ha0 h
-- X7_isDay (height 0)
def wp_X7_isDay (post : Bool → GH → Prop) (x0 : Int32) (G : GH) : Prop :=
  ((x0 < 0 → post false G) ∧ (¬ x0 < 0 → (((9999 : Int32) < x0 → post false G) ∧ (¬ (9999 : Int32) < x0 → post true G))))
set_option maxRecDepth 100000 in
set_option maxHeartbeats 4000000 in
theorem k_X7_isDay {l : Launch} {E : Ev} {P : Nat → Prop} {sd : Nat → Nat → Nat} {G : GH} {post : Bool → GH → Prop} {x0 : Int32} (hPP : ∀ o, stt o = true → P o) (h : wp_X7_isDay post x0 G) : Ct l yX7_isDay cX7_isDay 1 (some .boolean) 0 0 0 E P sd G [.int x0] (pB post) := by
  refine ct_of (own := "MarkField") (by decide) rfl (Nat.le_of_ble_eq_true rfl) hPP (fun X F T el eP es => ?_)
  subst el; subst eP; subst es
  have hP := F.P
  change AW E X 1 0 [(0, .int x0)] [] G 0 0
  refine aw_il_n F 0 dX7_isDay_0 rfl rfl ?_
  refine aw_if_lt (tgt := 15) F dX7_isDay_1 (by decide) (fun c_1 => ?_) (fun c_1 => ?_)
  · replace h := h.1 c_1
    refine aw_ic F dX7_isDay_15 ic_0 ?_
    exact aw_zret F T false rfl (Nat.le_of_ble_eq_true rfl) (Nat.le_of_ble_eq_true rfl) ⟨_, rfl, h⟩ dX7_isDay_16
  · replace h := h.2 c_1
    refine aw_il_n F 0 dX7_isDay_4 rfl rfl ?_
    refine aw_si F dX7_isDay_5 si_9999 ?_
    refine aw_icmp_gt (tgt := 15) F dX7_isDay_8 (by decide) (fun c_2 => ?_) (fun c_2 => ?_)
    · replace h := h.1 c_2
      refine aw_ic F dX7_isDay_15 ic_0 ?_
      exact aw_zret F T false rfl (Nat.le_of_ble_eq_true rfl) (Nat.le_of_ble_eq_true rfl) ⟨_, rfl, h⟩ dX7_isDay_16
    · replace h := h.2 c_2
      refine aw_ic F dX7_isDay_11 ic_1 ?_
      refine aw_go (tgt := 16) F dX7_isDay_12 (by decide) ?_
      exact aw_zret F T true rfl (Nat.le_of_ble_eq_true rfl) (Nat.le_of_ble_eq_true rfl) ⟨_, rfl, h⟩ dX7_isDay_16
-- X7_isClass (height 0)
def wp_X7_isClass (post : Bool → GH → Prop) (x0 : Int32) (G : GH) : Prop :=
  ((x0 < 0 → post false G) ∧ (¬ x0 < 0 → (((10 : Int32) ≤ x0 → post false G) ∧ (¬ (10 : Int32) ≤ x0 → post true G))))
set_option maxRecDepth 100000 in
set_option maxHeartbeats 4000000 in
theorem k_X7_isClass {l : Launch} {E : Ev} {P : Nat → Prop} {sd : Nat → Nat → Nat} {G : GH} {post : Bool → GH → Prop} {x0 : Int32} (hPP : ∀ o, stt o = true → P o) (h : wp_X7_isClass post x0 G) : Ct l yX7_isClass cX7_isClass 1 (some .boolean) 0 0 0 E P sd G [.int x0] (pB post) := by
  refine ct_of (own := "MarkField") (by decide) rfl (Nat.le_of_ble_eq_true rfl) hPP (fun X F T el eP es => ?_)
  subst el; subst eP; subst es
  have hP := F.P
  change AW E X 1 0 [(0, .int x0)] [] G 0 0
  refine aw_il_n F 0 dX7_isClass_0 rfl rfl ?_
  refine aw_if_lt (tgt := 14) F dX7_isClass_1 (by decide) (fun c_1 => ?_) (fun c_1 => ?_)
  · replace h := h.1 c_1
    refine aw_ic F dX7_isClass_14 ic_0 ?_
    exact aw_zret F T false rfl (Nat.le_of_ble_eq_true rfl) (Nat.le_of_ble_eq_true rfl) ⟨_, rfl, h⟩ dX7_isClass_15
  · replace h := h.2 c_1
    refine aw_il_n F 0 dX7_isClass_4 rfl rfl ?_
    refine aw_bi F dX7_isClass_5 bi_10 ?_
    refine aw_icmp_ge (tgt := 14) F dX7_isClass_7 (by decide) (fun c_2 => ?_) (fun c_2 => ?_)
    · replace h := h.1 c_2
      refine aw_ic F dX7_isClass_14 ic_0 ?_
      exact aw_zret F T false rfl (Nat.le_of_ble_eq_true rfl) (Nat.le_of_ble_eq_true rfl) ⟨_, rfl, h⟩ dX7_isClass_15
    · replace h := h.2 c_2
      refine aw_ic F dX7_isClass_10 ic_1 ?_
      refine aw_go (tgt := 15) F dX7_isClass_11 (by decide) ?_
      exact aw_zret F T true rfl (Nat.le_of_ble_eq_true rfl) (Nat.le_of_ble_eq_true rfl) ⟨_, rfl, h⟩ dX7_isClass_15
-- X7_isIn (height 0)
def wp_X7_isIn (post : Bool → GH → Prop) (x0 x1 : Int32) (G : GH) : Prop :=
  ((((x1 >>> (x0 &&& 31)) &&& (1 : Int32)) = 0 → post false G) ∧ (¬ ((x1 >>> (x0 &&& 31)) &&& (1 : Int32)) = 0 → post true G))
set_option maxRecDepth 100000 in
set_option maxHeartbeats 4000000 in
theorem k_X7_isIn {l : Launch} {E : Ev} {P : Nat → Prop} {sd : Nat → Nat → Nat} {G : GH} {post : Bool → GH → Prop} {x0 x1 : Int32} (hPP : ∀ o, stt o = true → P o) (h : wp_X7_isIn post x0 x1 G) : Ct l yX7_isIn cX7_isIn 2 (some .boolean) 0 0 0 E P sd G [.int x0, .int x1] (pB post) := by
  refine ct_of (own := "MarkField") (by decide) rfl (Nat.le_of_ble_eq_true rfl) hPP (fun X F T el eP es => ?_)
  subst el; subst eP; subst es
  have hP := F.P
  change AW E X 2 0 [(0, .int x0), (1, .int x1)] [] G 0 0
  refine aw_il_n F 1 dX7_isIn_0 rfl rfl ?_
  refine aw_il_n F 0 dX7_isIn_1 rfl rfl ?_
  refine aw_ishr F dX7_isIn_2 ?_
  refine aw_ic F dX7_isIn_3 ic_1 ?_
  refine aw_iand F dX7_isIn_4 ?_
  refine aw_if_eq (tgt := 12) F dX7_isIn_5 (by decide) (fun c_1 => ?_) (fun c_1 => ?_)
  · replace h := h.1 c_1
    refine aw_ic F dX7_isIn_12 ic_0 ?_
    exact aw_zret F T false rfl (Nat.le_of_ble_eq_true rfl) (Nat.le_of_ble_eq_true rfl) ⟨_, rfl, h⟩ dX7_isIn_13
  · replace h := h.2 c_1
    refine aw_ic F dX7_isIn_8 ic_1 ?_
    refine aw_go (tgt := 13) F dX7_isIn_9 (by decide) ?_
    exact aw_zret F T true rfl (Nat.le_of_ble_eq_true rfl) (Nat.le_of_ble_eq_true rfl) ⟨_, rfl, h⟩ dX7_isIn_13
-- X7_bitsIn (height 1)
def lb_X7_bitsIn_4 (post : Int32 → GH → Prop) (o0 k0 m0 : Nat) (P4 : Int32 → Int32 → Int32 → GH → Prop) (v1 v2 v3 : Int32) (G : GH) : Prop :=
  ((v1 ≤ v3 → post v2 G) ∧ (¬ v1 ≤ v3 → (vp_in v3 m0 ∧ wp_J6_bitCount_0f7a4 (fun (r_3 : Int32) (G_2 : GH) => (∀ y_4 : Int32, y_4 = (v2 + r_3) → P4 v1 y_4 (v3 + (1 : Int32)) G_2)) (G o0 k0 v3.toNatClampNeg) G)))
def lp_X7_bitsIn_4 (post : Int32 → GH → Prop) (o0 k0 m0 : Nat) (v1 v2 v3 : Int32) (G : GH) : Prop := ∀ P4 : Int32 → Int32 → Int32 → GH → Prop, (∀ (v1 v2 v3 : Int32) (G : GH), lb_X7_bitsIn_4 post o0 k0 m0 P4 v1 v2 v3 G → P4 v1 v2 v3 G) → P4 v1 v2 v3 G
def wp_X7_bitsIn (post : Int32 → GH → Prop) (o0 k0 m0 : Nat) (x1 : Int32) (G : GH) : Prop :=
  lp_X7_bitsIn_4 post o0 k0 m0 x1 (0 : Int32) (0 : Int32) G
set_option maxRecDepth 100000 in
set_option maxHeartbeats 4000000 in
theorem kl_X7_bitsIn_4 {E : Ev} {X : Cx} {post : Int32 → GH → Prop} {o0 k0 m0 : Nat} {v1 v2 v3 : Int32} {G : GH} (F : Fx E X "MarkField" cX7_bitsIn 4) (T : RT E X 1 0 0 (some .int) (pI post)) (hs0 : stt o0 = true) (ha0 : al (oc o0) k0 = some (0, m0)) (h : lp_X7_bitsIn_4 post o0 k0 m0 v1 v2 v3 G) : AW E X 4 4 [(0, .ref (sdX X o0 k0)), (1, .int v1), (2, .int v2), (3, .int v3)] [] G 0 0 := by
  have hP := F.P
  have K4 : ∀ (v1 v2 v3 : Int32) (G : GH), AW E X 4 4 [(0, .ref (sdX X o0 k0)), (1, .int v1), (2, .int v2), (3, .int v3)] [] G 0 0 → AW E X 4 4 [(0, .ref (sdX X o0 k0)), (1, .int v1), (2, .int v2), (3, .int v3)] [] G 0 0 := fun _ _ _ _ q => q
  refine h (fun (v1 v2 v3 : Int32) (G : GH) => AW E X 4 4 [(0, .ref (sdX X o0 k0)), (1, .int v1), (2, .int v2), (3, .int v3)] [] G 0 0) (fun (v1 v2 v3 : Int32) (G : GH) h => ?_)
  refine aw_il_n F 3 dX7_bitsIn_4 rfl rfl ?_
  refine aw_il_n F 1 dX7_bitsIn_5 rfl rfl ?_
  refine aw_icmp_ge (tgt := 24) F dX7_bitsIn_6 (by decide) (fun c_1 => ?_) (fun c_1 => ?_)
  · replace h := h.1 c_1
    refine aw_il_n F 2 dX7_bitsIn_24 rfl rfl ?_
    exact aw_iret F T (Nat.le_of_ble_eq_true rfl) (Nat.le_of_ble_eq_true rfl) ⟨_, rfl, h⟩ dX7_bitsIn_25
  · replace h := h.2 c_1
    refine aw_il_n F 2 dX7_bitsIn_9 rfl rfl ?_
    refine aw_al_n F 0 dX7_bitsIn_10 rfl rfl ?_
    refine aw_il_n F 3 dX7_bitsIn_11 rfl rfl ?_
    refine aw_iald F o0 k0 (lo_s hs0) (hP _ hs0) ha0 h.1 dX7_bitsIn_12 ?_
    replace h := h.2
    refine aw_cSi (stk := [.int v2]) F T.room [.int (G o0 k0 v3.toNatClampNeg)] (k_J6_bitCount_0f7a4 hP h) ms_J6_bitCount_0f7a4 w_629 rfl rfl (Nat.le_of_ble_eq_true rfl) ⟨(Nat.le_of_ble_eq_true rfl), (Nat.le_of_ble_eq_true rfl)⟩ ⟨(Nat.le_of_ble_eq_true rfl), (Nat.le_of_ble_eq_true rfl)⟩ dX7_bitsIn_13 (fun r_3 G_2 h => ?_)
    refine aw_iadd F dX7_bitsIn_16 ?_
    refine aw_top (fun y_4 ey_4 => ?_)
    replace h := h y_4 ey_4
    refine aw_is_n (lv1 := [(2, .int y_4), (0, .ref (sdX X o0 k0)), (1, .int v1), (3, .int v3)]) F dX7_bitsIn_17 rfl (by decide) rfl ?_
    refine aw_inc (lv1 := [(3, .int (v3 + (1 : Int32))), (2, .int y_4), (0, .ref (sdX X o0 k0)), (1, .int v1)]) F 3 dX7_bitsIn_18 rfl (in_1 _) (by decide) rfl ?_
    refine aw_go (tgt := 4) F dX7_bitsIn_21 (by decide) ?_
    refine aw_sub [2, 3, 1, 0] rfl ?_
    exact K4 _ _ _ _ h
set_option maxRecDepth 100000 in
set_option maxHeartbeats 4000000 in
theorem k_X7_bitsIn {l : Launch} {E : Ev} {P : Nat → Prop} {sd : Nat → Nat → Nat} {G : GH} {post : Int32 → GH → Prop} {o0 k0 m0 : Nat} {x1 : Int32} (hPP : ∀ o, stt o = true → P o) (hs0 : stt o0 = true) (ha0 : al (oc o0) k0 = some (0, m0)) (h : wp_X7_bitsIn post o0 k0 m0 x1 G) : Ct l yX7_bitsIn cX7_bitsIn 4 (some .int) 1 0 0 E P sd G [.ref (sd o0 k0), .int x1] (pI post) := by
  refine ct_of (own := "MarkField") (by decide) rfl (Nat.le_of_ble_eq_true rfl) hPP (fun X F T el eP es => ?_)
  subst el; subst eP; subst es
  have hP := F.P
  change AW E X 4 0 [(0, .ref (sdX X o0 k0)), (1, .int x1)] [] G 0 0
  refine aw_ic F dX7_bitsIn_0 ic_0 ?_
  refine aw_is_n (lv1 := [(2, .int (0 : Int32)), (0, .ref (sdX X o0 k0)), (1, .int x1)]) F dX7_bitsIn_1 rfl (by decide) rfl ?_
  refine aw_ic F dX7_bitsIn_2 ic_0 ?_
  refine aw_is_n (lv1 := [(3, .int (0 : Int32)), (2, .int (0 : Int32)), (0, .ref (sdX X o0 k0)), (1, .int x1)]) F dX7_bitsIn_3 rfl (by decide) rfl ?_
  refine aw_sub [2, 3, 1, 0] rfl ?_
  exact kl_X7_bitsIn_4 F T hs0 ha0 h
-- X7_setCouple (height 1)
def wp_X7_setCouple (post : Bool → GH → Prop) (o0 k0 m0 : Nat) (x1 x2 x3 : Int32) (G : GH) : Prop :=
  (vp_in x1 m0 ∧ wp_X7_isIn (fun (b_2 : Bool) (G_1 : GH) => ((x3 = 0 → (vp_in x1 m0 ∧ (vp_in x1 m0 ∧ (∀ G_4 : GH, G_4 = gs G_1 o0 k0 (upd (G_1 o0 k0) x1.toNatClampNeg ((G_1 o0 k0 x1.toNatClampNeg) &&& (((1 : Int32) <<< (x2 &&& 31)) ^^^ (-1 : Int32)))) → (vp_in x2 m0 ∧ (vp_in x2 m0 ∧ (∀ G_5 : GH, G_5 = gs G_4 o0 k0 (upd (G_4 o0 k0) x2.toNatClampNeg ((G_4 o0 k0 x2.toNatClampNeg) &&& (((1 : Int32) <<< (x1 &&& 31)) ^^^ (-1 : Int32)))) → post b_2 G_5))))))) ∧ (¬ x3 = 0 → (vp_in x1 m0 ∧ (vp_in x1 m0 ∧ (∀ G_6 : GH, G_6 = gs G_1 o0 k0 (upd (G_1 o0 k0) x1.toNatClampNeg ((G_1 o0 k0 x1.toNatClampNeg) ||| ((1 : Int32) <<< (x2 &&& 31)))) → (vp_in x2 m0 ∧ (vp_in x2 m0 ∧ (∀ G_7 : GH, G_7 = gs G_6 o0 k0 (upd (G_6 o0 k0) x2.toNatClampNeg ((G_6 o0 k0 x2.toNatClampNeg) ||| ((1 : Int32) <<< (x1 &&& 31)))) → post b_2 G_7))))))))) x2 (G o0 k0 x1.toNatClampNeg) G)
set_option maxRecDepth 100000 in
set_option maxHeartbeats 4000000 in
theorem k_X7_setCouple {l : Launch} {E : Ev} {P : Nat → Prop} {sd : Nat → Nat → Nat} {G : GH} {post : Bool → GH → Prop} {o0 k0 m0 : Nat} {x1 x2 x3 : Int32} (hPP : ∀ o, stt o = true → P o) (hs0 : stt o0 = true) (ha0 : al (oc o0) k0 = some (0, m0)) (h : wp_X7_setCouple post o0 k0 m0 x1 x2 x3 G) : Ct l yX7_setCouple cX7_setCouple 5 (some .boolean) 1 0 0 E P sd G [.ref (sd o0 k0), .int x1, .int x2, .int x3] (pB post) := by
  refine ct_of (own := "MarkField") (by decide) rfl (Nat.le_of_ble_eq_true rfl) hPP (fun X F T el eP es => ?_)
  subst el; subst eP; subst es
  have hP := F.P
  change AW E X 5 0 [(0, .ref (sdX X o0 k0)), (1, .int x1), (2, .int x2), (3, .int x3)] [] G 0 0
  refine aw_il_n F 2 dX7_setCouple_0 rfl rfl ?_
  refine aw_al_n F 0 dX7_setCouple_1 rfl rfl ?_
  refine aw_il_n F 1 dX7_setCouple_2 rfl rfl ?_
  refine aw_iald F o0 k0 (lo_s hs0) (hP _ hs0) ha0 h.1 dX7_setCouple_3 ?_
  replace h := h.2
  refine aw_cSb (stk := []) F T.room [.int x2, .int (G o0 k0 x1.toNatClampNeg)] (k_X7_isIn hP h) ms_X7_isIn w_603 rfl rfl (Nat.le_of_ble_eq_true rfl) ⟨(Nat.le_of_ble_eq_true rfl), (Nat.le_of_ble_eq_true rfl)⟩ ⟨(Nat.le_of_ble_eq_true rfl), (Nat.le_of_ble_eq_true rfl)⟩ dX7_setCouple_4 (fun b_2 G_1 h => ?_)
  refine aw_is (lv1 := [(4, .int (bI b_2)), (0, .ref (sdX X o0 k0)), (1, .int x1), (2, .int x2), (3, .int x3)]) F dX7_setCouple_7 (by decide) rfl ?_
  refine aw_il_n F 4 dX7_setCouple_9 rfl rfl ?_
  refine aw_if_eq (tgt := 34) F dX7_setCouple_10 (by decide) (fun c_3 => ?_) (fun c_3 => ?_)
  · replace h := h.1 c_3
    refine aw_al_n F 1 dX7_setCouple_34 rfl rfl ?_
    refine aw_il_n F 2 dX7_setCouple_35 rfl rfl ?_
    refine aw_dup2 F dX7_setCouple_36 rfl rfl ?_
    refine aw_iald F o0 k0 (lo_s hs0) (hP _ hs0) ha0 h.1 dX7_setCouple_37 ?_
    replace h := h.2
    refine aw_ic F dX7_setCouple_38 ic_1 ?_
    refine aw_il_n F 3 dX7_setCouple_39 rfl rfl ?_
    refine aw_ishl F dX7_setCouple_40 ?_
    refine aw_ic F dX7_setCouple_41 ic_m1 ?_
    refine aw_ixor F dX7_setCouple_42 ?_
    refine aw_iand F dX7_setCouple_43 ?_
    refine aw_iast F o0 k0 (lo_s hs0) (hP _ hs0) ha0 h.1 dX7_setCouple_44 ?_
    refine aw_nG (fun G_4 eG_4 => ?_)
    replace h := h.2 G_4 eG_4
    refine aw_al_n F 1 dX7_setCouple_45 rfl rfl ?_
    refine aw_il_n F 3 dX7_setCouple_46 rfl rfl ?_
    refine aw_dup2 F dX7_setCouple_47 rfl rfl ?_
    refine aw_iald F o0 k0 (lo_s hs0) (hP _ hs0) ha0 h.1 dX7_setCouple_48 ?_
    replace h := h.2
    refine aw_ic F dX7_setCouple_49 ic_1 ?_
    refine aw_il_n F 2 dX7_setCouple_50 rfl rfl ?_
    refine aw_ishl F dX7_setCouple_51 ?_
    refine aw_ic F dX7_setCouple_52 ic_m1 ?_
    refine aw_ixor F dX7_setCouple_53 ?_
    refine aw_iand F dX7_setCouple_54 ?_
    refine aw_iast F o0 k0 (lo_s hs0) (hP _ hs0) ha0 h.1 dX7_setCouple_55 ?_
    refine aw_nG (fun G_5 eG_5 => ?_)
    replace h := h.2 G_5 eG_5
    refine aw_il F 0 dX7_setCouple_56 rfl ?_
    exact aw_zret F T b_2 rfl (Nat.le_of_ble_eq_true rfl) (Nat.le_of_ble_eq_true rfl) ⟨_, rfl, h⟩ dX7_setCouple_58
  · replace h := h.2 c_3
    refine aw_al_n F 1 dX7_setCouple_13 rfl rfl ?_
    refine aw_il_n F 2 dX7_setCouple_14 rfl rfl ?_
    refine aw_dup2 F dX7_setCouple_15 rfl rfl ?_
    refine aw_iald F o0 k0 (lo_s hs0) (hP _ hs0) ha0 h.1 dX7_setCouple_16 ?_
    replace h := h.2
    refine aw_ic F dX7_setCouple_17 ic_1 ?_
    refine aw_il_n F 3 dX7_setCouple_18 rfl rfl ?_
    refine aw_ishl F dX7_setCouple_19 ?_
    refine aw_ior F dX7_setCouple_20 ?_
    refine aw_iast F o0 k0 (lo_s hs0) (hP _ hs0) ha0 h.1 dX7_setCouple_21 ?_
    refine aw_nG (fun G_6 eG_6 => ?_)
    replace h := h.2 G_6 eG_6
    refine aw_al_n F 1 dX7_setCouple_22 rfl rfl ?_
    refine aw_il_n F 3 dX7_setCouple_23 rfl rfl ?_
    refine aw_dup2 F dX7_setCouple_24 rfl rfl ?_
    refine aw_iald F o0 k0 (lo_s hs0) (hP _ hs0) ha0 h.1 dX7_setCouple_25 ?_
    replace h := h.2
    refine aw_ic F dX7_setCouple_26 ic_1 ?_
    refine aw_il_n F 2 dX7_setCouple_27 rfl rfl ?_
    refine aw_ishl F dX7_setCouple_28 ?_
    refine aw_ior F dX7_setCouple_29 ?_
    refine aw_iast F o0 k0 (lo_s hs0) (hP _ hs0) ha0 h.1 dX7_setCouple_30 ?_
    refine aw_nG (fun G_7 eG_7 => ?_)
    replace h := h.2 G_7 eG_7
    refine aw_go (tgt := 56) F dX7_setCouple_31 (by decide) ?_
    refine aw_il F 0 dX7_setCouple_56 rfl ?_
    exact aw_zret F T b_2 rfl (Nat.le_of_ble_eq_true rfl) (Nat.le_of_ble_eq_true rfl) ⟨_, rfl, h⟩ dX7_setCouple_58
-- X4_clear (height 1)
def wp_X4_clear (post : GH → Prop) (o : Nat) (G : GH) : Prop :=
  (∀ G_1 : GH, G_1 = gs G o 0 (upd (G o 0) 0 (1 : Int32)) → (∀ G_2 : GH, G_2 = gs G_1 o 0 (upd (G_1 o 0) 1 (0 : Int32)) → wp_J7_fill_53178 (fun (G_3 : GH) => ((¬ (0 : Int32) < 0 ∧ ¬ (0 : Int32) < 0 ∧ ¬ (6 : Int32) < 0 ∧ (0 : Int32).toNatClampNeg + (6 : Int32).toNatClampNeg ≤ (sTb 0).length ∧ (0 : Int32).toNatClampNeg + (6 : Int32).toNatClampNeg ≤ 6) ∧ (∀ G_5 : GH, G_5 = gs G_3 o 11 (va_cpy (fun j => (sTb 0).getD j 0) (G_3 o 11) (0 : Int32).toNatClampNeg (0 : Int32).toNatClampNeg (6 : Int32).toNatClampNeg) → post G_5))) o 10 10 (0 : Int32) G_2))
set_option maxRecDepth 100000 in
set_option maxHeartbeats 4000000 in
theorem k_X4_clear {l : Launch} {E : Ev} {P : Nat → Prop} {sd : Nat → Nat → Nat} {G : GH} {post : GH → Prop} {o : Nat} (hPP : ∀ o, stt o = true → P o) (ho : stt o = true) (hc : oc o = 4) (h : wp_X4_clear post o G) : Ct l yX4_clear cX4_clear 1 none 1 0 0 E P sd G [.ref (sd o 0)] (pV post) := by
  refine ct_of (own := "MarkField$Register") (by decide) rfl (Nat.le_of_ble_eq_true rfl) hPP (fun X F T el eP es => ?_)
  subst el; subst eP; subst es
  have hP := F.P
  change AW E X 1 0 [(0, .ref (sdX X o 0))] [] G 0 0
  refine aw_al_n F 0 dX4_clear_0 rfl rfl ?_
  refine aw_ic F dX4_clear_1 ic_1 ?_
  refine pf4_0 F (lo_s ho) (hP _ ho) hc w_80 dX4_clear_2 (fun G_1 eG_1 => ?_)
  replace h := h G_1 eG_1
  refine aw_al_n F 0 dX4_clear_5 rfl rfl ?_
  refine aw_ic F dX4_clear_6 ic_0 ?_
  refine pf4_1 F (lo_s ho) (hP _ ho) hc w_83 dX4_clear_7 (fun G_2 eG_2 => ?_)
  replace h := h G_2 eG_2
  refine aw_al_n F 0 dX4_clear_10 rfl rfl ?_
  refine gr4_9 F (lo_s ho) (hP _ ho) hc w_114 (hP _ ho) dX4_clear_11 ?_
  refine aw_ic F dX4_clear_14 ic_0 ?_
  refine aw_cSv (stk := []) F T.room [.ref (sdX X o 10), .int (0 : Int32)] (k_J7_fill_53178 hP ho (al_of hc rfl) h) ms_J7_fill_53178 w_457 rfl rfl (Nat.le_of_ble_eq_true rfl) ⟨(Nat.le_of_ble_eq_true rfl), (Nat.le_of_ble_eq_true rfl)⟩ ⟨(Nat.le_of_ble_eq_true rfl), (Nat.le_of_ble_eq_true rfl)⟩ dX4_clear_15 (fun G_3 h => ?_)
  refine aw_gstN F 0 (by decide) (by decide) dX4_clear_18 ?_
  refine aw_ic F dX4_clear_21 ic_0 ?_
  refine aw_al_n F 0 dX4_clear_22 rfl rfl ?_
  refine gr4_10 F (lo_s ho) (hP _ ho) hc w_117 (hP _ ho) dX4_clear_23 ?_
  refine aw_ic F dX4_clear_26 ic_0 ?_
  refine aw_bi F dX4_clear_27 bi_6 ?_
  refine aw_cpyT F 0 (by decide) o 11 (lo_s ho) (hP _ ho) (al_of hc rfl) w_77 w_79 w_78 w_4 h.1.1 h.1.2.1 h.1.2.2.1 h.1.2.2.2.1 h.1.2.2.2.2 (by rw [T.room]; exact (Nat.le_of_ble_eq_true rfl)) (by rw [T.room]; exact (Nat.le_of_ble_eq_true rfl)) dX4_clear_29 ?_
  refine aw_nG (fun G_5 eG_5 => ?_)
  replace h := h.2 G_5 eG_5
  exact aw_vret F T (Nat.le_of_ble_eq_true rfl) (Nat.le_of_ble_eq_true rfl) ⟨rfl, h⟩ dX4_clear_32
-- X4_copy (height 1)
def wp_X4_copy (post : GH → Prop) (o : Nat) (o1 : Nat) (G : GH) : Prop :=
  (∀ G_1 : GH, G_1 = gs G o 0 (upd (G o 0) 0 (G o1 0 0)) → (∀ G_2 : GH, G_2 = gs G_1 o 0 (upd (G_1 o 0) 1 (G_1 o1 0 1)) → ((¬ (0 : Int32) < 0 ∧ ¬ (0 : Int32) < 0 ∧ ¬ (G_2 o 0 1) < 0 ∧ (0 : Int32).toNatClampNeg + (G_2 o 0 1).toNatClampNeg ≤ 13 ∧ (0 : Int32).toNatClampNeg + (G_2 o 0 1).toNatClampNeg ≤ 13) ∧ (∀ G_3 : GH, G_3 = gs G_2 o 3 (va_cpy (G_2 o1 3) (G_2 o 3) (0 : Int32).toNatClampNeg (0 : Int32).toNatClampNeg (G_2 o 0 1).toNatClampNeg) → ((¬ (0 : Int32) < 0 ∧ ¬ (0 : Int32) < 0 ∧ ¬ (G_3 o 0 1) < 0 ∧ (0 : Int32).toNatClampNeg + (G_3 o 0 1).toNatClampNeg ≤ 13 ∧ (0 : Int32).toNatClampNeg + (G_3 o 0 1).toNatClampNeg ≤ 13) ∧ (∀ G_4 : GH, G_4 = gs G_3 o 4 (va_cpy (G_3 o1 4) (G_3 o 4) (0 : Int32).toNatClampNeg (0 : Int32).toNatClampNeg (G_3 o 0 1).toNatClampNeg) → ((¬ (0 : Int32) < 0 ∧ ¬ (0 : Int32) < 0 ∧ ¬ (G_4 o 0 1) < 0 ∧ (0 : Int32).toNatClampNeg + (G_4 o 0 1).toNatClampNeg ≤ 13 ∧ (0 : Int32).toNatClampNeg + (G_4 o 0 1).toNatClampNeg ≤ 13) ∧ (∀ G_5 : GH, G_5 = gs G_4 o 5 (va_cpy (G_4 o1 5) (G_4 o 5) (0 : Int32).toNatClampNeg (0 : Int32).toNatClampNeg (G_4 o 0 1).toNatClampNeg) → ((¬ (0 : Int32) < 0 ∧ ¬ (0 : Int32) < 0 ∧ ¬ ((G_5 o 0 1) * (10 : Int32)) < 0 ∧ (0 : Int32).toNatClampNeg + ((G_5 o 0 1) * (10 : Int32)).toNatClampNeg ≤ 130 ∧ (0 : Int32).toNatClampNeg + ((G_5 o 0 1) * (10 : Int32)).toNatClampNeg ≤ 130) ∧ (∀ G_6 : GH, G_6 = gs G_5 o 6 (va_cpy (G_5 o1 6) (G_5 o 6) (0 : Int32).toNatClampNeg (0 : Int32).toNatClampNeg ((G_5 o 0 1) * (10 : Int32)).toNatClampNeg) → ((¬ (0 : Int32) < 0 ∧ ¬ (0 : Int32) < 0 ∧ ¬ (G_6 o 0 1) < 0 ∧ (0 : Int32).toNatClampNeg + (G_6 o 0 1).toNatClampNeg ≤ 13 ∧ (0 : Int32).toNatClampNeg + (G_6 o 0 1).toNatClampNeg ≤ 13) ∧ (∀ G_7 : GH, G_7 = gs G_6 o 7 (va_cpy (G_6 o1 7) (G_6 o 7) (0 : Int32).toNatClampNeg (0 : Int32).toNatClampNeg (G_6 o 0 1).toNatClampNeg) → ((¬ (0 : Int32) < 0 ∧ ¬ (0 : Int32) < 0 ∧ ¬ ((G_7 o 0 1) * (36 : Int32)) < 0 ∧ (0 : Int32).toNatClampNeg + ((G_7 o 0 1) * (36 : Int32)).toNatClampNeg ≤ 468 ∧ (0 : Int32).toNatClampNeg + ((G_7 o 0 1) * (36 : Int32)).toNatClampNeg ≤ 468) ∧ (∀ G_8 : GH, G_8 = gs G_7 o 8 (va_cpy (G_7 o1 8) (G_7 o 8) (0 : Int32).toNatClampNeg (0 : Int32).toNatClampNeg ((G_7 o 0 1) * (36 : Int32)).toNatClampNeg) → ((¬ (0 : Int32) < 0 ∧ ¬ (0 : Int32) < 0 ∧ ¬ (G_8 o 0 1) < 0 ∧ (0 : Int32).toNatClampNeg + (G_8 o 0 1).toNatClampNeg ≤ 13 ∧ (0 : Int32).toNatClampNeg + (G_8 o 0 1).toNatClampNeg ≤ 13) ∧ (∀ G_9 : GH, G_9 = gs G_8 o 9 (va_cpy (G_8 o1 9) (G_8 o 9) (0 : Int32).toNatClampNeg (0 : Int32).toNatClampNeg (G_8 o 0 1).toNatClampNeg) → ((¬ (0 : Int32) < 0 ∧ ¬ (0 : Int32) < 0 ∧ ¬ (10 : Int32) < 0 ∧ (0 : Int32).toNatClampNeg + (10 : Int32).toNatClampNeg ≤ 10 ∧ (0 : Int32).toNatClampNeg + (10 : Int32).toNatClampNeg ≤ 10) ∧ (∀ G_10 : GH, G_10 = gs G_9 o 10 (va_cpy (G_9 o1 10) (G_9 o 10) (0 : Int32).toNatClampNeg (0 : Int32).toNatClampNeg (10 : Int32).toNatClampNeg) → ((¬ (0 : Int32) < 0 ∧ ¬ (0 : Int32) < 0 ∧ ¬ (6 : Int32) < 0 ∧ (0 : Int32).toNatClampNeg + (6 : Int32).toNatClampNeg ≤ 6 ∧ (0 : Int32).toNatClampNeg + (6 : Int32).toNatClampNeg ≤ 6) ∧ (∀ G_11 : GH, G_11 = gs G_10 o 11 (va_cpy (G_10 o1 11) (G_10 o 11) (0 : Int32).toNatClampNeg (0 : Int32).toNatClampNeg (6 : Int32).toNatClampNeg) → post G_11))))))))))))))))))))
set_option maxRecDepth 100000 in
set_option maxHeartbeats 4000000 in
theorem k_X4_copy {l : Launch} {E : Ev} {P : Nat → Prop} {sd : Nat → Nat → Nat} {G : GH} {post : GH → Prop} {o : Nat} {o1 : Nat} (hPP : ∀ o, stt o = true → P o) (pP : P o) (lo_o : lo G o) (hc : oc o = 4) (pP1 : P o1) (lo_o1 : lo G o1) (hc1 : oc o1 = 4) (h : wp_X4_copy post o o1 G) : Ct l yX4_copy cX4_copy 2 none 1 0 0 E P sd G [.ref (sd o 0), .ref (sd o1 0)] (pV post) := by
  refine ct_of (own := "MarkField$Register") (by decide) rfl (Nat.le_of_ble_eq_true rfl) hPP (fun X F T el eP es => ?_)
  subst el; subst eP; subst es
  have hP := F.P
  change AW E X 2 0 [(0, .ref (sdX X o 0)), (1, .ref (sdX X o1 0))] [] G 0 0
  refine aw_al_n F 0 dX4_copy_0 rfl rfl ?_
  refine aw_al_n F 1 dX4_copy_1 rfl rfl ?_
  refine gf4_0 F lo_o1 pP1 hc1 w_80 dX4_copy_2 ?_
  refine pf4_0 F lo_o pP hc w_80 dX4_copy_5 (fun G_1 eG_1 => ?_)
  replace h := h G_1 eG_1
  have lo_o := (show lo G_1 _ by rw [eG_1]; exact lo_gs4 hc lo_o)
  have lo_o1 := (show lo G_1 _ by rw [eG_1]; exact lo_gs4 hc lo_o1)
  refine aw_al_n F 0 dX4_copy_8 rfl rfl ?_
  refine aw_al_n F 1 dX4_copy_9 rfl rfl ?_
  refine gf4_1 F lo_o1 pP1 hc1 w_83 dX4_copy_10 ?_
  refine pf4_1 F lo_o pP hc w_83 dX4_copy_13 (fun G_2 eG_2 => ?_)
  replace h := h G_2 eG_2
  have lo_o := (show lo G_2 _ by rw [eG_2]; exact lo_gs4 hc lo_o)
  have lo_o1 := (show lo G_2 _ by rw [eG_2]; exact lo_gs4 hc lo_o1)
  refine aw_al_n F 1 dX4_copy_16 rfl rfl ?_
  refine gr4_2 F lo_o1 pP1 hc1 w_89 pP1 dX4_copy_17 ?_
  refine aw_ic F dX4_copy_20 ic_0 ?_
  refine aw_al_n F 0 dX4_copy_21 rfl rfl ?_
  refine gr4_2 F lo_o pP hc w_89 pP dX4_copy_22 ?_
  refine aw_ic F dX4_copy_25 ic_0 ?_
  refine aw_al_n F 0 dX4_copy_26 rfl rfl ?_
  refine gf4_1 F lo_o pP hc w_83 dX4_copy_27 ?_
  refine aw_cpy F o1 3 o 3 (by decide) lo_o1 pP1 (al_of hc1 rfl) lo_o pP (al_of hc rfl) w_77 w_79 w_78 w_4 h.1.1 h.1.2.1 h.1.2.2.1 h.1.2.2.2.1 h.1.2.2.2.2 (by rw [T.room]; exact (Nat.le_of_ble_eq_true rfl)) (by rw [T.room]; exact (Nat.le_of_ble_eq_true rfl)) dX4_copy_30 ?_
  refine aw_nG (fun G_3 eG_3 => ?_)
  replace h := h.2 G_3 eG_3
  have lo_o := (show lo G_3 _ by rw [eG_3]; exact lo_gs4 hc lo_o)
  have lo_o1 := (show lo G_3 _ by rw [eG_3]; exact lo_gs4 hc lo_o1)
  refine aw_al_n F 1 dX4_copy_33 rfl rfl ?_
  refine gr4_3 F lo_o1 pP1 hc1 w_92 pP1 dX4_copy_34 ?_
  refine aw_ic F dX4_copy_37 ic_0 ?_
  refine aw_al_n F 0 dX4_copy_38 rfl rfl ?_
  refine gr4_3 F lo_o pP hc w_92 pP dX4_copy_39 ?_
  refine aw_ic F dX4_copy_42 ic_0 ?_
  refine aw_al_n F 0 dX4_copy_43 rfl rfl ?_
  refine gf4_1 F lo_o pP hc w_83 dX4_copy_44 ?_
  refine aw_cpy F o1 4 o 4 (by decide) lo_o1 pP1 (al_of hc1 rfl) lo_o pP (al_of hc rfl) w_77 w_79 w_78 w_4 h.1.1 h.1.2.1 h.1.2.2.1 h.1.2.2.2.1 h.1.2.2.2.2 (by rw [T.room]; exact (Nat.le_of_ble_eq_true rfl)) (by rw [T.room]; exact (Nat.le_of_ble_eq_true rfl)) dX4_copy_47 ?_
  refine aw_nG (fun G_4 eG_4 => ?_)
  replace h := h.2 G_4 eG_4
  have lo_o := (show lo G_4 _ by rw [eG_4]; exact lo_gs4 hc lo_o)
  have lo_o1 := (show lo G_4 _ by rw [eG_4]; exact lo_gs4 hc lo_o1)
  refine aw_al_n F 1 dX4_copy_50 rfl rfl ?_
  refine gr4_4 F lo_o1 pP1 hc1 w_97 pP1 dX4_copy_51 ?_
  refine aw_ic F dX4_copy_54 ic_0 ?_
  refine aw_al_n F 0 dX4_copy_55 rfl rfl ?_
  refine gr4_4 F lo_o pP hc w_97 pP dX4_copy_56 ?_
  refine aw_ic F dX4_copy_59 ic_0 ?_
  refine aw_al_n F 0 dX4_copy_60 rfl rfl ?_
  refine gf4_1 F lo_o pP hc w_83 dX4_copy_61 ?_
  refine aw_cpy F o1 5 o 5 (by decide) lo_o1 pP1 (al_of hc1 rfl) lo_o pP (al_of hc rfl) w_77 w_79 w_78 w_4 h.1.1 h.1.2.1 h.1.2.2.1 h.1.2.2.2.1 h.1.2.2.2.2 (by rw [T.room]; exact (Nat.le_of_ble_eq_true rfl)) (by rw [T.room]; exact (Nat.le_of_ble_eq_true rfl)) dX4_copy_64 ?_
  refine aw_nG (fun G_5 eG_5 => ?_)
  replace h := h.2 G_5 eG_5
  have lo_o := (show lo G_5 _ by rw [eG_5]; exact lo_gs4 hc lo_o)
  have lo_o1 := (show lo G_5 _ by rw [eG_5]; exact lo_gs4 hc lo_o1)
  refine aw_al_n F 1 dX4_copy_67 rfl rfl ?_
  refine gr4_5 F lo_o1 pP1 hc1 w_101 pP1 dX4_copy_68 ?_
  refine aw_ic F dX4_copy_71 ic_0 ?_
  refine aw_al_n F 0 dX4_copy_72 rfl rfl ?_
  refine gr4_5 F lo_o pP hc w_101 pP dX4_copy_73 ?_
  refine aw_ic F dX4_copy_76 ic_0 ?_
  refine aw_al_n F 0 dX4_copy_77 rfl rfl ?_
  refine gf4_1 F lo_o pP hc w_83 dX4_copy_78 ?_
  refine aw_bi F dX4_copy_81 bi_10 ?_
  refine aw_imul F dX4_copy_83 ?_
  refine aw_cpy F o1 6 o 6 (by decide) lo_o1 pP1 (al_of hc1 rfl) lo_o pP (al_of hc rfl) w_77 w_79 w_78 w_4 h.1.1 h.1.2.1 h.1.2.2.1 h.1.2.2.2.1 h.1.2.2.2.2 (by rw [T.room]; exact (Nat.le_of_ble_eq_true rfl)) (by rw [T.room]; exact (Nat.le_of_ble_eq_true rfl)) dX4_copy_84 ?_
  refine aw_nG (fun G_6 eG_6 => ?_)
  replace h := h.2 G_6 eG_6
  have lo_o := (show lo G_6 _ by rw [eG_6]; exact lo_gs4 hc lo_o)
  have lo_o1 := (show lo G_6 _ by rw [eG_6]; exact lo_gs4 hc lo_o1)
  refine aw_al_n F 1 dX4_copy_87 rfl rfl ?_
  refine gr4_6 F lo_o1 pP1 hc1 w_104 pP1 dX4_copy_88 ?_
  refine aw_ic F dX4_copy_91 ic_0 ?_
  refine aw_al_n F 0 dX4_copy_92 rfl rfl ?_
  refine gr4_6 F lo_o pP hc w_104 pP dX4_copy_93 ?_
  refine aw_ic F dX4_copy_96 ic_0 ?_
  refine aw_al_n F 0 dX4_copy_97 rfl rfl ?_
  refine gf4_1 F lo_o pP hc w_83 dX4_copy_98 ?_
  refine aw_cpy F o1 7 o 7 (by decide) lo_o1 pP1 (al_of hc1 rfl) lo_o pP (al_of hc rfl) w_77 w_79 w_78 w_4 h.1.1 h.1.2.1 h.1.2.2.1 h.1.2.2.2.1 h.1.2.2.2.2 (by rw [T.room]; exact (Nat.le_of_ble_eq_true rfl)) (by rw [T.room]; exact (Nat.le_of_ble_eq_true rfl)) dX4_copy_101 ?_
  refine aw_nG (fun G_7 eG_7 => ?_)
  replace h := h.2 G_7 eG_7
  have lo_o := (show lo G_7 _ by rw [eG_7]; exact lo_gs4 hc lo_o)
  have lo_o1 := (show lo G_7 _ by rw [eG_7]; exact lo_gs4 hc lo_o1)
  refine aw_al_n F 1 dX4_copy_104 rfl rfl ?_
  refine gr4_7 F lo_o1 pP1 hc1 w_108 pP1 dX4_copy_105 ?_
  refine aw_ic F dX4_copy_108 ic_0 ?_
  refine aw_al_n F 0 dX4_copy_109 rfl rfl ?_
  refine gr4_7 F lo_o pP hc w_108 pP dX4_copy_110 ?_
  refine aw_ic F dX4_copy_113 ic_0 ?_
  refine aw_al_n F 0 dX4_copy_114 rfl rfl ?_
  refine gf4_1 F lo_o pP hc w_83 dX4_copy_115 ?_
  refine aw_bi F dX4_copy_118 bi_36 ?_
  refine aw_imul F dX4_copy_120 ?_
  refine aw_cpy F o1 8 o 8 (by decide) lo_o1 pP1 (al_of hc1 rfl) lo_o pP (al_of hc rfl) w_77 w_79 w_78 w_4 h.1.1 h.1.2.1 h.1.2.2.1 h.1.2.2.2.1 h.1.2.2.2.2 (by rw [T.room]; exact (Nat.le_of_ble_eq_true rfl)) (by rw [T.room]; exact (Nat.le_of_ble_eq_true rfl)) dX4_copy_121 ?_
  refine aw_nG (fun G_8 eG_8 => ?_)
  replace h := h.2 G_8 eG_8
  have lo_o := (show lo G_8 _ by rw [eG_8]; exact lo_gs4 hc lo_o)
  have lo_o1 := (show lo G_8 _ by rw [eG_8]; exact lo_gs4 hc lo_o1)
  refine aw_al_n F 1 dX4_copy_124 rfl rfl ?_
  refine gr4_8 F lo_o1 pP1 hc1 w_110 pP1 dX4_copy_125 ?_
  refine aw_ic F dX4_copy_128 ic_0 ?_
  refine aw_al_n F 0 dX4_copy_129 rfl rfl ?_
  refine gr4_8 F lo_o pP hc w_110 pP dX4_copy_130 ?_
  refine aw_ic F dX4_copy_133 ic_0 ?_
  refine aw_al_n F 0 dX4_copy_134 rfl rfl ?_
  refine gf4_1 F lo_o pP hc w_83 dX4_copy_135 ?_
  refine aw_cpy F o1 9 o 9 (by decide) lo_o1 pP1 (al_of hc1 rfl) lo_o pP (al_of hc rfl) w_77 w_79 w_78 w_4 h.1.1 h.1.2.1 h.1.2.2.1 h.1.2.2.2.1 h.1.2.2.2.2 (by rw [T.room]; exact (Nat.le_of_ble_eq_true rfl)) (by rw [T.room]; exact (Nat.le_of_ble_eq_true rfl)) dX4_copy_138 ?_
  refine aw_nG (fun G_9 eG_9 => ?_)
  replace h := h.2 G_9 eG_9
  have lo_o := (show lo G_9 _ by rw [eG_9]; exact lo_gs4 hc lo_o)
  have lo_o1 := (show lo G_9 _ by rw [eG_9]; exact lo_gs4 hc lo_o1)
  refine aw_al_n F 1 dX4_copy_141 rfl rfl ?_
  refine gr4_9 F lo_o1 pP1 hc1 w_114 pP1 dX4_copy_142 ?_
  refine aw_ic F dX4_copy_145 ic_0 ?_
  refine aw_al_n F 0 dX4_copy_146 rfl rfl ?_
  refine gr4_9 F lo_o pP hc w_114 pP dX4_copy_147 ?_
  refine aw_ic F dX4_copy_150 ic_0 ?_
  refine aw_bi F dX4_copy_151 bi_10 ?_
  refine aw_cpy F o1 10 o 10 (by decide) lo_o1 pP1 (al_of hc1 rfl) lo_o pP (al_of hc rfl) w_77 w_79 w_78 w_4 h.1.1 h.1.2.1 h.1.2.2.1 h.1.2.2.2.1 h.1.2.2.2.2 (by rw [T.room]; exact (Nat.le_of_ble_eq_true rfl)) (by rw [T.room]; exact (Nat.le_of_ble_eq_true rfl)) dX4_copy_153 ?_
  refine aw_nG (fun G_10 eG_10 => ?_)
  replace h := h.2 G_10 eG_10
  have lo_o := (show lo G_10 _ by rw [eG_10]; exact lo_gs4 hc lo_o)
  have lo_o1 := (show lo G_10 _ by rw [eG_10]; exact lo_gs4 hc lo_o1)
  refine aw_al_n F 1 dX4_copy_156 rfl rfl ?_
  refine gr4_10 F lo_o1 pP1 hc1 w_117 pP1 dX4_copy_157 ?_
  refine aw_ic F dX4_copy_160 ic_0 ?_
  refine aw_al_n F 0 dX4_copy_161 rfl rfl ?_
  refine gr4_10 F lo_o pP hc w_117 pP dX4_copy_162 ?_
  refine aw_ic F dX4_copy_165 ic_0 ?_
  refine aw_bi F dX4_copy_166 bi_6 ?_
  refine aw_cpy F o1 11 o 11 (by decide) lo_o1 pP1 (al_of hc1 rfl) lo_o pP (al_of hc rfl) w_77 w_79 w_78 w_4 h.1.1 h.1.2.1 h.1.2.2.1 h.1.2.2.2.1 h.1.2.2.2.2 (by rw [T.room]; exact (Nat.le_of_ble_eq_true rfl)) (by rw [T.room]; exact (Nat.le_of_ble_eq_true rfl)) dX4_copy_168 ?_
  refine aw_nG (fun G_11 eG_11 => ?_)
  replace h := h.2 G_11 eG_11
  have lo_o := (show lo G_11 _ by rw [eG_11]; exact lo_gs4 hc lo_o)
  have lo_o1 := (show lo G_11 _ by rw [eG_11]; exact lo_gs4 hc lo_o1)
  exact aw_vret F T (Nat.le_of_ble_eq_true rfl) (Nat.le_of_ble_eq_true rfl) ⟨rfl, h⟩ dX4_copy_171
-- X4_halfCount (height 0)
def wp_X4_halfCount (post : Int32 → GH → Prop) (o : Nat) (G : GH) : Prop :=
  post ((2 : Int32) * (G o 0 0)) G
set_option maxRecDepth 100000 in
set_option maxHeartbeats 4000000 in
theorem k_X4_halfCount {l : Launch} {E : Ev} {P : Nat → Prop} {sd : Nat → Nat → Nat} {G : GH} {post : Int32 → GH → Prop} {o : Nat} (hPP : ∀ o, stt o = true → P o) (ho : stt o = true) (hc : oc o = 4) (h : wp_X4_halfCount post o G) : Ct l yX4_halfCount cX4_halfCount 1 (some .int) 0 0 0 E P sd G [.ref (sd o 0)] (pI post) := by
  refine ct_of (own := "MarkField$Register") (by decide) rfl (Nat.le_of_ble_eq_true rfl) hPP (fun X F T el eP es => ?_)
  subst el; subst eP; subst es
  have hP := F.P
  change AW E X 1 0 [(0, .ref (sdX X o 0))] [] G 0 0
  refine aw_ic F dX4_halfCount_0 ic_2 ?_
  refine aw_al_n F 0 dX4_halfCount_1 rfl rfl ?_
  refine gf4_0 F (lo_s ho) (hP _ ho) hc w_80 dX4_halfCount_2 ?_
  refine aw_imul F dX4_halfCount_5 ?_
  exact aw_iret F T (Nat.le_of_ble_eq_true rfl) (Nat.le_of_ble_eq_true rfl) ⟨_, rfl, h⟩ dX4_halfCount_6
-- X4_allHalves (height 1)
def wp_X4_allHalves (post : Int32 → GH → Prop) (o : Nat) (G : GH) : Prop :=
  wp_X4_halfCount (fun (r_2 : Int32) (G_1 : GH) => post (((1 : Int32) <<< (r_2 &&& 31)) - (1 : Int32)) G_1) o G
set_option maxRecDepth 100000 in
set_option maxHeartbeats 4000000 in
theorem k_X4_allHalves {l : Launch} {E : Ev} {P : Nat → Prop} {sd : Nat → Nat → Nat} {G : GH} {post : Int32 → GH → Prop} {o : Nat} (hPP : ∀ o, stt o = true → P o) (ho : stt o = true) (hc : oc o = 4) (h : wp_X4_allHalves post o G) : Ct l yX4_allHalves cX4_allHalves 1 (some .int) 1 0 0 E P sd G [.ref (sd o 0)] (pI post) := by
  refine ct_of (own := "MarkField$Register") (by decide) rfl (Nat.le_of_ble_eq_true rfl) hPP (fun X F T el eP es => ?_)
  subst el; subst eP; subst es
  have hP := F.P
  change AW E X 1 0 [(0, .ref (sdX X o 0))] [] G 0 0
  refine aw_ic F dX4_allHalves_0 ic_1 ?_
  refine aw_al_n F 0 dX4_allHalves_1 rfl rfl ?_
  refine aw_cVi (stk := [.int (1 : Int32)]) F T.room [] (k_X4_halfCount hP ho hc h) mv_X4_halfCount w_981 cf4 (lo_s ho) (hP _ ho) hc (by decide) rfl rfl (Nat.le_of_ble_eq_true rfl) ⟨(Nat.le_of_ble_eq_true rfl), (Nat.le_of_ble_eq_true rfl)⟩ ⟨(Nat.le_of_ble_eq_true rfl), (Nat.le_of_ble_eq_true rfl)⟩ dX4_allHalves_2 (fun r_2 G_1 h => ?_)
  refine aw_ishl F dX4_allHalves_5 ?_
  refine aw_ic F dX4_allHalves_6 ic_1 ?_
  refine aw_isub F dX4_allHalves_7 ?_
  exact aw_iret F T (Nat.le_of_ble_eq_true rfl) (Nat.le_of_ble_eq_true rfl) ⟨_, rfl, h⟩ dX4_allHalves_8
-- X4_allMarks (height 0)
def wp_X4_allMarks (post : Int32 → GH → Prop) (o : Nat) (G : GH) : Prop :=
  post (((1 : Int32) <<< ((G o 0 1) &&& 31)) - (1 : Int32)) G
set_option maxRecDepth 100000 in
set_option maxHeartbeats 4000000 in
theorem k_X4_allMarks {l : Launch} {E : Ev} {P : Nat → Prop} {sd : Nat → Nat → Nat} {G : GH} {post : Int32 → GH → Prop} {o : Nat} (hPP : ∀ o, stt o = true → P o) (ho : stt o = true) (hc : oc o = 4) (h : wp_X4_allMarks post o G) : Ct l yX4_allMarks cX4_allMarks 1 (some .int) 0 0 0 E P sd G [.ref (sd o 0)] (pI post) := by
  refine ct_of (own := "MarkField$Register") (by decide) rfl (Nat.le_of_ble_eq_true rfl) hPP (fun X F T el eP es => ?_)
  subst el; subst eP; subst es
  have hP := F.P
  change AW E X 1 0 [(0, .ref (sdX X o 0))] [] G 0 0
  refine aw_ic F dX4_allMarks_0 ic_1 ?_
  refine aw_al_n F 0 dX4_allMarks_1 rfl rfl ?_
  refine gf4_1 F (lo_s ho) (hP _ ho) hc w_83 dX4_allMarks_2 ?_
  refine aw_ishl F dX4_allMarks_5 ?_
  refine aw_ic F dX4_allMarks_6 ic_1 ?_
  refine aw_isub F dX4_allMarks_7 ?_
  exact aw_iret F T (Nat.le_of_ble_eq_true rfl) (Nat.le_of_ble_eq_true rfl) ⟨_, rfl, h⟩ dX4_allMarks_8
-- X4_useAt (height 0)
def wp_X4_useAt (post : Int32 → GH → Prop) (o : Nat) (x1 x2 : Int32) (G : GH) : Prop :=
  post ((x1 * (36 : Int32)) + (x2 * (3 : Int32))) G
set_option maxRecDepth 100000 in
set_option maxHeartbeats 4000000 in
theorem k_X4_useAt {l : Launch} {E : Ev} {P : Nat → Prop} {sd : Nat → Nat → Nat} {G : GH} {post : Int32 → GH → Prop} {o : Nat} {x1 x2 : Int32} (hPP : ∀ o, stt o = true → P o) (ho : stt o = true) (hc : oc o = 4) (h : wp_X4_useAt post o x1 x2 G) : Ct l yX4_useAt cX4_useAt 3 (some .int) 0 0 0 E P sd G [.ref (sd o 0), .int x1, .int x2] (pI post) := by
  refine ct_of (own := "MarkField$Register") (by decide) rfl (Nat.le_of_ble_eq_true rfl) hPP (fun X F T el eP es => ?_)
  subst el; subst eP; subst es
  have hP := F.P
  change AW E X 3 0 [(0, .ref (sdX X o 0)), (1, .int x1), (2, .int x2)] [] G 0 0
  refine aw_il_n F 1 dX4_useAt_0 rfl rfl ?_
  refine aw_bi F dX4_useAt_1 bi_36 ?_
  refine aw_imul F dX4_useAt_3 ?_
  refine aw_il_n F 2 dX4_useAt_4 rfl rfl ?_
  refine aw_ic F dX4_useAt_5 ic_3 ?_
  refine aw_imul F dX4_useAt_6 ?_
  refine aw_iadd F dX4_useAt_7 ?_
  exact aw_iret F T (Nat.le_of_ble_eq_true rfl) (Nat.le_of_ble_eq_true rfl) ⟨_, rfl, h⟩ dX4_useAt_8
-- X4_addMark (height 0)
def lb_X4_addMark_50 (post : Int32 → GH → Prop) (o : Nat) (o1 k1 m1 : Nat) (P50 : Int32 → Int32 → Int32 → Int32 → GH → Prop) (v2 v3 v5 v6 : Int32) (G : GH) : Prop :=
  ((v3 ≤ v6 → (∀ G_8 : GH, G_8 = gs G o 0 (upd (G o 0) 1 ((G o 0 1) + (1 : Int32))) → post v5 G_8)) ∧ (¬ v3 ≤ v6 → (vp_in (v2 + v6) m1 ∧ (vp_in ((v5 * (10 : Int32)) + v6) 130 ∧ (∀ G_9 : GH, G_9 = gs G o 6 (upd (G o 6) ((v5 * (10 : Int32)) + v6).toNatClampNeg (nb ((nb (G o1 k1 (v2 + v6).toNatClampNeg)) - (97 : Int32)))) → P50 v2 v3 v5 (v6 + (1 : Int32)) G_9)))))
def lp_X4_addMark_50 (post : Int32 → GH → Prop) (o : Nat) (o1 k1 m1 : Nat) (v2 v3 v5 v6 : Int32) (G : GH) : Prop := ∀ P50 : Int32 → Int32 → Int32 → Int32 → GH → Prop, (∀ (v2 v3 v5 v6 : Int32) (G : GH), lb_X4_addMark_50 post o o1 k1 m1 P50 v2 v3 v5 v6 G → P50 v2 v3 v5 v6 G) → P50 v2 v3 v5 v6 G
def wp_X4_addMark (post : Int32 → GH → Prop) (o : Nat) (o1 k1 m1 : Nat) (x2 x3 x4 : Int32) (G : GH) : Prop :=
  (∀ y_1 : Int32, y_1 = (G o 0 1) → (vp_in y_1 13 ∧ (∀ G_2 : GH, G_2 = gs G o 3 (upd (G o 3) y_1.toNatClampNeg x4) → (vp_in y_1 13 ∧ (∀ G_3 : GH, G_3 = gs G_2 o 4 (upd (G_2 o 4) y_1.toNatClampNeg (0 : Int32)) → (vp_in y_1 13 ∧ (∀ G_4 : GH, G_4 = gs G_3 o 5 (upd (G_3 o 5) y_1.toNatClampNeg x3) → (vp_in y_1 13 ∧ (∀ G_5 : GH, G_5 = gs G_4 o 7 (upd (G_4 o 7) y_1.toNatClampNeg (0 : Int32)) → (vp_in y_1 13 ∧ (∀ G_6 : GH, G_6 = gs G_5 o 9 (upd (G_5 o 9) y_1.toNatClampNeg (0 : Int32)) → lp_X4_addMark_50 post o o1 k1 m1 x2 x3 y_1 (0 : Int32) G_6)))))))))))
set_option maxRecDepth 100000 in
set_option maxHeartbeats 4000000 in
theorem kl_X4_addMark_50 {E : Ev} {X : Cx} {post : Int32 → GH → Prop} {o : Nat} {o1 k1 m1 : Nat} {v2 v3 v5 v6 : Int32} {G : GH} (F : Fx E X "MarkField$Register" cX4_addMark 7) (T : RT E X 0 0 0 (some .int) (pI post)) (ho : stt o = true) (hc : oc o = 4) (hs1 : stt o1 = true) (ha1 : al (oc o1) k1 = some (1, m1)) (h : lp_X4_addMark_50 post o o1 k1 m1 v2 v3 v5 v6 G) : AW E X 7 50 [(0, .ref (sdX X o 0)), (1, .ref (sdX X o1 k1)), (2, .int v2), (3, .int v3), (5, .int v5), (6, .int v6)] [] G 0 0 := by
  have hP := F.P
  have K50 : ∀ (v2 v3 v5 v6 : Int32) (G : GH), AW E X 7 50 [(0, .ref (sdX X o 0)), (1, .ref (sdX X o1 k1)), (2, .int v2), (3, .int v3), (5, .int v5), (6, .int v6)] [] G 0 0 → AW E X 7 50 [(0, .ref (sdX X o 0)), (1, .ref (sdX X o1 k1)), (2, .int v2), (3, .int v3), (5, .int v5), (6, .int v6)] [] G 0 0 := fun _ _ _ _ _ q => q
  refine h (fun (v2 v3 v5 v6 : Int32) (G : GH) => AW E X 7 50 [(0, .ref (sdX X o 0)), (1, .ref (sdX X o1 k1)), (2, .int v2), (3, .int v3), (5, .int v5), (6, .int v6)] [] G 0 0) (fun (v2 v3 v5 v6 : Int32) (G : GH) h => ?_)
  refine aw_il F 5 dX4_addMark_50 rfl ?_
  refine aw_il_n F 3 dX4_addMark_52 rfl rfl ?_
  refine aw_icmp_ge (tgt := 85) F dX4_addMark_53 (by decide) (fun c_7 => ?_) (fun c_7 => ?_)
  · replace h := h.1 c_7
    refine aw_al_n F 0 dX4_addMark_85 rfl rfl ?_
    refine aw_dup F dX4_addMark_86 rfl ?_
    refine gf4_1 F (lo_s ho) (hP _ ho) hc w_83 dX4_addMark_87 ?_
    refine aw_ic F dX4_addMark_90 ic_1 ?_
    refine aw_iadd F dX4_addMark_91 ?_
    refine pf4_1 F (lo_s ho) (hP _ ho) hc w_83 dX4_addMark_92 (fun G_8 eG_8 => ?_)
    replace h := h G_8 eG_8
    refine aw_il F 4 dX4_addMark_95 rfl ?_
    exact aw_iret F T (Nat.le_of_ble_eq_true rfl) (Nat.le_of_ble_eq_true rfl) ⟨_, rfl, h⟩ dX4_addMark_97
  · replace h := h.2 c_7
    refine aw_al_n F 0 dX4_addMark_56 rfl rfl ?_
    refine gr4_5 F (lo_s ho) (hP _ ho) hc w_101 (hP _ ho) dX4_addMark_57 ?_
    refine aw_il F 4 dX4_addMark_60 rfl ?_
    refine aw_bi F dX4_addMark_62 bi_10 ?_
    refine aw_imul F dX4_addMark_64 ?_
    refine aw_il F 5 dX4_addMark_65 rfl ?_
    refine aw_iadd F dX4_addMark_67 ?_
    refine aw_al_n F 1 dX4_addMark_68 rfl rfl ?_
    refine aw_il_n F 2 dX4_addMark_69 rfl rfl ?_
    refine aw_il F 5 dX4_addMark_70 rfl ?_
    refine aw_iadd F dX4_addMark_72 ?_
    refine aw_bald F o1 k1 (lo_s hs1) (hP _ hs1) ha1 h.1 dX4_addMark_73 ?_
    replace h := h.2
    refine aw_bi F dX4_addMark_74 bi_97 ?_
    refine aw_isub F dX4_addMark_76 ?_
    refine aw_i2b F dX4_addMark_77 ?_
    refine aw_bast F o 6 (lo_s ho) (hP _ ho) (al_of hc rfl) h.1 dX4_addMark_78 ?_
    refine aw_nG (fun G_9 eG_9 => ?_)
    replace h := h.2 G_9 eG_9
    refine aw_inc (lv1 := [(6, .int (v6 + (1 : Int32))), (0, .ref (sdX X o 0)), (1, .ref (sdX X o1 k1)), (2, .int v2), (3, .int v3), (5, .int v5)]) F 5 dX4_addMark_79 rfl (in_1 _) (by decide) rfl ?_
    refine aw_go (tgt := 50) F dX4_addMark_82 (by decide) ?_
    refine aw_sub [1, 2, 3, 4, 5, 0] rfl ?_
    exact K50 _ _ _ _ _ h
set_option maxRecDepth 100000 in
set_option maxHeartbeats 4000000 in
theorem k_X4_addMark {l : Launch} {E : Ev} {P : Nat → Prop} {sd : Nat → Nat → Nat} {G : GH} {post : Int32 → GH → Prop} {o : Nat} {o1 k1 m1 : Nat} {x2 x3 x4 : Int32} (hPP : ∀ o, stt o = true → P o) (ho : stt o = true) (hc : oc o = 4) (hs1 : stt o1 = true) (ha1 : al (oc o1) k1 = some (1, m1)) (h : wp_X4_addMark post o o1 k1 m1 x2 x3 x4 G) : Ct l yX4_addMark cX4_addMark 7 (some .int) 0 0 0 E P sd G [.ref (sd o 0), .ref (sd o1 k1), .int x2, .int x3, .int x4] (pI post) := by
  refine ct_of (own := "MarkField$Register") (by decide) rfl (Nat.le_of_ble_eq_true rfl) hPP (fun X F T el eP es => ?_)
  subst el; subst eP; subst es
  have hP := F.P
  change AW E X 7 0 [(0, .ref (sdX X o 0)), (1, .ref (sdX X o1 k1)), (2, .int x2), (3, .int x3), (4, .int x4)] [] G 0 0
  refine aw_al_n F 0 dX4_addMark_0 rfl rfl ?_
  refine gf4_1 F (lo_s ho) (hP _ ho) hc w_83 dX4_addMark_1 ?_
  refine aw_top (fun y_1 ey_1 => ?_)
  replace h := h y_1 ey_1
  refine aw_is (lv1 := [(5, .int y_1), (0, .ref (sdX X o 0)), (1, .ref (sdX X o1 k1)), (2, .int x2), (3, .int x3), (4, .int x4)]) F dX4_addMark_4 (by decide) rfl ?_
  refine aw_al_n F 1 dX4_addMark_6 rfl rfl ?_
  refine gr4_2 F (lo_s ho) (hP _ ho) hc w_89 (hP _ ho) dX4_addMark_7 ?_
  refine aw_il F 0 dX4_addMark_10 rfl ?_
  refine aw_il F 5 dX4_addMark_12 rfl ?_
  refine aw_iast F o 3 (lo_s ho) (hP _ ho) (al_of hc rfl) h.1 dX4_addMark_14 ?_
  refine aw_nG (fun G_2 eG_2 => ?_)
  replace h := h.2 G_2 eG_2
  refine aw_al_n F 1 dX4_addMark_15 rfl rfl ?_
  refine gr4_3 F (lo_s ho) (hP _ ho) hc w_92 (hP _ ho) dX4_addMark_16 ?_
  refine aw_il F 0 dX4_addMark_19 rfl ?_
  refine aw_ic F dX4_addMark_21 ic_0 ?_
  refine aw_iast F o 4 (lo_s ho) (hP _ ho) (al_of hc rfl) h.1 dX4_addMark_22 ?_
  refine aw_nG (fun G_3 eG_3 => ?_)
  replace h := h.2 G_3 eG_3
  refine aw_al_n F 1 dX4_addMark_23 rfl rfl ?_
  refine gr4_4 F (lo_s ho) (hP _ ho) hc w_97 (hP _ ho) dX4_addMark_24 ?_
  refine aw_il F 0 dX4_addMark_27 rfl ?_
  refine aw_il_n F 4 dX4_addMark_29 rfl rfl ?_
  refine aw_iast F o 5 (lo_s ho) (hP _ ho) (al_of hc rfl) h.1 dX4_addMark_30 ?_
  refine aw_nG (fun G_4 eG_4 => ?_)
  replace h := h.2 G_4 eG_4
  refine aw_al_n F 1 dX4_addMark_31 rfl rfl ?_
  refine gr4_6 F (lo_s ho) (hP _ ho) hc w_104 (hP _ ho) dX4_addMark_32 ?_
  refine aw_il F 0 dX4_addMark_35 rfl ?_
  refine aw_ic F dX4_addMark_37 ic_0 ?_
  refine aw_iast F o 7 (lo_s ho) (hP _ ho) (al_of hc rfl) h.1 dX4_addMark_38 ?_
  refine aw_nG (fun G_5 eG_5 => ?_)
  replace h := h.2 G_5 eG_5
  refine aw_al_n F 1 dX4_addMark_39 rfl rfl ?_
  refine gr4_8 F (lo_s ho) (hP _ ho) hc w_110 (hP _ ho) dX4_addMark_40 ?_
  refine aw_il F 0 dX4_addMark_43 rfl ?_
  refine aw_ic F dX4_addMark_45 ic_0 ?_
  refine aw_iast F o 9 (lo_s ho) (hP _ ho) (al_of hc rfl) h.1 dX4_addMark_46 ?_
  refine aw_nG (fun G_6 eG_6 => ?_)
  replace h := h.2 G_6 eG_6
  refine aw_ic F dX4_addMark_47 ic_0 ?_
  refine aw_is (lv1 := [(6, .int (0 : Int32)), (5, .int y_1), (0, .ref (sdX X o 0)), (1, .ref (sdX X o1 k1)), (2, .int x2), (3, .int x3), (4, .int x4)]) F dX4_addMark_48 (by decide) rfl ?_
  refine aw_sub [2, 3, 4, 5, 1, 0] rfl ?_
  exact kl_X4_addMark_50 F T ho hc hs1 ha1 h
-- X4_addUse (height 1)
def wp_X4_addUse (post : Int32 → GH → Prop) (o : Nat) (x1 x2 x3 x4 : Int32) (G : GH) : Prop :=
  (vp_in x1 13 ∧ (∀ y_1 : Int32, y_1 = (G o 7 x1.toNatClampNeg) → wp_X4_useAt (fun (r_3 : Int32) (G_2 : GH) => (vp_in r_3 468 ∧ (∀ G_4 : GH, G_4 = gs G_2 o 8 (upd (G_2 o 8) r_3.toNatClampNeg x2) → (vp_in (r_3 + (1 : Int32)) 468 ∧ (∀ G_5 : GH, G_5 = gs G_4 o 8 (upd (G_4 o 8) (r_3 + (1 : Int32)).toNatClampNeg x3) → (vp_in (r_3 + (2 : Int32)) 468 ∧ (∀ G_6 : GH, G_6 = gs G_5 o 8 (upd (G_5 o 8) (r_3 + (2 : Int32)).toNatClampNeg x4) → (vp_in x1 13 ∧ (vp_in x1 13 ∧ (∀ G_7 : GH, G_7 = gs G_6 o 7 (upd (G_6 o 7) x1.toNatClampNeg ((G_6 o 7 x1.toNatClampNeg) + (1 : Int32))) → post y_1 G_7)))))))))) o x1 y_1 G))
set_option maxRecDepth 100000 in
set_option maxHeartbeats 4000000 in
theorem k_X4_addUse {l : Launch} {E : Ev} {P : Nat → Prop} {sd : Nat → Nat → Nat} {G : GH} {post : Int32 → GH → Prop} {o : Nat} {x1 x2 x3 x4 : Int32} (hPP : ∀ o, stt o = true → P o) (ho : stt o = true) (hc : oc o = 4) (h : wp_X4_addUse post o x1 x2 x3 x4 G) : Ct l yX4_addUse cX4_addUse 7 (some .int) 1 0 0 E P sd G [.ref (sd o 0), .int x1, .int x2, .int x3, .int x4] (pI post) := by
  refine ct_of (own := "MarkField$Register") (by decide) rfl (Nat.le_of_ble_eq_true rfl) hPP (fun X F T el eP es => ?_)
  subst el; subst eP; subst es
  have hP := F.P
  change AW E X 7 0 [(0, .ref (sdX X o 0)), (1, .int x1), (2, .int x2), (3, .int x3), (4, .int x4)] [] G 0 0
  refine aw_al_n F 0 dX4_addUse_0 rfl rfl ?_
  refine gr4_6 F (lo_s ho) (hP _ ho) hc w_104 (hP _ ho) dX4_addUse_1 ?_
  refine aw_il_n F 1 dX4_addUse_4 rfl rfl ?_
  refine aw_iald F o 7 (lo_s ho) (hP _ ho) (al_of hc rfl) h.1 dX4_addUse_5 ?_
  replace h := h.2
  refine aw_top (fun y_1 ey_1 => ?_)
  replace h := h y_1 ey_1
  refine aw_is (lv1 := [(5, .int y_1), (0, .ref (sdX X o 0)), (1, .int x1), (2, .int x2), (3, .int x3), (4, .int x4)]) F dX4_addUse_6 (by decide) rfl ?_
  refine aw_al_n F 1 dX4_addUse_8 rfl rfl ?_
  refine aw_il_n F 2 dX4_addUse_9 rfl rfl ?_
  refine aw_il F 0 dX4_addUse_10 rfl ?_
  refine aw_cVi (stk := []) F T.room [.int x1, .int y_1] (k_X4_useAt hP ho hc h) mv_X4_useAt w_591 cf4 (lo_s ho) (hP _ ho) hc (by decide) rfl rfl (Nat.le_of_ble_eq_true rfl) ⟨(Nat.le_of_ble_eq_true rfl), (Nat.le_of_ble_eq_true rfl)⟩ ⟨(Nat.le_of_ble_eq_true rfl), (Nat.le_of_ble_eq_true rfl)⟩ dX4_addUse_12 (fun r_3 G_2 h => ?_)
  refine aw_is (lv1 := [(6, .int r_3), (5, .int y_1), (0, .ref (sdX X o 0)), (1, .int x1), (2, .int x2), (3, .int x3), (4, .int x4)]) F dX4_addUse_15 (by decide) rfl ?_
  refine aw_al_n F 2 dX4_addUse_17 rfl rfl ?_
  refine gr4_7 F (lo_s ho) (hP _ ho) hc w_108 (hP _ ho) dX4_addUse_18 ?_
  refine aw_il F 0 dX4_addUse_21 rfl ?_
  refine aw_il_n F 4 dX4_addUse_23 rfl rfl ?_
  refine aw_iast F o 8 (lo_s ho) (hP _ ho) (al_of hc rfl) h.1 dX4_addUse_24 ?_
  refine aw_nG (fun G_4 eG_4 => ?_)
  replace h := h.2 G_4 eG_4
  refine aw_al_n F 2 dX4_addUse_25 rfl rfl ?_
  refine gr4_7 F (lo_s ho) (hP _ ho) hc w_108 (hP _ ho) dX4_addUse_26 ?_
  refine aw_il F 0 dX4_addUse_29 rfl ?_
  refine aw_ic F dX4_addUse_31 ic_1 ?_
  refine aw_iadd F dX4_addUse_32 ?_
  refine aw_il_n F 5 dX4_addUse_33 rfl rfl ?_
  refine aw_iast F o 8 (lo_s ho) (hP _ ho) (al_of hc rfl) h.1 dX4_addUse_34 ?_
  refine aw_nG (fun G_5 eG_5 => ?_)
  replace h := h.2 G_5 eG_5
  refine aw_al_n F 2 dX4_addUse_35 rfl rfl ?_
  refine gr4_7 F (lo_s ho) (hP _ ho) hc w_108 (hP _ ho) dX4_addUse_36 ?_
  refine aw_il F 0 dX4_addUse_39 rfl ?_
  refine aw_ic F dX4_addUse_41 ic_2 ?_
  refine aw_iadd F dX4_addUse_42 ?_
  refine aw_il F 6 dX4_addUse_43 rfl ?_
  refine aw_iast F o 8 (lo_s ho) (hP _ ho) (al_of hc rfl) h.1 dX4_addUse_45 ?_
  refine aw_nG (fun G_6 eG_6 => ?_)
  replace h := h.2 G_6 eG_6
  refine aw_al_n F 2 dX4_addUse_46 rfl rfl ?_
  refine gr4_6 F (lo_s ho) (hP _ ho) hc w_104 (hP _ ho) dX4_addUse_47 ?_
  refine aw_il_n F 3 dX4_addUse_50 rfl rfl ?_
  refine aw_dup2 F dX4_addUse_51 rfl rfl ?_
  refine aw_iald F o 7 (lo_s ho) (hP _ ho) (al_of hc rfl) h.1 dX4_addUse_52 ?_
  replace h := h.2
  refine aw_ic F dX4_addUse_53 ic_1 ?_
  refine aw_iadd F dX4_addUse_54 ?_
  refine aw_iast F o 7 (lo_s ho) (hP _ ho) (al_of hc rfl) h.1 dX4_addUse_55 ?_
  refine aw_nG (fun G_7 eG_7 => ?_)
  replace h := h.2 G_7 eG_7
  refine aw_il F 1 dX4_addUse_56 rfl ?_
  exact aw_iret F T (Nat.le_of_ble_eq_true rfl) (Nat.le_of_ble_eq_true rfl) ⟨_, rfl, h⟩ dX4_addUse_58
-- X4_closeUp (height 1)
def wp_X4_closeUp (post : GH → Prop) (o0 k0 m0 : Nat) (x1 x2 x3 : Int32) (G : GH) : Prop :=
  ((¬ ((x1 + (1 : Int32)) * x3) < 0 ∧ ¬ (x1 * x3) < 0 ∧ ¬ (x2 * x3) < 0 ∧ ((x1 + (1 : Int32)) * x3).toNatClampNeg + (x2 * x3).toNatClampNeg ≤ m0 ∧ (x1 * x3).toNatClampNeg + (x2 * x3).toNatClampNeg ≤ m0) ∧ (∀ G_1 : GH, G_1 = gs G o0 k0 (va_cpy (G o0 k0) (G o0 k0) ((x1 + (1 : Int32)) * x3).toNatClampNeg (x1 * x3).toNatClampNeg (x2 * x3).toNatClampNeg) → post G_1))
set_option maxRecDepth 100000 in
set_option maxHeartbeats 4000000 in
theorem k_X4_closeUp {l : Launch} {E : Ev} {P : Nat → Prop} {sd : Nat → Nat → Nat} {G : GH} {post : GH → Prop} {o0 k0 m0 : Nat} {x1 x2 x3 : Int32} (hPP : ∀ o, stt o = true → P o) (hs0 : stt o0 = true) (ha0 : al (oc o0) k0 = some (0, m0)) (h : wp_X4_closeUp post o0 k0 m0 x1 x2 x3 G) : Ct l yX4_closeUp cX4_closeUp 4 none 1 0 0 E P sd G [.ref (sd o0 k0), .int x1, .int x2, .int x3] (pV post) := by
  refine ct_of (own := "MarkField$Register") (by decide) rfl (Nat.le_of_ble_eq_true rfl) hPP (fun X F T el eP es => ?_)
  subst el; subst eP; subst es
  have hP := F.P
  change AW E X 4 0 [(0, .ref (sdX X o0 k0)), (1, .int x1), (2, .int x2), (3, .int x3)] [] G 0 0
  refine aw_al_n F 0 dX4_closeUp_0 rfl rfl ?_
  refine aw_il_n F 1 dX4_closeUp_1 rfl rfl ?_
  refine aw_ic F dX4_closeUp_2 ic_1 ?_
  refine aw_iadd F dX4_closeUp_3 ?_
  refine aw_il_n F 3 dX4_closeUp_4 rfl rfl ?_
  refine aw_imul F dX4_closeUp_5 ?_
  refine aw_al_n F 0 dX4_closeUp_6 rfl rfl ?_
  refine aw_il_n F 1 dX4_closeUp_7 rfl rfl ?_
  refine aw_il_n F 3 dX4_closeUp_8 rfl rfl ?_
  refine aw_imul F dX4_closeUp_9 ?_
  refine aw_il_n F 2 dX4_closeUp_10 rfl rfl ?_
  refine aw_il_n F 3 dX4_closeUp_11 rfl rfl ?_
  refine aw_imul F dX4_closeUp_12 ?_
  refine aw_cpy F o0 k0 o0 k0 (by decide) (lo_s hs0) (hP _ hs0) ha0 (lo_s hs0) (hP _ hs0) ha0 w_77 w_79 w_78 w_4 h.1.1 h.1.2.1 h.1.2.2.1 h.1.2.2.2.1 h.1.2.2.2.2 (by rw [T.room]; exact (Nat.le_of_ble_eq_true rfl)) (by rw [T.room]; exact (Nat.le_of_ble_eq_true rfl)) dX4_closeUp_13 ?_
  refine aw_nG (fun G_1 eG_1 => ?_)
  replace h := h.2 G_1 eG_1
  exact aw_vret F T (Nat.le_of_ble_eq_true rfl) (Nat.le_of_ble_eq_true rfl) ⟨rfl, h⟩ dX4_closeUp_16
-- X4_removeMark (height 2)
def lb_X4_removeMark_107 (post : GH → Prop) (o : Nat) (P107 : Int32 → Int32 → GH → Prop) (v1 v3 : Int32) (G : GH) : Prop :=
  (((G o 0 1) ≤ v3 → post G) ∧ (¬ (G o 0 1) ≤ v3 → (vp_in v3 13 ∧ (∀ y_17 : Int32, y_17 = ((G o 9 v3.toNatClampNeg) &&& (((1 : Int32) <<< (v1 &&& 31)) - (1 : Int32))) → (vp_in v3 13 ∧ (vp_in v3 13 ∧ (∀ G_18 : GH, G_18 = gs G o 9 (upd (G o 9) v3.toNatClampNeg (y_17 ||| (((G o 9 v3.toNatClampNeg) >>> ((v1 + (1 : Int32)) &&& 31)) <<< (v1 &&& 31)))) → P107 v1 (v3 + (1 : Int32)) G_18)))))))
def lp_X4_removeMark_107 (post : GH → Prop) (o : Nat) (v1 v3 : Int32) (G : GH) : Prop := ∀ P107 : Int32 → Int32 → GH → Prop, (∀ (v1 v3 : Int32) (G : GH), lb_X4_removeMark_107 post o P107 v1 v3 G → P107 v1 v3 G) → P107 v1 v3 G
def wp_X4_removeMark (post : GH → Prop) (o : Nat) (x1 : Int32) (G : GH) : Prop :=
  (∀ y_1 : Int32, y_1 = (((G o 0 1) - x1) - (1 : Int32)) → wp_X4_closeUp (fun (G_2 : GH) => wp_X4_closeUp (fun (G_4 : GH) => wp_X4_closeUp (fun (G_6 : GH) => wp_X4_closeUp (fun (G_8 : GH) => wp_X4_closeUp (fun (G_10 : GH) => wp_X4_closeUp (fun (G_12 : GH) => ((¬ ((x1 + (1 : Int32)) * (10 : Int32)) < 0 ∧ ¬ (x1 * (10 : Int32)) < 0 ∧ ¬ (y_1 * (10 : Int32)) < 0 ∧ ((x1 + (1 : Int32)) * (10 : Int32)).toNatClampNeg + (y_1 * (10 : Int32)).toNatClampNeg ≤ 130 ∧ (x1 * (10 : Int32)).toNatClampNeg + (y_1 * (10 : Int32)).toNatClampNeg ≤ 130) ∧ (∀ G_14 : GH, G_14 = gs G_12 o 6 (va_cpy (G_12 o 6) (G_12 o 6) ((x1 + (1 : Int32)) * (10 : Int32)).toNatClampNeg (x1 * (10 : Int32)).toNatClampNeg (y_1 * (10 : Int32)).toNatClampNeg) → (∀ G_15 : GH, G_15 = gs G_14 o 0 (upd (G_14 o 0) 1 ((G_14 o 0 1) - (1 : Int32))) → lp_X4_removeMark_107 post o x1 (0 : Int32) G_15)))) o 8 468 x1 y_1 (36 : Int32) G_10) o 9 13 x1 y_1 (1 : Int32) G_8) o 7 13 x1 y_1 (1 : Int32) G_6) o 5 13 x1 y_1 (1 : Int32) G_4) o 4 13 x1 y_1 (1 : Int32) G_2) o 3 13 x1 y_1 (1 : Int32) G)
set_option maxRecDepth 100000 in
set_option maxHeartbeats 4000000 in
theorem kl_X4_removeMark_107 {E : Ev} {X : Cx} {post : GH → Prop} {o : Nat} {v1 v3 : Int32} {G : GH} (F : Fx E X "MarkField$Register" cX4_removeMark 5) (T : RT E X 2 0 0 none (pV post)) (ho : stt o = true) (hc : oc o = 4) (h : lp_X4_removeMark_107 post o v1 v3 G) : AW E X 5 107 [(0, .ref (sdX X o 0)), (1, .int v1), (3, .int v3)] [] G 0 0 := by
  have hP := F.P
  have K107 : ∀ (v1 v3 : Int32) (G : GH), AW E X 5 107 [(0, .ref (sdX X o 0)), (1, .int v1), (3, .int v3)] [] G 0 0 → AW E X 5 107 [(0, .ref (sdX X o 0)), (1, .int v1), (3, .int v3)] [] G 0 0 := fun _ _ _ q => q
  refine h (fun (v1 v3 : Int32) (G : GH) => AW E X 5 107 [(0, .ref (sdX X o 0)), (1, .int v1), (3, .int v3)] [] G 0 0) (fun (v1 v3 : Int32) (G : GH) h => ?_)
  refine aw_il_n F 2 dX4_removeMark_107 rfl rfl ?_
  refine aw_al_n F 0 dX4_removeMark_108 rfl rfl ?_
  refine gf4_1 F (lo_s ho) (hP _ ho) hc w_83 dX4_removeMark_109 ?_
  refine aw_icmp_ge (tgt := 156) F dX4_removeMark_112 (by decide) (fun c_16 => ?_) (fun c_16 => ?_)
  · replace h := h.1 c_16
    exact aw_vret F T (Nat.le_of_ble_eq_true rfl) (Nat.le_of_ble_eq_true rfl) ⟨rfl, h⟩ dX4_removeMark_156
  · replace h := h.2 c_16
    refine aw_al_n F 0 dX4_removeMark_115 rfl rfl ?_
    refine gr4_8 F (lo_s ho) (hP _ ho) hc w_110 (hP _ ho) dX4_removeMark_116 ?_
    refine aw_il_n F 2 dX4_removeMark_119 rfl rfl ?_
    refine aw_iald F o 9 (lo_s ho) (hP _ ho) (al_of hc rfl) h.1 dX4_removeMark_120 ?_
    replace h := h.2
    refine aw_ic F dX4_removeMark_121 ic_1 ?_
    refine aw_il_n F 1 dX4_removeMark_122 rfl rfl ?_
    refine aw_ishl F dX4_removeMark_123 ?_
    refine aw_ic F dX4_removeMark_124 ic_1 ?_
    refine aw_isub F dX4_removeMark_125 ?_
    refine aw_iand F dX4_removeMark_126 ?_
    refine aw_top (fun y_17 ey_17 => ?_)
    replace h := h y_17 ey_17
    refine aw_is (lv1 := [(4, .int y_17), (0, .ref (sdX X o 0)), (1, .int v1), (3, .int v3)]) F dX4_removeMark_127 (by decide) rfl ?_
    refine aw_al_n F 1 dX4_removeMark_129 rfl rfl ?_
    refine gr4_8 F (lo_s ho) (hP _ ho) hc w_110 (hP _ ho) dX4_removeMark_130 ?_
    refine aw_il_n F 3 dX4_removeMark_133 rfl rfl ?_
    refine aw_il F 0 dX4_removeMark_134 rfl ?_
    refine aw_al_n F 1 dX4_removeMark_136 rfl rfl ?_
    refine gr4_8 F (lo_s ho) (hP _ ho) hc w_110 (hP _ ho) dX4_removeMark_137 ?_
    refine aw_il_n F 3 dX4_removeMark_140 rfl rfl ?_
    refine aw_iald F o 9 (lo_s ho) (hP _ ho) (al_of hc rfl) h.1 dX4_removeMark_141 ?_
    replace h := h.2
    refine aw_il_n F 2 dX4_removeMark_142 rfl rfl ?_
    refine aw_ic F dX4_removeMark_143 ic_1 ?_
    refine aw_iadd F dX4_removeMark_144 ?_
    refine aw_ishr F dX4_removeMark_145 ?_
    refine aw_il_n F 2 dX4_removeMark_146 rfl rfl ?_
    refine aw_ishl F dX4_removeMark_147 ?_
    refine aw_ior F dX4_removeMark_148 ?_
    refine aw_iast F o 9 (lo_s ho) (hP _ ho) (al_of hc rfl) h.1 dX4_removeMark_149 ?_
    refine aw_nG (fun G_18 eG_18 => ?_)
    replace h := h.2 G_18 eG_18
    refine aw_inc (lv1 := [(3, .int (v3 + (1 : Int32))), (4, .int y_17), (0, .ref (sdX X o 0)), (1, .int v1)]) F 3 dX4_removeMark_150 rfl (in_1 _) (by decide) rfl ?_
    refine aw_go (tgt := 107) F dX4_removeMark_153 (by decide) ?_
    refine aw_sub [2, 3, 0] rfl ?_
    exact K107 _ _ _ h
set_option maxRecDepth 100000 in
set_option maxHeartbeats 4000000 in
theorem k_X4_removeMark {l : Launch} {E : Ev} {P : Nat → Prop} {sd : Nat → Nat → Nat} {G : GH} {post : GH → Prop} {o : Nat} {x1 : Int32} (hPP : ∀ o, stt o = true → P o) (ho : stt o = true) (hc : oc o = 4) (h : wp_X4_removeMark post o x1 G) : Ct l yX4_removeMark cX4_removeMark 5 none 2 0 0 E P sd G [.ref (sd o 0), .int x1] (pV post) := by
  refine ct_of (own := "MarkField$Register") (by decide) rfl (Nat.le_of_ble_eq_true rfl) hPP (fun X F T el eP es => ?_)
  subst el; subst eP; subst es
  have hP := F.P
  change AW E X 5 0 [(0, .ref (sdX X o 0)), (1, .int x1)] [] G 0 0
  refine aw_al_n F 0 dX4_removeMark_0 rfl rfl ?_
  refine gf4_1 F (lo_s ho) (hP _ ho) hc w_83 dX4_removeMark_1 ?_
  refine aw_il_n F 1 dX4_removeMark_4 rfl rfl ?_
  refine aw_isub F dX4_removeMark_5 ?_
  refine aw_ic F dX4_removeMark_6 ic_1 ?_
  refine aw_isub F dX4_removeMark_7 ?_
  refine aw_top (fun y_1 ey_1 => ?_)
  replace h := h y_1 ey_1
  refine aw_is_n (lv1 := [(2, .int y_1), (0, .ref (sdX X o 0)), (1, .int x1)]) F dX4_removeMark_8 rfl (by decide) rfl ?_
  refine aw_al_n F 1 dX4_removeMark_9 rfl rfl ?_
  refine gr4_2 F (lo_s ho) (hP _ ho) hc w_89 (hP _ ho) dX4_removeMark_10 ?_
  refine aw_il_n F 2 dX4_removeMark_13 rfl rfl ?_
  refine aw_il_n F 0 dX4_removeMark_14 rfl rfl ?_
  refine aw_ic F dX4_removeMark_15 ic_1 ?_
  refine aw_cSv (stk := []) F T.room [.ref (sdX X o 3), .int x1, .int y_1, .int (1 : Int32)] (k_X4_closeUp hP ho (al_of hc rfl) h) ms_X4_closeUp w_1064 rfl rfl (Nat.le_of_ble_eq_true rfl) ⟨(Nat.le_of_ble_eq_true rfl), (Nat.le_of_ble_eq_true rfl)⟩ ⟨(Nat.le_of_ble_eq_true rfl), (Nat.le_of_ble_eq_true rfl)⟩ dX4_removeMark_16 (fun G_2 h => ?_)
  refine aw_al_n F 1 dX4_removeMark_19 rfl rfl ?_
  refine gr4_3 F (lo_s ho) (hP _ ho) hc w_92 (hP _ ho) dX4_removeMark_20 ?_
  refine aw_il_n F 2 dX4_removeMark_23 rfl rfl ?_
  refine aw_il_n F 0 dX4_removeMark_24 rfl rfl ?_
  refine aw_ic F dX4_removeMark_25 ic_1 ?_
  refine aw_cSv (stk := []) F T.room [.ref (sdX X o 4), .int x1, .int y_1, .int (1 : Int32)] (k_X4_closeUp hP ho (al_of hc rfl) h) ms_X4_closeUp w_1064 rfl rfl (Nat.le_of_ble_eq_true rfl) ⟨(Nat.le_of_ble_eq_true rfl), (Nat.le_of_ble_eq_true rfl)⟩ ⟨(Nat.le_of_ble_eq_true rfl), (Nat.le_of_ble_eq_true rfl)⟩ dX4_removeMark_26 (fun G_4 h => ?_)
  refine aw_al_n F 1 dX4_removeMark_29 rfl rfl ?_
  refine gr4_4 F (lo_s ho) (hP _ ho) hc w_97 (hP _ ho) dX4_removeMark_30 ?_
  refine aw_il_n F 2 dX4_removeMark_33 rfl rfl ?_
  refine aw_il_n F 0 dX4_removeMark_34 rfl rfl ?_
  refine aw_ic F dX4_removeMark_35 ic_1 ?_
  refine aw_cSv (stk := []) F T.room [.ref (sdX X o 5), .int x1, .int y_1, .int (1 : Int32)] (k_X4_closeUp hP ho (al_of hc rfl) h) ms_X4_closeUp w_1064 rfl rfl (Nat.le_of_ble_eq_true rfl) ⟨(Nat.le_of_ble_eq_true rfl), (Nat.le_of_ble_eq_true rfl)⟩ ⟨(Nat.le_of_ble_eq_true rfl), (Nat.le_of_ble_eq_true rfl)⟩ dX4_removeMark_36 (fun G_6 h => ?_)
  refine aw_al_n F 1 dX4_removeMark_39 rfl rfl ?_
  refine gr4_6 F (lo_s ho) (hP _ ho) hc w_104 (hP _ ho) dX4_removeMark_40 ?_
  refine aw_il_n F 2 dX4_removeMark_43 rfl rfl ?_
  refine aw_il_n F 0 dX4_removeMark_44 rfl rfl ?_
  refine aw_ic F dX4_removeMark_45 ic_1 ?_
  refine aw_cSv (stk := []) F T.room [.ref (sdX X o 7), .int x1, .int y_1, .int (1 : Int32)] (k_X4_closeUp hP ho (al_of hc rfl) h) ms_X4_closeUp w_1064 rfl rfl (Nat.le_of_ble_eq_true rfl) ⟨(Nat.le_of_ble_eq_true rfl), (Nat.le_of_ble_eq_true rfl)⟩ ⟨(Nat.le_of_ble_eq_true rfl), (Nat.le_of_ble_eq_true rfl)⟩ dX4_removeMark_46 (fun G_8 h => ?_)
  refine aw_al_n F 1 dX4_removeMark_49 rfl rfl ?_
  refine gr4_8 F (lo_s ho) (hP _ ho) hc w_110 (hP _ ho) dX4_removeMark_50 ?_
  refine aw_il_n F 2 dX4_removeMark_53 rfl rfl ?_
  refine aw_il_n F 0 dX4_removeMark_54 rfl rfl ?_
  refine aw_ic F dX4_removeMark_55 ic_1 ?_
  refine aw_cSv (stk := []) F T.room [.ref (sdX X o 9), .int x1, .int y_1, .int (1 : Int32)] (k_X4_closeUp hP ho (al_of hc rfl) h) ms_X4_closeUp w_1064 rfl rfl (Nat.le_of_ble_eq_true rfl) ⟨(Nat.le_of_ble_eq_true rfl), (Nat.le_of_ble_eq_true rfl)⟩ ⟨(Nat.le_of_ble_eq_true rfl), (Nat.le_of_ble_eq_true rfl)⟩ dX4_removeMark_56 (fun G_10 h => ?_)
  refine aw_al_n F 1 dX4_removeMark_59 rfl rfl ?_
  refine gr4_7 F (lo_s ho) (hP _ ho) hc w_108 (hP _ ho) dX4_removeMark_60 ?_
  refine aw_il_n F 2 dX4_removeMark_63 rfl rfl ?_
  refine aw_il_n F 0 dX4_removeMark_64 rfl rfl ?_
  refine aw_bi F dX4_removeMark_65 bi_36 ?_
  refine aw_cSv (stk := []) F T.room [.ref (sdX X o 8), .int x1, .int y_1, .int (36 : Int32)] (k_X4_closeUp hP ho (al_of hc rfl) h) ms_X4_closeUp w_1064 rfl rfl (Nat.le_of_ble_eq_true rfl) ⟨(Nat.le_of_ble_eq_true rfl), (Nat.le_of_ble_eq_true rfl)⟩ ⟨(Nat.le_of_ble_eq_true rfl), (Nat.le_of_ble_eq_true rfl)⟩ dX4_removeMark_67 (fun G_12 h => ?_)
  refine aw_al_n F 1 dX4_removeMark_70 rfl rfl ?_
  refine gr4_5 F (lo_s ho) (hP _ ho) hc w_101 (hP _ ho) dX4_removeMark_71 ?_
  refine aw_il_n F 2 dX4_removeMark_74 rfl rfl ?_
  refine aw_ic F dX4_removeMark_75 ic_1 ?_
  refine aw_iadd F dX4_removeMark_76 ?_
  refine aw_bi F dX4_removeMark_77 bi_10 ?_
  refine aw_imul F dX4_removeMark_79 ?_
  refine aw_al_n F 1 dX4_removeMark_80 rfl rfl ?_
  refine gr4_5 F (lo_s ho) (hP _ ho) hc w_101 (hP _ ho) dX4_removeMark_81 ?_
  refine aw_il_n F 2 dX4_removeMark_84 rfl rfl ?_
  refine aw_bi F dX4_removeMark_85 bi_10 ?_
  refine aw_imul F dX4_removeMark_87 ?_
  refine aw_il_n F 0 dX4_removeMark_88 rfl rfl ?_
  refine aw_bi F dX4_removeMark_89 bi_10 ?_
  refine aw_imul F dX4_removeMark_91 ?_
  refine aw_cpy F o 6 o 6 (by decide) (lo_s ho) (hP _ ho) (al_of hc rfl) (lo_s ho) (hP _ ho) (al_of hc rfl) w_77 w_79 w_78 w_4 h.1.1 h.1.2.1 h.1.2.2.1 h.1.2.2.2.1 h.1.2.2.2.2 (by rw [T.room]; exact (Nat.le_of_ble_eq_true rfl)) (by rw [T.room]; exact (Nat.le_of_ble_eq_true rfl)) dX4_removeMark_92 ?_
  refine aw_nG (fun G_14 eG_14 => ?_)
  replace h := h.2 G_14 eG_14
  refine aw_al_n F 1 dX4_removeMark_95 rfl rfl ?_
  refine aw_dup F dX4_removeMark_96 rfl ?_
  refine gf4_1 F (lo_s ho) (hP _ ho) hc w_83 dX4_removeMark_97 ?_
  refine aw_ic F dX4_removeMark_100 ic_1 ?_
  refine aw_isub F dX4_removeMark_101 ?_
  refine pf4_1 F (lo_s ho) (hP _ ho) hc w_83 dX4_removeMark_102 (fun G_15 eG_15 => ?_)
  replace h := h G_15 eG_15
  refine aw_ic F dX4_removeMark_105 ic_0 ?_
  refine aw_is_n (lv1 := [(3, .int (0 : Int32)), (2, .int y_1), (0, .ref (sdX X o 0)), (1, .int x1)]) F dX4_removeMark_106 rfl (by decide) rfl ?_
  refine aw_sub [2, 3, 0] rfl ?_
  exact kl_X4_removeMark_107 F T ho hc h
-- X4_stepsApart (height 1)
def lb_X4_stepsApart_27 (post : Int32 → GH → Prop) (P5 : Int32 → Int32 → Int32 → GH → Prop) (o : Nat) (P27 : Int32 → Int32 → Int32 → Int32 → Int32 → GH → Prop) (v2 v3 v4 v5 v6 : Int32) (G : GH) : Prop :=
  (((10 : Int32) ≤ v6 → P5 v2 v5 (v4 + (1 : Int32)) G) ∧ (¬ (10 : Int32) ≤ v6 → wp_X7_isIn (fun (b_5 : Bool) (G_4 : GH) => ((b_5 = false → P27 v2 v3 v4 v5 (v6 + (1 : Int32)) G_4) ∧ (b_5 = true → (vp_in v6 10 ∧ (∀ y_7 : Int32, y_7 = (v5 ||| (G_4 o 10 v6.toNatClampNeg)) → P27 v2 v3 v4 y_7 (v6 + (1 : Int32)) G_4))))) v6 v3 G))
def lp_X4_stepsApart_27 (post : Int32 → GH → Prop) (P5 : Int32 → Int32 → Int32 → GH → Prop) (o : Nat) (v2 v3 v4 v5 v6 : Int32) (G : GH) : Prop := ∀ P27 : Int32 → Int32 → Int32 → Int32 → Int32 → GH → Prop, (∀ (v2 v3 v4 v5 v6 : Int32) (G : GH), lb_X4_stepsApart_27 post P5 o P27 v2 v3 v4 v5 v6 G → P27 v2 v3 v4 v5 v6 G) → P27 v2 v3 v4 v5 v6 G
def lb_X4_stepsApart_5 (post : Int32 → GH → Prop) (o : Nat) (P5 : Int32 → Int32 → Int32 → GH → Prop) (v2 v3 v4 : Int32) (G : GH) : Prop :=
  (((10 : Int32) ≤ v4 → post (-1 : Int32) G) ∧ (¬ (10 : Int32) ≤ v4 → (((v3 &&& v2) = 0 → lp_X4_stepsApart_27 post P5 o v2 v3 v4 v3 (0 : Int32) G) ∧ (¬ (v3 &&& v2) = 0 → post v4 G))))
def lp_X4_stepsApart_5 (post : Int32 → GH → Prop) (o : Nat) (v2 v3 v4 : Int32) (G : GH) : Prop := ∀ P5 : Int32 → Int32 → Int32 → GH → Prop, (∀ (v2 v3 v4 : Int32) (G : GH), lb_X4_stepsApart_5 post o P5 v2 v3 v4 G → P5 v2 v3 v4 G) → P5 v2 v3 v4 G
def wp_X4_stepsApart (post : Int32 → GH → Prop) (o : Nat) (x1 x2 : Int32) (G : GH) : Prop :=
  lp_X4_stepsApart_5 post o x2 x1 (0 : Int32) G
set_option maxRecDepth 100000 in
set_option maxHeartbeats 4000000 in
theorem kl_X4_stepsApart_27 {E : Ev} {X : Cx} {post : Int32 → GH → Prop} {P5 : Int32 → Int32 → Int32 → GH → Prop} {o : Nat} {v2 v3 v4 v5 v6 : Int32} {G : GH} (F : Fx E X "MarkField$Register" cX4_stepsApart 7) (T : RT E X 1 0 0 (some .int) (pI post)) (ho : stt o = true) (hc : oc o = 4) (K5 : ∀ (v2 v3 v4 : Int32) (G : GH), P5 v2 v3 v4 G → AW E X 7 5 [(0, .ref (sdX X o 0)), (2, .int v2), (3, .int v3), (4, .int v4)] [] G 0 0) (h : lp_X4_stepsApart_27 post P5 o v2 v3 v4 v5 v6 G) : AW E X 7 27 [(0, .ref (sdX X o 0)), (2, .int v2), (3, .int v3), (4, .int v4), (5, .int v5), (6, .int v6)] [] G 0 0 := by
  have hP := F.P
  have K27 : ∀ (v2 v3 v4 v5 v6 : Int32) (G : GH), AW E X 7 27 [(0, .ref (sdX X o 0)), (2, .int v2), (3, .int v3), (4, .int v4), (5, .int v5), (6, .int v6)] [] G 0 0 → AW E X 7 27 [(0, .ref (sdX X o 0)), (2, .int v2), (3, .int v3), (4, .int v4), (5, .int v5), (6, .int v6)] [] G 0 0 := fun _ _ _ _ _ _ q => q
  refine h (fun (v2 v3 v4 v5 v6 : Int32) (G : GH) => AW E X 7 27 [(0, .ref (sdX X o 0)), (2, .int v2), (3, .int v3), (4, .int v4), (5, .int v5), (6, .int v6)] [] G 0 0) (fun (v2 v3 v4 v5 v6 : Int32) (G : GH) h => ?_)
  refine aw_il F 5 dX4_stepsApart_27 rfl ?_
  refine aw_bi F dX4_stepsApart_29 bi_10 ?_
  refine aw_icmp_ge (tgt := 61) F dX4_stepsApart_31 (by decide) (fun c_3 => ?_) (fun c_3 => ?_)
  · replace h := h.1 c_3
    refine aw_il F 4 dX4_stepsApart_61 rfl ?_
    refine aw_is_n (lv1 := [(3, .int v5), (0, .ref (sdX X o 0)), (2, .int v2), (4, .int v4), (5, .int v5), (6, .int v6)]) F dX4_stepsApart_63 rfl (by decide) rfl ?_
    refine aw_inc (lv1 := [(4, .int (v4 + (1 : Int32))), (3, .int v5), (0, .ref (sdX X o 0)), (2, .int v2), (5, .int v5), (6, .int v6)]) F 3 dX4_stepsApart_64 rfl (in_1 _) (by decide) rfl ?_
    refine aw_go (tgt := 5) F dX4_stepsApart_67 (by decide) ?_
    refine aw_sub [2, 3, 1, 0] rfl ?_
    exact K5 _ _ _ _ h
  · replace h := h.2 c_3
    refine aw_il F 5 dX4_stepsApart_34 rfl ?_
    refine aw_il_n F 2 dX4_stepsApart_36 rfl rfl ?_
    refine aw_cSNb (stk := []) F T.room [.int v6, .int v3] (k_X7_isIn hP h) ms_X7_isIn (by decide) rfl rfl (Nat.le_of_ble_eq_true rfl) ⟨(Nat.le_of_ble_eq_true rfl), (Nat.le_of_ble_eq_true rfl)⟩ ⟨(Nat.le_of_ble_eq_true rfl), (Nat.le_of_ble_eq_true rfl)⟩ dX4_stepsApart_37 (fun b_5 G_4 h => ?_)
    refine aw_if_eq (tgt := 55) F dX4_stepsApart_40 (by decide) (fun c_6 => ?_) (fun c_6 => ?_)
    · replace h := h.1 (bI_2 c_6)
      refine aw_inc (lv1 := [(6, .int (v6 + (1 : Int32))), (0, .ref (sdX X o 0)), (2, .int v2), (3, .int v3), (4, .int v4), (5, .int v5)]) F 5 dX4_stepsApart_55 rfl (in_1 _) (by decide) rfl ?_
      refine aw_go (tgt := 27) F dX4_stepsApart_58 (by decide) ?_
      refine aw_sub [1, 2, 3, 4, 5, 0] rfl ?_
      exact K27 _ _ _ _ _ _ h
    · replace h := h.2 (bI_1 c_6)
      refine aw_il F 4 dX4_stepsApart_43 rfl ?_
      refine aw_al_n F 0 dX4_stepsApart_45 rfl rfl ?_
      refine gr4_9 F (lo_s ho) (hP _ ho) hc w_114 (hP _ ho) dX4_stepsApart_46 ?_
      refine aw_il F 5 dX4_stepsApart_49 rfl ?_
      refine aw_iald F o 10 (lo_s ho) (hP _ ho) (al_of hc rfl) h.1 dX4_stepsApart_51 ?_
      replace h := h.2
      refine aw_ior F dX4_stepsApart_52 ?_
      refine aw_top (fun y_7 ey_7 => ?_)
      replace h := h y_7 ey_7
      refine aw_is (lv1 := [(5, .int y_7), (0, .ref (sdX X o 0)), (2, .int v2), (3, .int v3), (4, .int v4), (6, .int v6)]) F dX4_stepsApart_53 (by decide) rfl ?_
      refine aw_inc (lv1 := [(6, .int (v6 + (1 : Int32))), (5, .int y_7), (0, .ref (sdX X o 0)), (2, .int v2), (3, .int v3), (4, .int v4)]) F 5 dX4_stepsApart_55 rfl (in_1 _) (by decide) rfl ?_
      refine aw_go (tgt := 27) F dX4_stepsApart_58 (by decide) ?_
      refine aw_sub [2, 3, 4, 5, 1, 0] rfl ?_
      exact K27 _ _ _ _ _ _ h
set_option maxRecDepth 100000 in
set_option maxHeartbeats 4000000 in
theorem kl_X4_stepsApart_5 {E : Ev} {X : Cx} {post : Int32 → GH → Prop} {o : Nat} {v2 v3 v4 : Int32} {G : GH} (F : Fx E X "MarkField$Register" cX4_stepsApart 7) (T : RT E X 1 0 0 (some .int) (pI post)) (ho : stt o = true) (hc : oc o = 4) (h : lp_X4_stepsApart_5 post o v2 v3 v4 G) : AW E X 7 5 [(0, .ref (sdX X o 0)), (2, .int v2), (3, .int v3), (4, .int v4)] [] G 0 0 := by
  have hP := F.P
  have K5 : ∀ (v2 v3 v4 : Int32) (G : GH), AW E X 7 5 [(0, .ref (sdX X o 0)), (2, .int v2), (3, .int v3), (4, .int v4)] [] G 0 0 → AW E X 7 5 [(0, .ref (sdX X o 0)), (2, .int v2), (3, .int v3), (4, .int v4)] [] G 0 0 := fun _ _ _ _ q => q
  refine h (fun (v2 v3 v4 : Int32) (G : GH) => AW E X 7 5 [(0, .ref (sdX X o 0)), (2, .int v2), (3, .int v3), (4, .int v4)] [] G 0 0) (fun (v2 v3 v4 : Int32) (G : GH) h => ?_)
  refine aw_il F 3 dX4_stepsApart_5 rfl ?_
  refine aw_bi F dX4_stepsApart_7 bi_10 ?_
  refine aw_icmp_ge (tgt := 70) F dX4_stepsApart_9 (by decide) (fun c_1 => ?_) (fun c_1 => ?_)
  · replace h := h.1 c_1
    refine aw_ic F dX4_stepsApart_70 ic_m1 ?_
    exact aw_iret F T (Nat.le_of_ble_eq_true rfl) (Nat.le_of_ble_eq_true rfl) ⟨_, rfl, h⟩ dX4_stepsApart_71
  · replace h := h.2 c_1
    refine aw_il_n F 2 dX4_stepsApart_12 rfl rfl ?_
    refine aw_il_n F 1 dX4_stepsApart_13 rfl rfl ?_
    refine aw_iand F dX4_stepsApart_14 ?_
    refine aw_if_eq (tgt := 21) F dX4_stepsApart_15 (by decide) (fun c_2 => ?_) (fun c_2 => ?_)
    · replace h := h.1 c_2
      refine aw_il_n F 2 dX4_stepsApart_21 rfl rfl ?_
      refine aw_is (lv1 := [(5, .int v3), (0, .ref (sdX X o 0)), (2, .int v2), (3, .int v3), (4, .int v4)]) F dX4_stepsApart_22 (by decide) rfl ?_
      refine aw_ic F dX4_stepsApart_24 ic_0 ?_
      refine aw_is (lv1 := [(6, .int (0 : Int32)), (5, .int v3), (0, .ref (sdX X o 0)), (2, .int v2), (3, .int v3), (4, .int v4)]) F dX4_stepsApart_25 (by decide) rfl ?_
      refine aw_sub [2, 3, 4, 5, 1, 0] rfl ?_
      exact kl_X4_stepsApart_27 F T ho hc K5 h
    · replace h := h.2 c_2
      refine aw_il F 3 dX4_stepsApart_18 rfl ?_
      exact aw_iret F T (Nat.le_of_ble_eq_true rfl) (Nat.le_of_ble_eq_true rfl) ⟨_, rfl, h⟩ dX4_stepsApart_20
set_option maxRecDepth 100000 in
set_option maxHeartbeats 4000000 in
theorem k_X4_stepsApart {l : Launch} {E : Ev} {P : Nat → Prop} {sd : Nat → Nat → Nat} {G : GH} {post : Int32 → GH → Prop} {o : Nat} {x1 x2 : Int32} (hPP : ∀ o, stt o = true → P o) (ho : stt o = true) (hc : oc o = 4) (h : wp_X4_stepsApart post o x1 x2 G) : Ct l yX4_stepsApart cX4_stepsApart 7 (some .int) 1 0 0 E P sd G [.ref (sd o 0), .int x1, .int x2] (pI post) := by
  refine ct_of (own := "MarkField$Register") (by decide) rfl (Nat.le_of_ble_eq_true rfl) hPP (fun X F T el eP es => ?_)
  subst el; subst eP; subst es
  have hP := F.P
  change AW E X 7 0 [(0, .ref (sdX X o 0)), (1, .int x1), (2, .int x2)] [] G 0 0
  refine aw_il_n F 1 dX4_stepsApart_0 rfl rfl ?_
  refine aw_is_n (lv1 := [(3, .int x1), (0, .ref (sdX X o 0)), (1, .int x1), (2, .int x2)]) F dX4_stepsApart_1 rfl (by decide) rfl ?_
  refine aw_ic F dX4_stepsApart_2 ic_0 ?_
  refine aw_is (lv1 := [(4, .int (0 : Int32)), (3, .int x1), (0, .ref (sdX X o 0)), (1, .int x1), (2, .int x2)]) F dX4_stepsApart_3 (by decide) rfl ?_
  refine aw_sub [2, 4, 1, 0] rfl ?_
  exact kl_X4_stepsApart_5 F T ho hc h
-- X4_sinceOf (height 1)
def j_X4_sinceOf_120 (post : Int32 → GH → Prop) (o : Nat) (v3 v4 : Int32) (G : GH) : Prop :=
  ((v4 ≤ v3 → post v4 G) ∧ (¬ v4 ≤ v3 → post (-1 : Int32) G))
def lb_X4_sinceOf_22 (post : Int32 → GH → Prop) (P8 : Int32 → Int32 → Int32 → Int32 → Int32 → GH → Prop) (o : Nat) (P22 : Int32 → Int32 → Int32 → Int32 → Int32 → Int32 → Int32 → GH → Prop) (v1 v2 v3 v4 v5 v6 v7 : Int32) (G : GH) : Prop :=
  (vp_in v1 13 ∧ (((G o 7 v1.toNatClampNeg) ≤ v7 → ((v4 = v6 → j_X4_sinceOf_120 post o v3 v4 G) ∧ (¬ v4 = v6 → P8 v1 v2 v3 v4 (v5 + (1 : Int32)) G))) ∧ (¬ (G o 7 v1.toNatClampNeg) ≤ v7 → wp_X4_useAt (fun (r_7 : Int32) (G_6 : GH) => (vp_in (r_7 + (1 : Int32)) 468 ∧ (∀ y_8 : Int32, y_8 = (G_6 o 8 (r_7 + (1 : Int32)).toNatClampNeg) → (vp_in r_7 468 ∧ (((G_6 o 8 r_7.toNatClampNeg) = v2 → ((v4 ≤ y_8 → P22 v1 v2 v3 v4 v5 v6 (v7 + (1 : Int32)) G_6) ∧ (¬ v4 ≤ y_8 → (vp_in (r_7 + (2 : Int32)) 468 ∧ ((((G_6 o 8 (r_7 + (2 : Int32)).toNatClampNeg) + (G_6 o 11 4)) < (v4 - (1 : Int32)) → P22 v1 v2 v3 v4 v5 v6 (v7 + (1 : Int32)) G_6) ∧ (¬ ((G_6 o 8 (r_7 + (2 : Int32)).toNatClampNeg) + (G_6 o 11 4)) < (v4 - (1 : Int32)) → P22 v1 v2 v3 y_8 v5 v6 (v7 + (1 : Int32)) G_6)))))) ∧ (¬ (G_6 o 8 r_7.toNatClampNeg) = v2 → P22 v1 v2 v3 v4 v5 v6 (v7 + (1 : Int32)) G_6)))))) o v1 v7 G)))
def lp_X4_sinceOf_22 (post : Int32 → GH → Prop) (P8 : Int32 → Int32 → Int32 → Int32 → Int32 → GH → Prop) (o : Nat) (v1 v2 v3 v4 v5 v6 v7 : Int32) (G : GH) : Prop := ∀ P22 : Int32 → Int32 → Int32 → Int32 → Int32 → Int32 → Int32 → GH → Prop, (∀ (v1 v2 v3 v4 v5 v6 v7 : Int32) (G : GH), lb_X4_sinceOf_22 post P8 o P22 v1 v2 v3 v4 v5 v6 v7 G → P22 v1 v2 v3 v4 v5 v6 v7 G) → P22 v1 v2 v3 v4 v5 v6 v7 G
def lb_X4_sinceOf_8 (post : Int32 → GH → Prop) (o : Nat) (P8 : Int32 → Int32 → Int32 → Int32 → Int32 → GH → Prop) (v1 v2 v3 v4 v5 : Int32) (G : GH) : Prop :=
  (((12 : Int32) < v5 → j_X4_sinceOf_120 post o v3 v4 G) ∧ (¬ (12 : Int32) < v5 → lp_X4_sinceOf_22 post P8 o v1 v2 v3 v4 v5 v4 (0 : Int32) G))
def lp_X4_sinceOf_8 (post : Int32 → GH → Prop) (o : Nat) (v1 v2 v3 v4 v5 : Int32) (G : GH) : Prop := ∀ P8 : Int32 → Int32 → Int32 → Int32 → Int32 → GH → Prop, (∀ (v1 v2 v3 v4 v5 : Int32) (G : GH), lb_X4_sinceOf_8 post o P8 v1 v2 v3 v4 v5 G → P8 v1 v2 v3 v4 v5 G) → P8 v1 v2 v3 v4 v5 G
def wp_X4_sinceOf (post : Int32 → GH → Prop) (o : Nat) (x1 x2 x3 : Int32) (G : GH) : Prop :=
  (∀ y_1 : Int32, y_1 = (x3 + (1 : Int32)) → lp_X4_sinceOf_8 post o x1 x2 x3 y_1 (0 : Int32) G)
set_option maxRecDepth 100000 in
set_option maxHeartbeats 4000000 in
theorem kj_X4_sinceOf_120 {E : Ev} {X : Cx} {post : Int32 → GH → Prop} {o : Nat} {v3 v4 : Int32} {G : GH} (F : Fx E X "MarkField$Register" cX4_sinceOf 10) (T : RT E X 1 0 0 (some .int) (pI post)) (ho : stt o = true) (hc : oc o = 4) (h : j_X4_sinceOf_120 post o v3 v4 G) : AW E X 10 120 [(3, .int v3), (4, .int v4)] [] G 0 0 := by
  have hP := F.P
  refine aw_il F 1 dX4_sinceOf_120 rfl ?_
  refine aw_il_n F 0 dX4_sinceOf_122 rfl rfl ?_
  refine aw_icmp_le (tgt := 130) F dX4_sinceOf_123 (by decide) (fun c_3 => ?_) (fun c_3 => ?_)
  · replace h := h.1 c_3
    refine aw_il F 1 dX4_sinceOf_130 rfl ?_
    exact aw_iret F T (Nat.le_of_ble_eq_true rfl) (Nat.le_of_ble_eq_true rfl) ⟨_, rfl, h⟩ dX4_sinceOf_132
  · replace h := h.2 c_3
    refine aw_ic F dX4_sinceOf_126 ic_m1 ?_
    refine aw_go (tgt := 132) F dX4_sinceOf_127 (by decide) ?_
    exact aw_iret F T (Nat.le_of_ble_eq_true rfl) (Nat.le_of_ble_eq_true rfl) ⟨_, rfl, h⟩ dX4_sinceOf_132
set_option maxRecDepth 100000 in
set_option maxHeartbeats 4000000 in
theorem kl_X4_sinceOf_22 {E : Ev} {X : Cx} {post : Int32 → GH → Prop} {P8 : Int32 → Int32 → Int32 → Int32 → Int32 → GH → Prop} {o : Nat} {v1 v2 v3 v4 v5 v6 v7 : Int32} {G : GH} (F : Fx E X "MarkField$Register" cX4_sinceOf 10) (T : RT E X 1 0 0 (some .int) (pI post)) (ho : stt o = true) (hc : oc o = 4) (K8 : ∀ (v1 v2 v3 v4 v5 : Int32) (G : GH), P8 v1 v2 v3 v4 v5 G → AW E X 10 8 [(0, .ref (sdX X o 0)), (1, .int v1), (2, .int v2), (3, .int v3), (4, .int v4), (5, .int v5)] [] G 0 0) (h : lp_X4_sinceOf_22 post P8 o v1 v2 v3 v4 v5 v6 v7 G) : AW E X 10 22 [(0, .ref (sdX X o 0)), (1, .int v1), (2, .int v2), (3, .int v3), (4, .int v4), (5, .int v5), (6, .int v6), (7, .int v7)] [] G 0 0 := by
  have hP := F.P
  have K22 : ∀ (v1 v2 v3 v4 v5 v6 v7 : Int32) (G : GH), AW E X 10 22 [(0, .ref (sdX X o 0)), (1, .int v1), (2, .int v2), (3, .int v3), (4, .int v4), (5, .int v5), (6, .int v6), (7, .int v7)] [] G 0 0 → AW E X 10 22 [(0, .ref (sdX X o 0)), (1, .int v1), (2, .int v2), (3, .int v3), (4, .int v4), (5, .int v5), (6, .int v6), (7, .int v7)] [] G 0 0 := fun _ _ _ _ _ _ _ _ q => q
  refine h (fun (v1 v2 v3 v4 v5 v6 v7 : Int32) (G : GH) => AW E X 10 22 [(0, .ref (sdX X o 0)), (1, .int v1), (2, .int v2), (3, .int v3), (4, .int v4), (5, .int v5), (6, .int v6), (7, .int v7)] [] G 0 0) (fun (v1 v2 v3 v4 v5 v6 v7 : Int32) (G : GH) h => ?_)
  refine aw_il F 7 dX4_sinceOf_22 rfl ?_
  refine aw_al_n F 0 dX4_sinceOf_24 rfl rfl ?_
  refine gr4_6 F (lo_s ho) (hP _ ho) hc w_104 (hP _ ho) dX4_sinceOf_25 ?_
  refine aw_il_n F 1 dX4_sinceOf_28 rfl rfl ?_
  refine aw_iald F o 7 (lo_s ho) (hP _ ho) (al_of hc rfl) h.1 dX4_sinceOf_29 ?_
  replace h := h.2
  refine aw_icmp_ge (tgt := 104) F dX4_sinceOf_30 (by decide) (fun c_4 => ?_) (fun c_4 => ?_)
  · replace h := h.1 c_4
    refine aw_il F 4 dX4_sinceOf_104 rfl ?_
    refine aw_il F 6 dX4_sinceOf_106 rfl ?_
    refine aw_icmp_ne (tgt := 114) F dX4_sinceOf_108 (by decide) (fun c_5 => ?_) (fun c_5 => ?_)
    · replace h := h.2 c_5
      refine aw_inc (lv1 := [(5, .int (v5 + (1 : Int32))), (0, .ref (sdX X o 0)), (1, .int v1), (2, .int v2), (3, .int v3), (4, .int v4), (6, .int v6), (7, .int v7)]) F 5 dX4_sinceOf_114 rfl (in_1 _) (by decide) rfl ?_
      refine aw_go (tgt := 8) F dX4_sinceOf_117 (by decide) ?_
      refine aw_sub [1, 2, 3, 4, 5, 0] rfl ?_
      exact K8 _ _ _ _ _ _ h
    · replace h := h.1 c_5
      refine aw_go (tgt := 120) F dX4_sinceOf_111 (by decide) ?_
      refine aw_sub [3, 4] rfl ?_
      exact kj_X4_sinceOf_120 F T ho hc h
  · replace h := h.2 c_4
    refine aw_al_n F 0 dX4_sinceOf_33 rfl rfl ?_
    refine aw_il_n F 1 dX4_sinceOf_34 rfl rfl ?_
    refine aw_il F 7 dX4_sinceOf_35 rfl ?_
    refine aw_cVi (stk := []) F T.room [.int v1, .int v7] (k_X4_useAt hP ho hc h) mv_X4_useAt w_591 cf4 (lo_s ho) (hP _ ho) hc (by decide) rfl rfl (Nat.le_of_ble_eq_true rfl) ⟨(Nat.le_of_ble_eq_true rfl), (Nat.le_of_ble_eq_true rfl)⟩ ⟨(Nat.le_of_ble_eq_true rfl), (Nat.le_of_ble_eq_true rfl)⟩ dX4_sinceOf_37 (fun r_7 G_6 h => ?_)
    refine aw_is (lv1 := [(8, .int r_7), (0, .ref (sdX X o 0)), (1, .int v1), (2, .int v2), (3, .int v3), (4, .int v4), (5, .int v5), (6, .int v6), (7, .int v7)]) F dX4_sinceOf_40 (by decide) rfl ?_
    refine aw_al_n F 1 dX4_sinceOf_42 rfl rfl ?_
    refine gr4_7 F (lo_s ho) (hP _ ho) hc w_108 (hP _ ho) dX4_sinceOf_43 ?_
    refine aw_il F 0 dX4_sinceOf_46 rfl ?_
    refine aw_ic F dX4_sinceOf_48 ic_1 ?_
    refine aw_iadd F dX4_sinceOf_49 ?_
    refine aw_iald F o 8 (lo_s ho) (hP _ ho) (al_of hc rfl) h.1 dX4_sinceOf_50 ?_
    replace h := h.2
    refine aw_top (fun y_8 ey_8 => ?_)
    replace h := h y_8 ey_8
    refine aw_is (lv1 := [(9, .int y_8), (8, .int r_7), (0, .ref (sdX X o 0)), (1, .int v1), (2, .int v2), (3, .int v3), (4, .int v4), (5, .int v5), (6, .int v6), (7, .int v7)]) F dX4_sinceOf_51 (by decide) rfl ?_
    refine aw_al_n F 2 dX4_sinceOf_53 rfl rfl ?_
    refine gr4_7 F (lo_s ho) (hP _ ho) hc w_108 (hP _ ho) dX4_sinceOf_54 ?_
    refine aw_il F 1 dX4_sinceOf_57 rfl ?_
    refine aw_iald F o 8 (lo_s ho) (hP _ ho) (al_of hc rfl) h.1 dX4_sinceOf_59 ?_
    replace h := h.2
    refine aw_il_n F 4 dX4_sinceOf_60 rfl rfl ?_
    refine aw_icmp_ne (tgt := 98) F dX4_sinceOf_61 (by decide) (fun c_9 => ?_) (fun c_9 => ?_)
    · replace h := h.2 c_9
      refine aw_inc (lv1 := [(7, .int (v7 + (1 : Int32))), (9, .int y_8), (8, .int r_7), (0, .ref (sdX X o 0)), (1, .int v1), (2, .int v2), (3, .int v3), (4, .int v4), (5, .int v5), (6, .int v6)]) F 9 dX4_sinceOf_98 rfl (in_1 _) (by decide) rfl ?_
      refine aw_go (tgt := 22) F dX4_sinceOf_101 (by decide) ?_
      refine aw_sub [3, 4, 5, 6, 7, 8, 9, 0] rfl ?_
      exact K22 _ _ _ _ _ _ _ _ h
    · replace h := h.1 c_9
      refine aw_il F 0 dX4_sinceOf_64 rfl ?_
      refine aw_il F 6 dX4_sinceOf_66 rfl ?_
      refine aw_icmp_ge (tgt := 98) F dX4_sinceOf_68 (by decide) (fun c_10 => ?_) (fun c_10 => ?_)
      · replace h := h.1 c_10
        refine aw_inc (lv1 := [(7, .int (v7 + (1 : Int32))), (9, .int y_8), (8, .int r_7), (0, .ref (sdX X o 0)), (1, .int v1), (2, .int v2), (3, .int v3), (4, .int v4), (5, .int v5), (6, .int v6)]) F 9 dX4_sinceOf_98 rfl (in_1 _) (by decide) rfl ?_
        refine aw_go (tgt := 22) F dX4_sinceOf_101 (by decide) ?_
        refine aw_sub [3, 4, 5, 6, 7, 8, 9, 0] rfl ?_
        exact K22 _ _ _ _ _ _ _ _ h
      · replace h := h.2 c_10
        refine aw_al_n F 2 dX4_sinceOf_71 rfl rfl ?_
        refine gr4_7 F (lo_s ho) (hP _ ho) hc w_108 (hP _ ho) dX4_sinceOf_72 ?_
        refine aw_il F 1 dX4_sinceOf_75 rfl ?_
        refine aw_ic F dX4_sinceOf_77 ic_2 ?_
        refine aw_iadd F dX4_sinceOf_78 ?_
        refine aw_iald F o 8 (lo_s ho) (hP _ ho) (al_of hc rfl) h.1 dX4_sinceOf_79 ?_
        replace h := h.2
        refine aw_al_n F 2 dX4_sinceOf_80 rfl rfl ?_
        refine gr4_10 F (lo_s ho) (hP _ ho) hc w_117 (hP _ ho) dX4_sinceOf_81 ?_
        refine aw_ic F dX4_sinceOf_84 ic_4 ?_
        refine aw_ialdL F o 11 (lo_s ho) (hP _ ho) (al_of hc rfl) (vin_l rfl) tn_4 dX4_sinceOf_85 ?_
        refine aw_iadd F dX4_sinceOf_86 ?_
        refine aw_il F 6 dX4_sinceOf_87 rfl ?_
        refine aw_ic F dX4_sinceOf_89 ic_1 ?_
        refine aw_isub F dX4_sinceOf_90 ?_
        refine aw_icmp_lt (tgt := 98) F dX4_sinceOf_91 (by decide) (fun c_11 => ?_) (fun c_11 => ?_)
        · replace h := h.1 c_11
          refine aw_inc (lv1 := [(7, .int (v7 + (1 : Int32))), (9, .int y_8), (8, .int r_7), (0, .ref (sdX X o 0)), (1, .int v1), (2, .int v2), (3, .int v3), (4, .int v4), (5, .int v5), (6, .int v6)]) F 9 dX4_sinceOf_98 rfl (in_1 _) (by decide) rfl ?_
          refine aw_go (tgt := 22) F dX4_sinceOf_101 (by decide) ?_
          refine aw_sub [3, 4, 5, 6, 7, 8, 9, 0] rfl ?_
          exact K22 _ _ _ _ _ _ _ _ h
        · replace h := h.2 c_11
          refine aw_il F 0 dX4_sinceOf_94 rfl ?_
          refine aw_is (lv1 := [(4, .int y_8), (9, .int y_8), (8, .int r_7), (0, .ref (sdX X o 0)), (1, .int v1), (2, .int v2), (3, .int v3), (5, .int v5), (6, .int v6), (7, .int v7)]) F dX4_sinceOf_96 (by decide) rfl ?_
          refine aw_inc (lv1 := [(7, .int (v7 + (1 : Int32))), (4, .int y_8), (9, .int y_8), (8, .int r_7), (0, .ref (sdX X o 0)), (1, .int v1), (2, .int v2), (3, .int v3), (5, .int v5), (6, .int v6)]) F 9 dX4_sinceOf_98 rfl (in_1 _) (by decide) rfl ?_
          refine aw_go (tgt := 22) F dX4_sinceOf_101 (by decide) ?_
          refine aw_sub [4, 5, 6, 7, 1, 8, 9, 0] rfl ?_
          exact K22 _ _ _ _ _ _ _ _ h
set_option maxRecDepth 100000 in
set_option maxHeartbeats 4000000 in
theorem kl_X4_sinceOf_8 {E : Ev} {X : Cx} {post : Int32 → GH → Prop} {o : Nat} {v1 v2 v3 v4 v5 : Int32} {G : GH} (F : Fx E X "MarkField$Register" cX4_sinceOf 10) (T : RT E X 1 0 0 (some .int) (pI post)) (ho : stt o = true) (hc : oc o = 4) (h : lp_X4_sinceOf_8 post o v1 v2 v3 v4 v5 G) : AW E X 10 8 [(0, .ref (sdX X o 0)), (1, .int v1), (2, .int v2), (3, .int v3), (4, .int v4), (5, .int v5)] [] G 0 0 := by
  have hP := F.P
  have K8 : ∀ (v1 v2 v3 v4 v5 : Int32) (G : GH), AW E X 10 8 [(0, .ref (sdX X o 0)), (1, .int v1), (2, .int v2), (3, .int v3), (4, .int v4), (5, .int v5)] [] G 0 0 → AW E X 10 8 [(0, .ref (sdX X o 0)), (1, .int v1), (2, .int v2), (3, .int v3), (4, .int v4), (5, .int v5)] [] G 0 0 := fun _ _ _ _ _ _ q => q
  refine h (fun (v1 v2 v3 v4 v5 : Int32) (G : GH) => AW E X 10 8 [(0, .ref (sdX X o 0)), (1, .int v1), (2, .int v2), (3, .int v3), (4, .int v4), (5, .int v5)] [] G 0 0) (fun (v1 v2 v3 v4 v5 : Int32) (G : GH) h => ?_)
  refine aw_il F 5 dX4_sinceOf_8 rfl ?_
  refine aw_bi F dX4_sinceOf_10 bi_12 ?_
  refine aw_icmp_gt (tgt := 120) F dX4_sinceOf_12 (by decide) (fun c_2 => ?_) (fun c_2 => ?_)
  · replace h := h.1 c_2
    refine aw_sub [3, 4] rfl ?_
    exact kj_X4_sinceOf_120 F T ho hc h
  · replace h := h.2 c_2
    refine aw_il F 4 dX4_sinceOf_15 rfl ?_
    refine aw_is (lv1 := [(6, .int v4), (0, .ref (sdX X o 0)), (1, .int v1), (2, .int v2), (3, .int v3), (4, .int v4), (5, .int v5)]) F dX4_sinceOf_17 (by decide) rfl ?_
    refine aw_ic F dX4_sinceOf_19 ic_0 ?_
    refine aw_is (lv1 := [(7, .int (0 : Int32)), (6, .int v4), (0, .ref (sdX X o 0)), (1, .int v1), (2, .int v2), (3, .int v3), (4, .int v4), (5, .int v5)]) F dX4_sinceOf_20 (by decide) rfl ?_
    refine aw_sub [2, 3, 4, 5, 6, 7, 1, 0] rfl ?_
    exact kl_X4_sinceOf_22 F T ho hc K8 h
set_option maxRecDepth 100000 in
set_option maxHeartbeats 4000000 in
theorem k_X4_sinceOf {l : Launch} {E : Ev} {P : Nat → Prop} {sd : Nat → Nat → Nat} {G : GH} {post : Int32 → GH → Prop} {o : Nat} {x1 x2 x3 : Int32} (hPP : ∀ o, stt o = true → P o) (ho : stt o = true) (hc : oc o = 4) (h : wp_X4_sinceOf post o x1 x2 x3 G) : Ct l yX4_sinceOf cX4_sinceOf 10 (some .int) 1 0 0 E P sd G [.ref (sd o 0), .int x1, .int x2, .int x3] (pI post) := by
  refine ct_of (own := "MarkField$Register") (by decide) rfl (Nat.le_of_ble_eq_true rfl) hPP (fun X F T el eP es => ?_)
  subst el; subst eP; subst es
  have hP := F.P
  change AW E X 10 0 [(0, .ref (sdX X o 0)), (1, .int x1), (2, .int x2), (3, .int x3)] [] G 0 0
  refine aw_il_n F 3 dX4_sinceOf_0 rfl rfl ?_
  refine aw_ic F dX4_sinceOf_1 ic_1 ?_
  refine aw_iadd F dX4_sinceOf_2 ?_
  refine aw_top (fun y_1 ey_1 => ?_)
  replace h := h y_1 ey_1
  refine aw_is (lv1 := [(4, .int y_1), (0, .ref (sdX X o 0)), (1, .int x1), (2, .int x2), (3, .int x3)]) F dX4_sinceOf_3 (by decide) rfl ?_
  refine aw_ic F dX4_sinceOf_5 ic_0 ?_
  refine aw_is (lv1 := [(5, .int (0 : Int32)), (4, .int y_1), (0, .ref (sdX X o 0)), (1, .int x1), (2, .int x2), (3, .int x3)]) F dX4_sinceOf_6 (by decide) rfl ?_
  refine aw_sub [2, 3, 4, 5, 1, 0] rfl ?_
  exact kl_X4_sinceOf_8 F T ho hc h
-- X4_priorityOf (height 2)
def wp_X4_priorityOf (post : Int32 → GH → Prop) (o : Nat) (x1 x2 x3 : Int32) (G : GH) : Prop :=
  wp_X4_sinceOf (fun (r_2 : Int32) (G_1 : GH) => (vp_in x1 13 ∧ (((G_1 o 3 x1.toNatClampNeg) ≤ x3 → ((r_2 = (-1 : Int32) → (vp_in x1 13 ∧ post (G_1 o 3 x1.toNatClampNeg) G_1)) ∧ (¬ r_2 = (-1 : Int32) → (vp_in x1 13 ∧ post (imin r_2 (G_1 o 3 x1.toNatClampNeg)) G_1)))) ∧ (¬ (G_1 o 3 x1.toNatClampNeg) ≤ x3 → post r_2 G_1)))) o x1 x2 x3 G
set_option maxRecDepth 100000 in
set_option maxHeartbeats 4000000 in
theorem k_X4_priorityOf {l : Launch} {E : Ev} {P : Nat → Prop} {sd : Nat → Nat → Nat} {G : GH} {post : Int32 → GH → Prop} {o : Nat} {x1 x2 x3 : Int32} (hPP : ∀ o, stt o = true → P o) (ho : stt o = true) (hc : oc o = 4) (h : wp_X4_priorityOf post o x1 x2 x3 G) : Ct l yX4_priorityOf cX4_priorityOf 5 (some .int) 2 0 0 E P sd G [.ref (sd o 0), .int x1, .int x2, .int x3] (pI post) := by
  refine ct_of (own := "MarkField$Register") (by decide) rfl (Nat.le_of_ble_eq_true rfl) hPP (fun X F T el eP es => ?_)
  subst el; subst eP; subst es
  have hP := F.P
  change AW E X 5 0 [(0, .ref (sdX X o 0)), (1, .int x1), (2, .int x2), (3, .int x3)] [] G 0 0
  refine aw_al_n F 0 dX4_priorityOf_0 rfl rfl ?_
  refine aw_il_n F 1 dX4_priorityOf_1 rfl rfl ?_
  refine aw_il_n F 2 dX4_priorityOf_2 rfl rfl ?_
  refine aw_il_n F 3 dX4_priorityOf_3 rfl rfl ?_
  refine aw_cVi (stk := []) F T.room [.int x1, .int x2, .int x3] (k_X4_sinceOf hP ho hc h) mv_X4_sinceOf w_837 cf4 (lo_s ho) (hP _ ho) hc (by decide) rfl rfl (Nat.le_of_ble_eq_true rfl) ⟨(Nat.le_of_ble_eq_true rfl), (Nat.le_of_ble_eq_true rfl)⟩ ⟨(Nat.le_of_ble_eq_true rfl), (Nat.le_of_ble_eq_true rfl)⟩ dX4_priorityOf_4 (fun r_2 G_1 h => ?_)
  refine aw_is (lv1 := [(4, .int r_2), (0, .ref (sdX X o 0)), (1, .int x1), (2, .int x2), (3, .int x3)]) F dX4_priorityOf_7 (by decide) rfl ?_
  refine aw_al_n F 1 dX4_priorityOf_9 rfl rfl ?_
  refine gr4_2 F (lo_s ho) (hP _ ho) hc w_89 (hP _ ho) dX4_priorityOf_10 ?_
  refine aw_il_n F 2 dX4_priorityOf_13 rfl rfl ?_
  refine aw_iald F o 3 (lo_s ho) (hP _ ho) (al_of hc rfl) h.1 dX4_priorityOf_14 ?_
  replace h := h.2
  refine aw_il_n F 4 dX4_priorityOf_15 rfl rfl ?_
  refine aw_icmp_le (tgt := 22) F dX4_priorityOf_16 (by decide) (fun c_3 => ?_) (fun c_3 => ?_)
  · replace h := h.1 c_3
    refine aw_il F 0 dX4_priorityOf_22 rfl ?_
    refine aw_ic F dX4_priorityOf_24 ic_m1 ?_
    refine aw_icmp_ne (tgt := 37) F dX4_priorityOf_25 (by decide) (fun c_4 => ?_) (fun c_4 => ?_)
    · replace h := h.2 c_4
      refine aw_il F 0 dX4_priorityOf_37 rfl ?_
      refine aw_al_n F 1 dX4_priorityOf_39 rfl rfl ?_
      refine gr4_2 F (lo_s ho) (hP _ ho) hc w_89 (hP _ ho) dX4_priorityOf_40 ?_
      refine aw_il_n F 2 dX4_priorityOf_43 rfl rfl ?_
      refine aw_iald F o 3 (lo_s ho) (hP _ ho) (al_of hc rfl) h.1 dX4_priorityOf_44 ?_
      replace h := h.2
      refine aw_min F T.room w_838 w_479 w_16 w_480 (Nat.le_of_ble_eq_true rfl) (Nat.le_of_ble_eq_true rfl) ⟨(Nat.le_of_ble_eq_true rfl), (Nat.le_of_ble_eq_true rfl)⟩ dX4_priorityOf_45 ?_
      exact aw_iret F T (Nat.le_of_ble_eq_true rfl) (Nat.le_of_ble_eq_true rfl) ⟨_, rfl, h⟩ dX4_priorityOf_48
    · replace h := h.1 c_4
      refine aw_al_n F 1 dX4_priorityOf_28 rfl rfl ?_
      refine gr4_2 F (lo_s ho) (hP _ ho) hc w_89 (hP _ ho) dX4_priorityOf_29 ?_
      refine aw_il_n F 2 dX4_priorityOf_32 rfl rfl ?_
      refine aw_iald F o 3 (lo_s ho) (hP _ ho) (al_of hc rfl) h.1 dX4_priorityOf_33 ?_
      replace h := h.2
      refine aw_go (tgt := 48) F dX4_priorityOf_34 (by decide) ?_
      exact aw_iret F T (Nat.le_of_ble_eq_true rfl) (Nat.le_of_ble_eq_true rfl) ⟨_, rfl, h⟩ dX4_priorityOf_48
  · replace h := h.2 c_3
    refine aw_il F 0 dX4_priorityOf_19 rfl ?_
    exact aw_iret F T (Nat.le_of_ble_eq_true rfl) (Nat.le_of_ble_eq_true rfl) ⟨_, rfl, h⟩ dX4_priorityOf_21
-- X4_halvesWithPriority (height 3)
def lb_X4_halvesWithPriority_5 (post : Int32 → GH → Prop) (o : Nat) (P5 : Int32 → Int32 → Int32 → Int32 → GH → Prop) (v1 v2 v3 v4 : Int32) (G : GH) : Prop :=
  wp_X4_halfCount (fun (r_2 : Int32) (G_1 : GH) => ((r_2 ≤ v4 → post v3 G_1) ∧ (¬ r_2 ≤ v4 → wp_X4_priorityOf (fun (r_5 : Int32) (G_4 : GH) => ((r_5 = (-1 : Int32) → P5 v1 v2 v3 (v4 + (1 : Int32)) G_4) ∧ (¬ r_5 = (-1 : Int32) → (∀ y_7 : Int32, y_7 = (v3 ||| ((1 : Int32) <<< (v4 &&& 31))) → P5 v1 v2 y_7 (v4 + (1 : Int32)) G_4)))) o v1 v4 v2 G_1))) o G
def lp_X4_halvesWithPriority_5 (post : Int32 → GH → Prop) (o : Nat) (v1 v2 v3 v4 : Int32) (G : GH) : Prop := ∀ P5 : Int32 → Int32 → Int32 → Int32 → GH → Prop, (∀ (v1 v2 v3 v4 : Int32) (G : GH), lb_X4_halvesWithPriority_5 post o P5 v1 v2 v3 v4 G → P5 v1 v2 v3 v4 G) → P5 v1 v2 v3 v4 G
def wp_X4_halvesWithPriority (post : Int32 → GH → Prop) (o : Nat) (x1 x2 : Int32) (G : GH) : Prop :=
  lp_X4_halvesWithPriority_5 post o x1 x2 (0 : Int32) (0 : Int32) G
set_option maxRecDepth 100000 in
set_option maxHeartbeats 4000000 in
theorem kl_X4_halvesWithPriority_5 {E : Ev} {X : Cx} {post : Int32 → GH → Prop} {o : Nat} {v1 v2 v3 v4 : Int32} {G : GH} (F : Fx E X "MarkField$Register" cX4_halvesWithPriority 5) (T : RT E X 3 0 0 (some .int) (pI post)) (ho : stt o = true) (hc : oc o = 4) (h : lp_X4_halvesWithPriority_5 post o v1 v2 v3 v4 G) : AW E X 5 5 [(0, .ref (sdX X o 0)), (1, .int v1), (2, .int v2), (3, .int v3), (4, .int v4)] [] G 0 0 := by
  have hP := F.P
  have K5 : ∀ (v1 v2 v3 v4 : Int32) (G : GH), AW E X 5 5 [(0, .ref (sdX X o 0)), (1, .int v1), (2, .int v2), (3, .int v3), (4, .int v4)] [] G 0 0 → AW E X 5 5 [(0, .ref (sdX X o 0)), (1, .int v1), (2, .int v2), (3, .int v3), (4, .int v4)] [] G 0 0 := fun _ _ _ _ _ q => q
  refine h (fun (v1 v2 v3 v4 : Int32) (G : GH) => AW E X 5 5 [(0, .ref (sdX X o 0)), (1, .int v1), (2, .int v2), (3, .int v3), (4, .int v4)] [] G 0 0) (fun (v1 v2 v3 v4 : Int32) (G : GH) h => ?_)
  refine aw_il F 4 dX4_halvesWithPriority_5 rfl ?_
  refine aw_al_n F 0 dX4_halvesWithPriority_7 rfl rfl ?_
  refine aw_cVi (stk := [.int v4]) F T.room [] (k_X4_halfCount hP ho hc h) mv_X4_halfCount w_981 cf4 (lo_s ho) (hP _ ho) hc (by decide) rfl rfl (Nat.le_of_ble_eq_true rfl) ⟨(Nat.le_of_ble_eq_true rfl), (Nat.le_of_ble_eq_true rfl)⟩ ⟨(Nat.le_of_ble_eq_true rfl), (Nat.le_of_ble_eq_true rfl)⟩ dX4_halvesWithPriority_8 (fun r_2 G_1 h => ?_)
  refine aw_icmp_ge (tgt := 39) F dX4_halvesWithPriority_11 (by decide) (fun c_3 => ?_) (fun c_3 => ?_)
  · replace h := h.1 c_3
    refine aw_il_n F 3 dX4_halvesWithPriority_39 rfl rfl ?_
    exact aw_iret F T (Nat.le_of_ble_eq_true rfl) (Nat.le_of_ble_eq_true rfl) ⟨_, rfl, h⟩ dX4_halvesWithPriority_40
  · replace h := h.2 c_3
    refine aw_al_n F 0 dX4_halvesWithPriority_14 rfl rfl ?_
    refine aw_il_n F 1 dX4_halvesWithPriority_15 rfl rfl ?_
    refine aw_il F 4 dX4_halvesWithPriority_16 rfl ?_
    refine aw_il_n F 2 dX4_halvesWithPriority_18 rfl rfl ?_
    refine aw_cVi (stk := []) F T.room [.int v1, .int v4, .int v2] (k_X4_priorityOf hP ho hc h) mv_X4_priorityOf w_997 cf4 (lo_s ho) (hP _ ho) hc (by decide) rfl rfl (Nat.le_of_ble_eq_true rfl) ⟨(Nat.le_of_ble_eq_true rfl), (Nat.le_of_ble_eq_true rfl)⟩ ⟨(Nat.le_of_ble_eq_true rfl), (Nat.le_of_ble_eq_true rfl)⟩ dX4_halvesWithPriority_19 (fun r_5 G_4 h => ?_)
    refine aw_ic F dX4_halvesWithPriority_22 ic_m1 ?_
    refine aw_icmp_eq (tgt := 33) F dX4_halvesWithPriority_23 (by decide) (fun c_6 => ?_) (fun c_6 => ?_)
    · replace h := h.1 c_6
      refine aw_inc (lv1 := [(4, .int (v4 + (1 : Int32))), (0, .ref (sdX X o 0)), (1, .int v1), (2, .int v2), (3, .int v3)]) F 4 dX4_halvesWithPriority_33 rfl (in_1 _) (by decide) rfl ?_
      refine aw_go (tgt := 5) F dX4_halvesWithPriority_36 (by decide) ?_
      refine aw_sub [1, 2, 3, 4, 0] rfl ?_
      exact K5 _ _ _ _ _ h
    · replace h := h.2 c_6
      refine aw_il_n F 3 dX4_halvesWithPriority_26 rfl rfl ?_
      refine aw_ic F dX4_halvesWithPriority_27 ic_1 ?_
      refine aw_il F 4 dX4_halvesWithPriority_28 rfl ?_
      refine aw_ishl F dX4_halvesWithPriority_30 ?_
      refine aw_ior F dX4_halvesWithPriority_31 ?_
      refine aw_top (fun y_7 ey_7 => ?_)
      replace h := h y_7 ey_7
      refine aw_is_n (lv1 := [(3, .int y_7), (0, .ref (sdX X o 0)), (1, .int v1), (2, .int v2), (4, .int v4)]) F dX4_halvesWithPriority_32 rfl (by decide) rfl ?_
      refine aw_inc (lv1 := [(4, .int (v4 + (1 : Int32))), (3, .int y_7), (0, .ref (sdX X o 0)), (1, .int v1), (2, .int v2)]) F 4 dX4_halvesWithPriority_33 rfl (in_1 _) (by decide) rfl ?_
      refine aw_go (tgt := 5) F dX4_halvesWithPriority_36 (by decide) ?_
      refine aw_sub [2, 3, 4, 1, 0] rfl ?_
      exact K5 _ _ _ _ _ h
set_option maxRecDepth 100000 in
set_option maxHeartbeats 4000000 in
theorem k_X4_halvesWithPriority {l : Launch} {E : Ev} {P : Nat → Prop} {sd : Nat → Nat → Nat} {G : GH} {post : Int32 → GH → Prop} {o : Nat} {x1 x2 : Int32} (hPP : ∀ o, stt o = true → P o) (ho : stt o = true) (hc : oc o = 4) (h : wp_X4_halvesWithPriority post o x1 x2 G) : Ct l yX4_halvesWithPriority cX4_halvesWithPriority 5 (some .int) 3 0 0 E P sd G [.ref (sd o 0), .int x1, .int x2] (pI post) := by
  refine ct_of (own := "MarkField$Register") (by decide) rfl (Nat.le_of_ble_eq_true rfl) hPP (fun X F T el eP es => ?_)
  subst el; subst eP; subst es
  have hP := F.P
  change AW E X 5 0 [(0, .ref (sdX X o 0)), (1, .int x1), (2, .int x2)] [] G 0 0
  refine aw_ic F dX4_halvesWithPriority_0 ic_0 ?_
  refine aw_is_n (lv1 := [(3, .int (0 : Int32)), (0, .ref (sdX X o 0)), (1, .int x1), (2, .int x2)]) F dX4_halvesWithPriority_1 rfl (by decide) rfl ?_
  refine aw_ic F dX4_halvesWithPriority_2 ic_0 ?_
  refine aw_is (lv1 := [(4, .int (0 : Int32)), (3, .int (0 : Int32)), (0, .ref (sdX X o 0)), (1, .int x1), (2, .int x2)]) F dX4_halvesWithPriority_3 (by decide) rfl ?_
  refine aw_sub [2, 3, 4, 1, 0] rfl ?_
  exact kl_X4_halvesWithPriority_5 F T ho hc h
-- X4_sooner (height 0)
def wp_X4_sooner (post : Int32 → GH → Prop) (x0 x1 x2 : Int32) (G : GH) : Prop :=
  ((x1 ≤ x2 → post x0 G) ∧ (¬ x1 ≤ x2 → ((x0 ≤ x1 → post x0 G) ∧ (¬ x0 ≤ x1 → post x1 G))))
set_option maxRecDepth 100000 in
set_option maxHeartbeats 4000000 in
theorem k_X4_sooner {l : Launch} {E : Ev} {P : Nat → Prop} {sd : Nat → Nat → Nat} {G : GH} {post : Int32 → GH → Prop} {x0 x1 x2 : Int32} (hPP : ∀ o, stt o = true → P o) (h : wp_X4_sooner post x0 x1 x2 G) : Ct l yX4_sooner cX4_sooner 3 (some .int) 0 0 0 E P sd G [.int x0, .int x1, .int x2] (pI post) := by
  refine ct_of (own := "MarkField$Register") (by decide) rfl (Nat.le_of_ble_eq_true rfl) hPP (fun X F T el eP es => ?_)
  subst el; subst eP; subst es
  have hP := F.P
  change AW E X 3 0 [(0, .int x0), (1, .int x1), (2, .int x2)] [] G 0 0
  refine aw_il_n F 1 dX4_sooner_0 rfl rfl ?_
  refine aw_il_n F 2 dX4_sooner_1 rfl rfl ?_
  refine aw_icmp_le (tgt := 14) F dX4_sooner_2 (by decide) (fun c_1 => ?_) (fun c_1 => ?_)
  · replace h := h.1 c_1
    refine aw_il_n F 0 dX4_sooner_14 rfl rfl ?_
    exact aw_iret F T (Nat.le_of_ble_eq_true rfl) (Nat.le_of_ble_eq_true rfl) ⟨_, rfl, h⟩ dX4_sooner_15
  · replace h := h.2 c_1
    refine aw_il_n F 1 dX4_sooner_5 rfl rfl ?_
    refine aw_il_n F 0 dX4_sooner_6 rfl rfl ?_
    refine aw_icmp_ge (tgt := 14) F dX4_sooner_7 (by decide) (fun c_2 => ?_) (fun c_2 => ?_)
    · replace h := h.1 c_2
      refine aw_il_n F 0 dX4_sooner_14 rfl rfl ?_
      exact aw_iret F T (Nat.le_of_ble_eq_true rfl) (Nat.le_of_ble_eq_true rfl) ⟨_, rfl, h⟩ dX4_sooner_15
    · replace h := h.2 c_2
      refine aw_il_n F 1 dX4_sooner_10 rfl rfl ?_
      refine aw_go (tgt := 15) F dX4_sooner_11 (by decide) ?_
      exact aw_iret F T (Nat.le_of_ble_eq_true rfl) (Nat.le_of_ble_eq_true rfl) ⟨_, rfl, h⟩ dX4_sooner_15
-- X4_nextChange (height 1)
def lb_X4_nextChange_44 (post : Int32 → GH → Prop) (P8 : Int32 → Int32 → Int32 → Int32 → Int32 → GH → Prop) (o : Nat) (P44 : Int32 → Int32 → Int32 → Int32 → Int32 → Int32 → GH → Prop) (v1 v2 v3 v4 v5 v6 : Int32) (G : GH) : Prop :=
  (vp_in v5 13 ∧ (((G o 7 v5.toNatClampNeg) ≤ v6 → P8 v1 v2 v3 v4 (v5 + (1 : Int32)) G) ∧ (¬ (G o 7 v5.toNatClampNeg) ≤ v6 → wp_X4_useAt (fun (r_9 : Int32) (G_8 : GH) => (vp_in r_9 468 ∧ (((G_8 o 8 r_9.toNatClampNeg) = v1 → (vp_in (r_9 + (1 : Int32)) 468 ∧ wp_X4_sooner (fun (r_12 : Int32) (G_11 : GH) => (vp_in (r_9 + (2 : Int32)) 468 ∧ wp_X4_sooner (fun (r_14 : Int32) (G_13 : GH) => P44 v1 v2 v3 r_14 v5 (v6 + (1 : Int32)) G_13) r_12 (((G_11 o 8 (r_9 + (2 : Int32)).toNatClampNeg) + (G_11 o 11 4)) + (1 : Int32)) v2 G_11)) v4 (G_8 o 8 (r_9 + (1 : Int32)).toNatClampNeg) v2 G_8)) ∧ (¬ (G_8 o 8 r_9.toNatClampNeg) = v1 → P44 v1 v2 v3 v4 v5 (v6 + (1 : Int32)) G_8)))) o v5 v6 G)))
def lp_X4_nextChange_44 (post : Int32 → GH → Prop) (P8 : Int32 → Int32 → Int32 → Int32 → Int32 → GH → Prop) (o : Nat) (v1 v2 v3 v4 v5 v6 : Int32) (G : GH) : Prop := ∀ P44 : Int32 → Int32 → Int32 → Int32 → Int32 → Int32 → GH → Prop, (∀ (v1 v2 v3 v4 v5 v6 : Int32) (G : GH), lb_X4_nextChange_44 post P8 o P44 v1 v2 v3 v4 v5 v6 G → P44 v1 v2 v3 v4 v5 v6 G) → P44 v1 v2 v3 v4 v5 v6 G
def lb_X4_nextChange_8 (post : Int32 → GH → Prop) (o : Nat) (P8 : Int32 → Int32 → Int32 → Int32 → Int32 → GH → Prop) (v1 v2 v3 v4 v5 : Int32) (G : GH) : Prop :=
  (((G o 0 1) ≤ v5 → post v4 G) ∧ (¬ (G o 0 1) ≤ v5 → wp_X7_isIn (fun (b_3 : Bool) (G_2 : GH) => ((b_3 = false → P8 v1 v2 v3 v4 (v5 + (1 : Int32)) G_2) ∧ (b_3 = true → (vp_in v5 13 ∧ wp_X4_sooner (fun (r_6 : Int32) (G_5 : GH) => lp_X4_nextChange_44 post P8 o v1 v2 v3 r_6 v5 (0 : Int32) G_5) v4 (G_2 o 3 v5.toNatClampNeg) v2 G_2)))) v5 v3 G))
def lp_X4_nextChange_8 (post : Int32 → GH → Prop) (o : Nat) (v1 v2 v3 v4 v5 : Int32) (G : GH) : Prop := ∀ P8 : Int32 → Int32 → Int32 → Int32 → Int32 → GH → Prop, (∀ (v1 v2 v3 v4 v5 : Int32) (G : GH), lb_X4_nextChange_8 post o P8 v1 v2 v3 v4 v5 G → P8 v1 v2 v3 v4 v5 G) → P8 v1 v2 v3 v4 v5 G
def wp_X4_nextChange (post : Int32 → GH → Prop) (o : Nat) (x1 x2 x3 : Int32) (G : GH) : Prop :=
  lp_X4_nextChange_8 post o x1 x2 x3 (10000 : Int32) (0 : Int32) G
set_option maxRecDepth 100000 in
set_option maxHeartbeats 4000000 in
theorem kl_X4_nextChange_44 {E : Ev} {X : Cx} {post : Int32 → GH → Prop} {P8 : Int32 → Int32 → Int32 → Int32 → Int32 → GH → Prop} {o : Nat} {v1 v2 v3 v4 v5 v6 : Int32} {G : GH} (F : Fx E X "MarkField$Register" cX4_nextChange 8) (T : RT E X 1 0 0 (some .int) (pI post)) (ho : stt o = true) (hc : oc o = 4) (K8 : ∀ (v1 v2 v3 v4 v5 : Int32) (G : GH), P8 v1 v2 v3 v4 v5 G → AW E X 8 8 [(0, .ref (sdX X o 0)), (1, .int v1), (2, .int v2), (3, .int v3), (4, .int v4), (5, .int v5)] [] G 0 0) (h : lp_X4_nextChange_44 post P8 o v1 v2 v3 v4 v5 v6 G) : AW E X 8 44 [(0, .ref (sdX X o 0)), (1, .int v1), (2, .int v2), (3, .int v3), (4, .int v4), (5, .int v5), (6, .int v6)] [] G 0 0 := by
  have hP := F.P
  have K44 : ∀ (v1 v2 v3 v4 v5 v6 : Int32) (G : GH), AW E X 8 44 [(0, .ref (sdX X o 0)), (1, .int v1), (2, .int v2), (3, .int v3), (4, .int v4), (5, .int v5), (6, .int v6)] [] G 0 0 → AW E X 8 44 [(0, .ref (sdX X o 0)), (1, .int v1), (2, .int v2), (3, .int v3), (4, .int v4), (5, .int v5), (6, .int v6)] [] G 0 0 := fun _ _ _ _ _ _ _ q => q
  refine h (fun (v1 v2 v3 v4 v5 v6 : Int32) (G : GH) => AW E X 8 44 [(0, .ref (sdX X o 0)), (1, .int v1), (2, .int v2), (3, .int v3), (4, .int v4), (5, .int v5), (6, .int v6)] [] G 0 0) (fun (v1 v2 v3 v4 v5 v6 : Int32) (G : GH) h => ?_)
  refine aw_il F 6 dX4_nextChange_44 rfl ?_
  refine aw_al_n F 0 dX4_nextChange_46 rfl rfl ?_
  refine gr4_6 F (lo_s ho) (hP _ ho) hc w_104 (hP _ ho) dX4_nextChange_47 ?_
  refine aw_il F 5 dX4_nextChange_50 rfl ?_
  refine aw_iald F o 7 (lo_s ho) (hP _ ho) (al_of hc rfl) h.1 dX4_nextChange_52 ?_
  replace h := h.2
  refine aw_icmp_ge (tgt := 126) F dX4_nextChange_53 (by decide) (fun c_7 => ?_) (fun c_7 => ?_)
  · replace h := h.1 c_7
    refine aw_inc (lv1 := [(5, .int (v5 + (1 : Int32))), (0, .ref (sdX X o 0)), (1, .int v1), (2, .int v2), (3, .int v3), (4, .int v4), (6, .int v6)]) F 5 dX4_nextChange_126 rfl (in_1 _) (by decide) rfl ?_
    refine aw_go (tgt := 8) F dX4_nextChange_129 (by decide) ?_
    refine aw_sub [1, 2, 3, 4, 5, 0] rfl ?_
    exact K8 _ _ _ _ _ _ h
  · replace h := h.2 c_7
    refine aw_al_n F 0 dX4_nextChange_56 rfl rfl ?_
    refine aw_il F 5 dX4_nextChange_57 rfl ?_
    refine aw_il F 6 dX4_nextChange_59 rfl ?_
    refine aw_cVi (stk := []) F T.room [.int v5, .int v6] (k_X4_useAt hP ho hc h) mv_X4_useAt w_591 cf4 (lo_s ho) (hP _ ho) hc (by decide) rfl rfl (Nat.le_of_ble_eq_true rfl) ⟨(Nat.le_of_ble_eq_true rfl), (Nat.le_of_ble_eq_true rfl)⟩ ⟨(Nat.le_of_ble_eq_true rfl), (Nat.le_of_ble_eq_true rfl)⟩ dX4_nextChange_61 (fun r_9 G_8 h => ?_)
    refine aw_is (lv1 := [(7, .int r_9), (0, .ref (sdX X o 0)), (1, .int v1), (2, .int v2), (3, .int v3), (4, .int v4), (5, .int v5), (6, .int v6)]) F dX4_nextChange_64 (by decide) rfl ?_
    refine aw_al_n F 1 dX4_nextChange_66 rfl rfl ?_
    refine gr4_7 F (lo_s ho) (hP _ ho) hc w_108 (hP _ ho) dX4_nextChange_67 ?_
    refine aw_il F 0 dX4_nextChange_70 rfl ?_
    refine aw_iald F o 8 (lo_s ho) (hP _ ho) (al_of hc rfl) h.1 dX4_nextChange_72 ?_
    replace h := h.2
    refine aw_il_n F 2 dX4_nextChange_73 rfl rfl ?_
    refine aw_icmp_ne (tgt := 120) F dX4_nextChange_74 (by decide) (fun c_10 => ?_) (fun c_10 => ?_)
    · replace h := h.2 c_10
      refine aw_inc (lv1 := [(6, .int (v6 + (1 : Int32))), (7, .int r_9), (0, .ref (sdX X o 0)), (1, .int v1), (2, .int v2), (3, .int v3), (4, .int v4), (5, .int v5)]) F 7 dX4_nextChange_120 rfl (in_1 _) (by decide) rfl ?_
      refine aw_go (tgt := 44) F dX4_nextChange_123 (by decide) ?_
      refine aw_sub [2, 3, 4, 5, 6, 7, 0] rfl ?_
      exact K44 _ _ _ _ _ _ _ h
    · replace h := h.1 c_10
      refine aw_il F 5 dX4_nextChange_77 rfl ?_
      refine aw_al_n F 1 dX4_nextChange_79 rfl rfl ?_
      refine gr4_7 F (lo_s ho) (hP _ ho) hc w_108 (hP _ ho) dX4_nextChange_80 ?_
      refine aw_il F 0 dX4_nextChange_83 rfl ?_
      refine aw_ic F dX4_nextChange_85 ic_1 ?_
      refine aw_iadd F dX4_nextChange_86 ?_
      refine aw_iald F o 8 (lo_s ho) (hP _ ho) (al_of hc rfl) h.1 dX4_nextChange_87 ?_
      replace h := h.2
      refine aw_il_n F 3 dX4_nextChange_88 rfl rfl ?_
      refine aw_cSi (stk := []) F T.room [.int v4, .int (G_8 o 8 (r_9 + (1 : Int32)).toNatClampNeg), .int v2] (k_X4_sooner hP h) ms_X4_sooner w_928 rfl rfl (Nat.le_of_ble_eq_true rfl) ⟨(Nat.le_of_ble_eq_true rfl), (Nat.le_of_ble_eq_true rfl)⟩ ⟨(Nat.le_of_ble_eq_true rfl), (Nat.le_of_ble_eq_true rfl)⟩ dX4_nextChange_89 (fun r_12 G_11 h => ?_)
      refine aw_is (lv1 := [(4, .int r_12), (7, .int r_9), (0, .ref (sdX X o 0)), (1, .int v1), (2, .int v2), (3, .int v3), (5, .int v5), (6, .int v6)]) F dX4_nextChange_92 (by decide) rfl ?_
      refine aw_il F 0 dX4_nextChange_94 rfl ?_
      refine aw_al_n F 2 dX4_nextChange_96 rfl rfl ?_
      refine gr4_7 F (lo_s ho) (hP _ ho) hc w_108 (hP _ ho) dX4_nextChange_97 ?_
      refine aw_il F 1 dX4_nextChange_100 rfl ?_
      refine aw_ic F dX4_nextChange_102 ic_2 ?_
      refine aw_iadd F dX4_nextChange_103 ?_
      refine aw_iald F o 8 (lo_s ho) (hP _ ho) (al_of hc rfl) h.1 dX4_nextChange_104 ?_
      replace h := h.2
      refine aw_al_n F 2 dX4_nextChange_105 rfl rfl ?_
      refine gr4_10 F (lo_s ho) (hP _ ho) hc w_117 (hP _ ho) dX4_nextChange_106 ?_
      refine aw_ic F dX4_nextChange_109 ic_4 ?_
      refine aw_ialdL F o 11 (lo_s ho) (hP _ ho) (al_of hc rfl) (vin_l rfl) tn_4 dX4_nextChange_110 ?_
      refine aw_iadd F dX4_nextChange_111 ?_
      refine aw_ic F dX4_nextChange_112 ic_1 ?_
      refine aw_iadd F dX4_nextChange_113 ?_
      refine aw_il_n F 4 dX4_nextChange_114 rfl rfl ?_
      refine aw_cSi (stk := []) F T.room [.int r_12, .int (((G_11 o 8 (r_9 + (2 : Int32)).toNatClampNeg) + (G_11 o 11 4)) + (1 : Int32)), .int v2] (k_X4_sooner hP h) ms_X4_sooner w_928 rfl rfl (Nat.le_of_ble_eq_true rfl) ⟨(Nat.le_of_ble_eq_true rfl), (Nat.le_of_ble_eq_true rfl)⟩ ⟨(Nat.le_of_ble_eq_true rfl), (Nat.le_of_ble_eq_true rfl)⟩ dX4_nextChange_115 (fun r_14 G_13 h => ?_)
      refine aw_is (lv1 := [(4, .int r_14), (7, .int r_9), (0, .ref (sdX X o 0)), (1, .int v1), (2, .int v2), (3, .int v3), (5, .int v5), (6, .int v6)]) F dX4_nextChange_118 (by decide) rfl ?_
      refine aw_inc (lv1 := [(6, .int (v6 + (1 : Int32))), (4, .int r_14), (7, .int r_9), (0, .ref (sdX X o 0)), (1, .int v1), (2, .int v2), (3, .int v3), (5, .int v5)]) F 7 dX4_nextChange_120 rfl (in_1 _) (by decide) rfl ?_
      refine aw_go (tgt := 44) F dX4_nextChange_123 (by decide) ?_
      refine aw_sub [3, 4, 5, 6, 1, 7, 0] rfl ?_
      exact K44 _ _ _ _ _ _ _ h
set_option maxRecDepth 100000 in
set_option maxHeartbeats 4000000 in
theorem kl_X4_nextChange_8 {E : Ev} {X : Cx} {post : Int32 → GH → Prop} {o : Nat} {v1 v2 v3 v4 v5 : Int32} {G : GH} (F : Fx E X "MarkField$Register" cX4_nextChange 8) (T : RT E X 1 0 0 (some .int) (pI post)) (ho : stt o = true) (hc : oc o = 4) (h : lp_X4_nextChange_8 post o v1 v2 v3 v4 v5 G) : AW E X 8 8 [(0, .ref (sdX X o 0)), (1, .int v1), (2, .int v2), (3, .int v3), (4, .int v4), (5, .int v5)] [] G 0 0 := by
  have hP := F.P
  have K8 : ∀ (v1 v2 v3 v4 v5 : Int32) (G : GH), AW E X 8 8 [(0, .ref (sdX X o 0)), (1, .int v1), (2, .int v2), (3, .int v3), (4, .int v4), (5, .int v5)] [] G 0 0 → AW E X 8 8 [(0, .ref (sdX X o 0)), (1, .int v1), (2, .int v2), (3, .int v3), (4, .int v4), (5, .int v5)] [] G 0 0 := fun _ _ _ _ _ _ q => q
  refine h (fun (v1 v2 v3 v4 v5 : Int32) (G : GH) => AW E X 8 8 [(0, .ref (sdX X o 0)), (1, .int v1), (2, .int v2), (3, .int v3), (4, .int v4), (5, .int v5)] [] G 0 0) (fun (v1 v2 v3 v4 v5 : Int32) (G : GH) h => ?_)
  refine aw_il F 5 dX4_nextChange_8 rfl ?_
  refine aw_al_n F 0 dX4_nextChange_10 rfl rfl ?_
  refine gf4_1 F (lo_s ho) (hP _ ho) hc w_83 dX4_nextChange_11 ?_
  refine aw_icmp_ge (tgt := 132) F dX4_nextChange_14 (by decide) (fun c_1 => ?_) (fun c_1 => ?_)
  · replace h := h.1 c_1
    refine aw_il F 4 dX4_nextChange_132 rfl ?_
    exact aw_iret F T (Nat.le_of_ble_eq_true rfl) (Nat.le_of_ble_eq_true rfl) ⟨_, rfl, h⟩ dX4_nextChange_134
  · replace h := h.2 c_1
    refine aw_il F 5 dX4_nextChange_17 rfl ?_
    refine aw_il_n F 3 dX4_nextChange_19 rfl rfl ?_
    refine aw_cSNb (stk := []) F T.room [.int v5, .int v3] (k_X7_isIn hP h) ms_X7_isIn (by decide) rfl rfl (Nat.le_of_ble_eq_true rfl) ⟨(Nat.le_of_ble_eq_true rfl), (Nat.le_of_ble_eq_true rfl)⟩ ⟨(Nat.le_of_ble_eq_true rfl), (Nat.le_of_ble_eq_true rfl)⟩ dX4_nextChange_20 (fun b_3 G_2 h => ?_)
    refine aw_if_eq (tgt := 126) F dX4_nextChange_23 (by decide) (fun c_4 => ?_) (fun c_4 => ?_)
    · replace h := h.1 (bI_2 c_4)
      refine aw_inc (lv1 := [(5, .int (v5 + (1 : Int32))), (0, .ref (sdX X o 0)), (1, .int v1), (2, .int v2), (3, .int v3), (4, .int v4)]) F 5 dX4_nextChange_126 rfl (in_1 _) (by decide) rfl ?_
      refine aw_go (tgt := 8) F dX4_nextChange_129 (by decide) ?_
      refine aw_sub [1, 2, 3, 4, 5, 0] rfl ?_
      exact K8 _ _ _ _ _ _ h
    · replace h := h.2 (bI_1 c_4)
      refine aw_il F 4 dX4_nextChange_26 rfl ?_
      refine aw_al_n F 0 dX4_nextChange_28 rfl rfl ?_
      refine gr4_2 F (lo_s ho) (hP _ ho) hc w_89 (hP _ ho) dX4_nextChange_29 ?_
      refine aw_il F 5 dX4_nextChange_32 rfl ?_
      refine aw_iald F o 3 (lo_s ho) (hP _ ho) (al_of hc rfl) h.1 dX4_nextChange_34 ?_
      replace h := h.2
      refine aw_il_n F 2 dX4_nextChange_35 rfl rfl ?_
      refine aw_cSi (stk := []) F T.room [.int v4, .int (G_2 o 3 v5.toNatClampNeg), .int v2] (k_X4_sooner hP h) ms_X4_sooner w_928 rfl rfl (Nat.le_of_ble_eq_true rfl) ⟨(Nat.le_of_ble_eq_true rfl), (Nat.le_of_ble_eq_true rfl)⟩ ⟨(Nat.le_of_ble_eq_true rfl), (Nat.le_of_ble_eq_true rfl)⟩ dX4_nextChange_36 (fun r_6 G_5 h => ?_)
      refine aw_is (lv1 := [(4, .int r_6), (0, .ref (sdX X o 0)), (1, .int v1), (2, .int v2), (3, .int v3), (5, .int v5)]) F dX4_nextChange_39 (by decide) rfl ?_
      refine aw_ic F dX4_nextChange_41 ic_0 ?_
      refine aw_is (lv1 := [(6, .int (0 : Int32)), (4, .int r_6), (0, .ref (sdX X o 0)), (1, .int v1), (2, .int v2), (3, .int v3), (5, .int v5)]) F dX4_nextChange_42 (by decide) rfl ?_
      refine aw_sub [2, 3, 4, 5, 1, 6, 0] rfl ?_
      exact kl_X4_nextChange_44 F T ho hc K8 h
set_option maxRecDepth 100000 in
set_option maxHeartbeats 4000000 in
theorem k_X4_nextChange {l : Launch} {E : Ev} {P : Nat → Prop} {sd : Nat → Nat → Nat} {G : GH} {post : Int32 → GH → Prop} {o : Nat} {x1 x2 x3 : Int32} (hPP : ∀ o, stt o = true → P o) (ho : stt o = true) (hc : oc o = 4) (h : wp_X4_nextChange post o x1 x2 x3 G) : Ct l yX4_nextChange cX4_nextChange 8 (some .int) 1 0 0 E P sd G [.ref (sd o 0), .int x1, .int x2, .int x3] (pI post) := by
  refine ct_of (own := "MarkField$Register") (by decide) rfl (Nat.le_of_ble_eq_true rfl) hPP (fun X F T el eP es => ?_)
  subst el; subst eP; subst es
  have hP := F.P
  change AW E X 8 0 [(0, .ref (sdX X o 0)), (1, .int x1), (2, .int x2), (3, .int x3)] [] G 0 0
  refine aw_si F dX4_nextChange_0 si_10000 ?_
  refine aw_is (lv1 := [(4, .int (10000 : Int32)), (0, .ref (sdX X o 0)), (1, .int x1), (2, .int x2), (3, .int x3)]) F dX4_nextChange_3 (by decide) rfl ?_
  refine aw_ic F dX4_nextChange_5 ic_0 ?_
  refine aw_is (lv1 := [(5, .int (0 : Int32)), (4, .int (10000 : Int32)), (0, .ref (sdX X o 0)), (1, .int x1), (2, .int x2), (3, .int x3)]) F dX4_nextChange_6 (by decide) rfl ?_
  refine aw_sub [2, 3, 4, 5, 1, 0] rfl ?_
  exact kl_X4_nextChange_8 F T ho hc h
