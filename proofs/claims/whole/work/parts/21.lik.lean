theorem bi_13 : (Int8.ofInt (13)).toInt32 = (13 : Int32) := by decide
theorem bi_104 : (Int8.ofInt (104)).toInt32 = (104 : Int32) := by decide
theorem bi_99 : (Int8.ofInt (99)).toInt32 = (99 : Int32) := by decide
theorem bi_m2 : (Int8.ofInt (-2)).toInt32 = (-2 : Int32) := by decide
theorem bi_107 : (Int8.ofInt (107)).toInt32 = (107 : Int32) := by decide
theorem bi_9 : (Int8.ofInt (9)).toInt32 = (9 : Int32) := by decide
theorem bi_20 : (Int8.ofInt (20)).toInt32 = (20 : Int32) := by decide
theorem bi_101 : (Int8.ofInt (101)).toInt32 = (101 : Int32) := by decide
theorem bi_105 : (Int8.ofInt (105)).toInt32 = (105 : Int32) := by decide
theorem bi_121 : (Int8.ofInt (121)).toInt32 = (121 : Int32) := by decide
theorem bi_32 : (Int8.ofInt (32)).toInt32 = (32 : Int32) := by decide
theorem bi_120 : (Int8.ofInt (120)).toInt32 = (120 : Int32) := by decide
theorem tn_0 : (0 : Int32).toNatClampNeg = 0 := by decide
theorem bi_100 : (Int8.ofInt (100)).toInt32 = (100 : Int32) := by decide
theorem bi_50 : (Int8.ofInt (50)).toInt32 = (50 : Int32) := by decide
theorem ic_5 : Int32.ofInt (5) = (5 : Int32) := by decide
theorem tn_5 : (5 : Int32).toNatClampNeg = 5 := by decide
theorem tn_3 : (3 : Int32).toNatClampNeg = 3 := by decide
theorem tn_2 : (2 : Int32).toNatClampNeg = 2 := by decide
theorem tn_1 : (1 : Int32).toNatClampNeg = 1 := by decide
theorem w_686 : (Jvm.Cond.code ({ cls := "MarkField$Likeness", name := "pair", desc := "(II)I" } : Jvm.MethodName) prog_3_method_2_code (2 : Nat) (Option.some Jvm.ClassFile.FieldType.int)) ∈ tb := tb_of (List.mem_of_getElem? (i := 686) (by decide +kernel)) rfl
theorem w_6 : (Jvm.Cond.initialized "MarkField$Likeness") ∈ tb := tb_of (List.mem_of_getElem? (i := 6) (by decide +kernel)) rfl
theorem w_685 : (Jvm.Cond.static ({ cls := "MarkField$Likeness", name := "pair", desc := "(II)I" } : Jvm.MethodName)) ∈ tb := tb_of (List.mem_of_getElem? (i := 685) (by decide +kernel)) rfl
theorem w_684 : (Jvm.Cond.methodLink "MarkField$Likeness" (37 : Nat) ({ cls := "MarkField$Likeness", name := "pair", desc := "(II)I" } : Jvm.MethodName)) ∈ tb := tb_of (List.mem_of_getElem? (i := 684) (by decide +kernel)) rfl
theorem w_170 : (Jvm.Cond.fieldLink "MarkField$Likeness" (9 : Nat) "MarkField$Likeness" "sounds" "[B") ∈ tb := tb_of (List.mem_of_getElem? (i := 170) (by decide +kernel)) rfl
theorem w_955 : (Jvm.Cond.methodLink "MarkField$Likeness" (41 : Nat) ({ cls := "java/lang/System", name := "arraycopy", desc := "(Ljava/lang/Object;ILjava/lang/Object;II)V" } : Jvm.MethodName)) ∈ tb := tb_of (List.mem_of_getElem? (i := 955) (by decide +kernel)) rfl
theorem w_172 : (Jvm.Cond.fieldLink "MarkField$Likeness" (15 : Nat) "MarkField$Likeness" "soundCounts" "[I") ∈ tb := tb_of (List.mem_of_getElem? (i := 172) (by decide +kernel)) rfl
theorem w_175 : (Jvm.Cond.fieldLink "MarkField$Likeness" (19 : Nat) "MarkField$Likeness" "byLetters" "[I") ∈ tb := tb_of (List.mem_of_getElem? (i := 175) (by decide +kernel)) rfl
theorem w_177 : (Jvm.Cond.fieldLink "MarkField$Likeness" (22 : Nat) "MarkField$Likeness" "bySounds" "[I") ∈ tb := tb_of (List.mem_of_getElem? (i := 177) (by decide +kernel)) rfl
theorem w_179 : (Jvm.Cond.fieldLink "MarkField$Likeness" (25 : Nat) "MarkField$Likeness" "apart" "[I") ∈ tb := tb_of (List.mem_of_getElem? (i := 179) (by decide +kernel)) rfl
theorem w_181 : (Jvm.Cond.fieldLink "MarkField$Likeness" (28 : Nat) "MarkField$Likeness" "fields" "[I") ∈ tb := tb_of (List.mem_of_getElem? (i := 181) (by decide +kernel)) rfl
theorem w_182 : (Jvm.Cond.fieldLink "MarkField$Likeness" (31 : Nat) "MarkField$Likeness" "alike" "[I") ∈ tb := tb_of (List.mem_of_getElem? (i := 182) (by decide +kernel)) rfl
theorem w_99 : (Jvm.Cond.fieldLink "MarkField$Likeness" (64 : Nat) "MarkField$Register" "lengths" "[I") ∈ tb := tb_of (List.mem_of_getElem? (i := 99) (by decide +kernel)) rfl
theorem w_102 : (Jvm.Cond.fieldLink "MarkField$Likeness" (67 : Nat) "MarkField$Register" "letters" "[B") ∈ tb := tb_of (List.mem_of_getElem? (i := 102) (by decide +kernel)) rfl
theorem w_649 : (Jvm.Cond.code ({ cls := "MarkField$Likeness", name := "soundOfTwo", desc := "(CC)I" } : Jvm.MethodName) prog_3_method_8_code (2 : Nat) (Option.some Jvm.ClassFile.FieldType.int)) ∈ tb := tb_of (List.mem_of_getElem? (i := 649) (by decide +kernel)) rfl
theorem w_648 : (Jvm.Cond.static ({ cls := "MarkField$Likeness", name := "soundOfTwo", desc := "(CC)I" } : Jvm.MethodName)) ∈ tb := tb_of (List.mem_of_getElem? (i := 648) (by decide +kernel)) rfl
theorem w_647 : (Jvm.Cond.methodLink "MarkField$Likeness" (70 : Nat) ({ cls := "MarkField$Likeness", name := "soundOfTwo", desc := "(CC)I" } : Jvm.MethodName)) ∈ tb := tb_of (List.mem_of_getElem? (i := 647) (by decide +kernel)) rfl
theorem w_656 : (Jvm.Cond.code ({ cls := "MarkField$Likeness", name := "soundOfOne", desc := "(CCZ)I" } : Jvm.MethodName) prog_3_method_9_code (4 : Nat) (Option.some Jvm.ClassFile.FieldType.int)) ∈ tb := tb_of (List.mem_of_getElem? (i := 656) (by decide +kernel)) rfl
theorem w_655 : (Jvm.Cond.static ({ cls := "MarkField$Likeness", name := "soundOfOne", desc := "(CCZ)I" } : Jvm.MethodName)) ∈ tb := tb_of (List.mem_of_getElem? (i := 655) (by decide +kernel)) rfl
theorem w_654 : (Jvm.Cond.methodLink "MarkField$Likeness" (78 : Nat) ({ cls := "MarkField$Likeness", name := "soundOfOne", desc := "(CCZ)I" } : Jvm.MethodName)) ∈ tb := tb_of (List.mem_of_getElem? (i := 654) (by decide +kernel)) rfl
theorem w_653 : (Jvm.Cond.code ({ cls := "MarkField$Likeness", name := "addSound", desc := "(II)V" } : Jvm.MethodName) prog_3_method_10_code (6 : Nat) (Option.none : Option Jvm.ClassFile.FieldType)) ∈ tb := tb_of (List.mem_of_getElem? (i := 653) (by decide +kernel)) rfl
theorem w_652 : (Jvm.Cond.instanceMethod ({ cls := "MarkField$Likeness", name := "addSound", desc := "(II)V" } : Jvm.MethodName)) ∈ tb := tb_of (List.mem_of_getElem? (i := 652) (by decide +kernel)) rfl
theorem ws_12 : (Jvm.Cond.selects "MarkField$Likeness" ({ cls := "MarkField$Likeness", name := "addSound", desc := "(II)V" } : Jvm.MethodName) ({ cls := "MarkField$Likeness", name := "addSound", desc := "(II)V" } : Jvm.MethodName)) ∈ tb := tb_sel (List.mem_of_getElem? (i := 12) (by decide +kernel)) rfl
theorem w_650 : (Jvm.Cond.methodLink "MarkField$Likeness" (74 : Nat) ({ cls := "MarkField$Likeness", name := "addSound", desc := "(II)V" } : Jvm.MethodName)) ∈ tb := tb_of (List.mem_of_getElem? (i := 650) (by decide +kernel)) rfl
theorem w_185 : (Jvm.Cond.fieldLink "MarkField$Likeness" (34 : Nat) "MarkField$Likeness" "costs" "[I") ∈ tb := tb_of (List.mem_of_getElem? (i := 185) (by decide +kernel)) rfl
theorem w_676 : (Jvm.Cond.methodLink "MarkField$Likeness" (107 : Nat) ({ cls := "java/lang/Math", name := "min", desc := "(II)I" } : Jvm.MethodName)) ∈ tb := tb_of (List.mem_of_getElem? (i := 676) (by decide +kernel)) rfl
theorem w_680 : (Jvm.Cond.code ({ cls := "MarkField$Likeness", name := "costOf", desc := "([BIIII[I)I" } : Jvm.MethodName) prog_3_method_14_code (17 : Nat) (Option.some Jvm.ClassFile.FieldType.int)) ∈ tb := tb_of (List.mem_of_getElem? (i := 680) (by decide +kernel)) rfl
theorem w_679 : (Jvm.Cond.instanceMethod ({ cls := "MarkField$Likeness", name := "costOf", desc := "([BIIII[I)I" } : Jvm.MethodName)) ∈ tb := tb_of (List.mem_of_getElem? (i := 679) (by decide +kernel)) rfl
theorem ws_15 : (Jvm.Cond.selects "MarkField$Likeness" ({ cls := "MarkField$Likeness", name := "costOf", desc := "([BIIII[I)I" } : Jvm.MethodName) ({ cls := "MarkField$Likeness", name := "costOf", desc := "([BIIII[I)I" } : Jvm.MethodName)) ∈ tb := tb_sel (List.mem_of_getElem? (i := 15) (by decide +kernel)) rfl
theorem w_677 : (Jvm.Cond.methodLink "MarkField$Likeness" (110 : Nat) ({ cls := "MarkField$Likeness", name := "costOf", desc := "([BIIII[I)I" } : Jvm.MethodName)) ∈ tb := tb_of (List.mem_of_getElem? (i := 677) (by decide +kernel)) rfl
theorem w_669 : (Jvm.Cond.methodLink "MarkField$Likeness" (99 : Nat) ({ cls := "java/lang/Math", name := "max", desc := "(II)I" } : Jvm.MethodName)) ∈ tb := tb_of (List.mem_of_getElem? (i := 669) (by decide +kernel)) rfl
theorem w_670 : (Jvm.Cond.static ({ cls := "java/lang/Math", name := "max", desc := "(II)I" } : Jvm.MethodName)) ∈ tb := tb_of (List.mem_of_getElem? (i := 670) (by decide +kernel)) rfl
theorem w_671 : (Jvm.Cond.code ({ cls := "java/lang/Math", name := "max", desc := "(II)I" } : Jvm.MethodName) prog_17_method_65_code (2 : Nat) (Option.some Jvm.ClassFile.FieldType.int)) ∈ tb := tb_of (List.mem_of_getElem? (i := 671) (by decide +kernel)) rfl
theorem w_675 : (Jvm.Cond.code ({ cls := "MarkField$Likeness", name := "farOf", desc := "([BIIII[I)I" } : Jvm.MethodName) prog_3_method_13_code (11 : Nat) (Option.some Jvm.ClassFile.FieldType.int)) ∈ tb := tb_of (List.mem_of_getElem? (i := 675) (by decide +kernel)) rfl
theorem w_674 : (Jvm.Cond.instanceMethod ({ cls := "MarkField$Likeness", name := "farOf", desc := "([BIIII[I)I" } : Jvm.MethodName)) ∈ tb := tb_of (List.mem_of_getElem? (i := 674) (by decide +kernel)) rfl
theorem ws_14 : (Jvm.Cond.selects "MarkField$Likeness" ({ cls := "MarkField$Likeness", name := "farOf", desc := "([BIIII[I)I" } : Jvm.MethodName) ({ cls := "MarkField$Likeness", name := "farOf", desc := "([BIIII[I)I" } : Jvm.MethodName)) ∈ tb := tb_sel (List.mem_of_getElem? (i := 14) (by decide +kernel)) rfl
theorem w_672 : (Jvm.Cond.methodLink "MarkField$Likeness" (104 : Nat) ({ cls := "MarkField$Likeness", name := "farOf", desc := "([BIIII[I)I" } : Jvm.MethodName)) ∈ tb := tb_of (List.mem_of_getElem? (i := 672) (by decide +kernel)) rfl
theorem w_668 : (Jvm.Cond.code ({ cls := "MarkField$Likeness", name := "likenessOf", desc := "([BIIII[I)I" } : Jvm.MethodName) prog_3_method_12_code (9 : Nat) (Option.some Jvm.ClassFile.FieldType.int)) ∈ tb := tb_of (List.mem_of_getElem? (i := 668) (by decide +kernel)) rfl
theorem w_667 : (Jvm.Cond.instanceMethod ({ cls := "MarkField$Likeness", name := "likenessOf", desc := "([BIIII[I)I" } : Jvm.MethodName)) ∈ tb := tb_of (List.mem_of_getElem? (i := 667) (by decide +kernel)) rfl
theorem ws_13 : (Jvm.Cond.selects "MarkField$Likeness" ({ cls := "MarkField$Likeness", name := "likenessOf", desc := "([BIIII[I)I" } : Jvm.MethodName) ({ cls := "MarkField$Likeness", name := "likenessOf", desc := "([BIIII[I)I" } : Jvm.MethodName)) ∈ tb := tb_sel (List.mem_of_getElem? (i := 13) (by decide +kernel)) rfl
theorem w_665 : (Jvm.Cond.methodLink "MarkField$Likeness" (88 : Nat) ({ cls := "MarkField$Likeness", name := "likenessOf", desc := "([BIIII[I)I" } : Jvm.MethodName)) ∈ tb := tb_of (List.mem_of_getElem? (i := 665) (by decide +kernel)) rfl
theorem w_683 : (Jvm.Cond.code ({ cls := "MarkField$Likeness", name := "setPair", desc := "([IIII)V" } : Jvm.MethodName) prog_3_method_3_code (4 : Nat) (Option.none : Option Jvm.ClassFile.FieldType)) ∈ tb := tb_of (List.mem_of_getElem? (i := 683) (by decide +kernel)) rfl
theorem w_682 : (Jvm.Cond.static ({ cls := "MarkField$Likeness", name := "setPair", desc := "([IIII)V" } : Jvm.MethodName)) ∈ tb := tb_of (List.mem_of_getElem? (i := 682) (by decide +kernel)) rfl
theorem w_681 : (Jvm.Cond.methodLink "MarkField$Likeness" (92 : Nat) ({ cls := "MarkField$Likeness", name := "setPair", desc := "([IIII)V" } : Jvm.MethodName)) ∈ tb := tb_of (List.mem_of_getElem? (i := 681) (by decide +kernel)) rfl
theorem w_87 : (Jvm.Cond.fieldLink "MarkField$Likeness" (47 : Nat) "MarkField$Register" "marks" "I") ∈ tb := tb_of (List.mem_of_getElem? (i := 87) (by decide +kernel)) rfl
theorem w_646 : (Jvm.Cond.code ({ cls := "MarkField$Likeness", name := "hear", desc := "(LMarkField$Register;I)V" } : Jvm.MethodName) prog_3_method_7_code (10 : Nat) (Option.none : Option Jvm.ClassFile.FieldType)) ∈ tb := tb_of (List.mem_of_getElem? (i := 646) (by decide +kernel)) rfl
theorem w_644 : (Jvm.Cond.instanceMethod ({ cls := "MarkField$Likeness", name := "hear", desc := "(LMarkField$Register;I)V" } : Jvm.MethodName)) ∈ tb := tb_of (List.mem_of_getElem? (i := 644) (by decide +kernel)) rfl
theorem w_645 : (Jvm.Cond.selects "MarkField$Likeness" ({ cls := "MarkField$Likeness", name := "hear", desc := "(LMarkField$Register;I)V" } : Jvm.MethodName) ({ cls := "MarkField$Likeness", name := "hear", desc := "(LMarkField$Register;I)V" } : Jvm.MethodName)) ∈ tb := tb_of (List.mem_of_getElem? (i := 645) (by decide +kernel)) rfl
theorem w_643 : (Jvm.Cond.methodLink "MarkField$Likeness" (53 : Nat) ({ cls := "MarkField$Likeness", name := "hear", desc := "(LMarkField$Register;I)V" } : Jvm.MethodName)) ∈ tb := tb_of (List.mem_of_getElem? (i := 643) (by decide +kernel)) rfl
theorem w_662 : (Jvm.Cond.code ({ cls := "MarkField$Likeness", name := "compareNames", desc := "(LMarkField$Register;II)V" } : Jvm.MethodName) prog_3_method_11_code (6 : Nat) (Option.none : Option Jvm.ClassFile.FieldType)) ∈ tb := tb_of (List.mem_of_getElem? (i := 662) (by decide +kernel)) rfl
theorem w_660 : (Jvm.Cond.instanceMethod ({ cls := "MarkField$Likeness", name := "compareNames", desc := "(LMarkField$Register;II)V" } : Jvm.MethodName)) ∈ tb := tb_of (List.mem_of_getElem? (i := 660) (by decide +kernel)) rfl
theorem w_661 : (Jvm.Cond.selects "MarkField$Likeness" ({ cls := "MarkField$Likeness", name := "compareNames", desc := "(LMarkField$Register;II)V" } : Jvm.MethodName) ({ cls := "MarkField$Likeness", name := "compareNames", desc := "(LMarkField$Register;II)V" } : Jvm.MethodName)) ∈ tb := tb_of (List.mem_of_getElem? (i := 661) (by decide +kernel)) rfl
theorem w_659 : (Jvm.Cond.methodLink "MarkField$Likeness" (57 : Nat) ({ cls := "MarkField$Likeness", name := "compareNames", desc := "(LMarkField$Register;II)V" } : Jvm.MethodName)) ∈ tb := tb_of (List.mem_of_getElem? (i := 659) (by decide +kernel)) rfl
theorem w_96 : (Jvm.Cond.fieldLink "MarkField$Likeness" (113 : Nat) "MarkField$Register" "classes" "[I") ∈ tb := tb_of (List.mem_of_getElem? (i := 96) (by decide +kernel)) rfl
theorem w_700 : (Jvm.Cond.code ({ cls := "MarkField$Register", name := "stepsApart", desc := "(II)I" } : Jvm.MethodName) prog_6_method_12_code (7 : Nat) (Option.some Jvm.ClassFile.FieldType.int)) ∈ tb := tb_of (List.mem_of_getElem? (i := 700) (by decide +kernel)) rfl
theorem w_698 : (Jvm.Cond.instanceMethod ({ cls := "MarkField$Register", name := "stepsApart", desc := "(II)I" } : Jvm.MethodName)) ∈ tb := tb_of (List.mem_of_getElem? (i := 698) (by decide +kernel)) rfl
theorem w_699 : (Jvm.Cond.selects "MarkField$Register" ({ cls := "MarkField$Register", name := "stepsApart", desc := "(II)I" } : Jvm.MethodName) ({ cls := "MarkField$Register", name := "stepsApart", desc := "(II)I" } : Jvm.MethodName)) ∈ tb := tb_of (List.mem_of_getElem? (i := 699) (by decide +kernel)) rfl
theorem w_697 : (Jvm.Cond.methodLink "MarkField$Likeness" (116 : Nat) ({ cls := "MarkField$Register", name := "stepsApart", desc := "(II)I" } : Jvm.MethodName)) ∈ tb := tb_of (List.mem_of_getElem? (i := 697) (by decide +kernel)) rfl
theorem w_696 : (Jvm.Cond.code ({ cls := "MarkField$Likeness", name := "compareGoods", desc := "(LMarkField$Register;I)V" } : Jvm.MethodName) prog_3_method_15_code (5 : Nat) (Option.none : Option Jvm.ClassFile.FieldType)) ∈ tb := tb_of (List.mem_of_getElem? (i := 696) (by decide +kernel)) rfl
theorem w_694 : (Jvm.Cond.instanceMethod ({ cls := "MarkField$Likeness", name := "compareGoods", desc := "(LMarkField$Register;I)V" } : Jvm.MethodName)) ∈ tb := tb_of (List.mem_of_getElem? (i := 694) (by decide +kernel)) rfl
theorem w_695 : (Jvm.Cond.selects "MarkField$Likeness" ({ cls := "MarkField$Likeness", name := "compareGoods", desc := "(LMarkField$Register;I)V" } : Jvm.MethodName) ({ cls := "MarkField$Likeness", name := "compareGoods", desc := "(LMarkField$Register;I)V" } : Jvm.MethodName)) ∈ tb := tb_of (List.mem_of_getElem? (i := 695) (by decide +kernel)) rfl
theorem w_693 : (Jvm.Cond.methodLink "MarkField$Likeness" (61 : Nat) ({ cls := "MarkField$Likeness", name := "compareGoods", desc := "(LMarkField$Register;I)V" } : Jvm.MethodName)) ∈ tb := tb_of (List.mem_of_getElem? (i := 693) (by decide +kernel)) rfl
theorem w_120 : (Jvm.Cond.fieldLink "MarkField$Likeness" (119 : Nat) "MarkField$Register" "rules" "[I") ∈ tb := tb_of (List.mem_of_getElem? (i := 120) (by decide +kernel)) rfl
theorem w_728 : (Jvm.Cond.methodLink "MarkField$Likeness" (122 : Nat) ({ cls := "java/lang/Integer", name := "bitCount", desc := "(I)I" } : Jvm.MethodName)) ∈ tb := tb_of (List.mem_of_getElem? (i := 728) (by decide +kernel)) rfl
theorem w_727 : (Jvm.Cond.code ({ cls := "MarkField$Likeness", name := "fieldOf", desc := "(I)I" } : Jvm.MethodName) prog_3_method_18_code (2 : Nat) (Option.some Jvm.ClassFile.FieldType.int)) ∈ tb := tb_of (List.mem_of_getElem? (i := 727) (by decide +kernel)) rfl
theorem w_725 : (Jvm.Cond.instanceMethod ({ cls := "MarkField$Likeness", name := "fieldOf", desc := "(I)I" } : Jvm.MethodName)) ∈ tb := tb_of (List.mem_of_getElem? (i := 725) (by decide +kernel)) rfl
theorem w_726 : (Jvm.Cond.selects "MarkField$Likeness" ({ cls := "MarkField$Likeness", name := "fieldOf", desc := "(I)I" } : Jvm.MethodName) ({ cls := "MarkField$Likeness", name := "fieldOf", desc := "(I)I" } : Jvm.MethodName)) ∈ tb := tb_of (List.mem_of_getElem? (i := 726) (by decide +kernel)) rfl
theorem w_724 : (Jvm.Cond.methodLink "MarkField$Likeness" (128 : Nat) ({ cls := "MarkField$Likeness", name := "fieldOf", desc := "(I)I" } : Jvm.MethodName)) ∈ tb := tb_of (List.mem_of_getElem? (i := 724) (by decide +kernel)) rfl
theorem w_723 : (Jvm.Cond.code ({ cls := "MarkField$Likeness", name := "crowdedBy", desc := "(LMarkField$Register;I)I" } : Jvm.MethodName) prog_3_method_19_code (3 : Nat) (Option.some Jvm.ClassFile.FieldType.int)) ∈ tb := tb_of (List.mem_of_getElem? (i := 723) (by decide +kernel)) rfl
theorem w_721 : (Jvm.Cond.instanceMethod ({ cls := "MarkField$Likeness", name := "crowdedBy", desc := "(LMarkField$Register;I)I" } : Jvm.MethodName)) ∈ tb := tb_of (List.mem_of_getElem? (i := 721) (by decide +kernel)) rfl
theorem w_722 : (Jvm.Cond.selects "MarkField$Likeness" ({ cls := "MarkField$Likeness", name := "crowdedBy", desc := "(LMarkField$Register;I)I" } : Jvm.MethodName) ({ cls := "MarkField$Likeness", name := "crowdedBy", desc := "(LMarkField$Register;I)I" } : Jvm.MethodName)) ∈ tb := tb_of (List.mem_of_getElem? (i := 722) (by decide +kernel)) rfl
theorem w_720 : (Jvm.Cond.methodLink "MarkField$Likeness" (154 : Nat) ({ cls := "MarkField$Likeness", name := "crowdedBy", desc := "(LMarkField$Register;I)I" } : Jvm.MethodName)) ∈ tb := tb_of (List.mem_of_getElem? (i := 720) (by decide +kernel)) rfl
theorem w_713 : (Jvm.Cond.code ({ cls := "MarkField$Likeness", name := "ofNames", desc := "(LMarkField$Register;II)I" } : Jvm.MethodName) prog_3_method_16_code (6 : Nat) (Option.some Jvm.ClassFile.FieldType.int)) ∈ tb := tb_of (List.mem_of_getElem? (i := 713) (by decide +kernel)) rfl
theorem w_711 : (Jvm.Cond.instanceMethod ({ cls := "MarkField$Likeness", name := "ofNames", desc := "(LMarkField$Register;II)I" } : Jvm.MethodName)) ∈ tb := tb_of (List.mem_of_getElem? (i := 711) (by decide +kernel)) rfl
theorem w_712 : (Jvm.Cond.selects "MarkField$Likeness" ({ cls := "MarkField$Likeness", name := "ofNames", desc := "(LMarkField$Register;II)I" } : Jvm.MethodName) ({ cls := "MarkField$Likeness", name := "ofNames", desc := "(LMarkField$Register;II)I" } : Jvm.MethodName)) ∈ tb := tb_of (List.mem_of_getElem? (i := 712) (by decide +kernel)) rfl
theorem w_710 : (Jvm.Cond.methodLink "MarkField$Likeness" (139 : Nat) ({ cls := "MarkField$Likeness", name := "ofNames", desc := "(LMarkField$Register;II)I" } : Jvm.MethodName)) ∈ tb := tb_of (List.mem_of_getElem? (i := 710) (by decide +kernel)) rfl
theorem w_719 : (Jvm.Cond.code ({ cls := "MarkField$Likeness", name := "likenessBorne", desc := "(LMarkField$Register;II)I" } : Jvm.MethodName) prog_3_method_22_code (5 : Nat) (Option.some Jvm.ClassFile.FieldType.int)) ∈ tb := tb_of (List.mem_of_getElem? (i := 719) (by decide +kernel)) rfl
theorem w_718 : (Jvm.Cond.instanceMethod ({ cls := "MarkField$Likeness", name := "likenessBorne", desc := "(LMarkField$Register;II)I" } : Jvm.MethodName)) ∈ tb := tb_of (List.mem_of_getElem? (i := 718) (by decide +kernel)) rfl
theorem ws_16 : (Jvm.Cond.selects "MarkField$Likeness" ({ cls := "MarkField$Likeness", name := "likenessBorne", desc := "(LMarkField$Register;II)I" } : Jvm.MethodName) ({ cls := "MarkField$Likeness", name := "likenessBorne", desc := "(LMarkField$Register;II)I" } : Jvm.MethodName)) ∈ tb := tb_sel (List.mem_of_getElem? (i := 16) (by decide +kernel)) rfl
theorem w_716 : (Jvm.Cond.methodLink "MarkField$Likeness" (151 : Nat) ({ cls := "MarkField$Likeness", name := "likenessBorne", desc := "(LMarkField$Register;II)I" } : Jvm.MethodName)) ∈ tb := tb_of (List.mem_of_getElem? (i := 716) (by decide +kernel)) rfl
theorem w_602 : (Jvm.Cond.code ({ cls := "MarkField", name := "setCouple", desc := "([IIIZ)Z" } : Jvm.MethodName) prog_1_method_36_code (5 : Nat) (Option.some Jvm.ClassFile.FieldType.boolean)) ∈ tb := tb_of (List.mem_of_getElem? (i := 602) (by decide +kernel)) rfl
theorem w_601 : (Jvm.Cond.static ({ cls := "MarkField", name := "setCouple", desc := "([IIIZ)Z" } : Jvm.MethodName)) ∈ tb := tb_of (List.mem_of_getElem? (i := 601) (by decide +kernel)) rfl
theorem w_709 : (Jvm.Cond.code ({ cls := "MarkField$Likeness", name := "isNear", desc := "(LMarkField$Register;II)Z" } : Jvm.MethodName) prog_3_method_17_code (5 : Nat) (Option.some Jvm.ClassFile.FieldType.boolean)) ∈ tb := tb_of (List.mem_of_getElem? (i := 709) (by decide +kernel)) rfl
theorem w_707 : (Jvm.Cond.instanceMethod ({ cls := "MarkField$Likeness", name := "isNear", desc := "(LMarkField$Register;II)Z" } : Jvm.MethodName)) ∈ tb := tb_of (List.mem_of_getElem? (i := 707) (by decide +kernel)) rfl
theorem w_708 : (Jvm.Cond.selects "MarkField$Likeness" ({ cls := "MarkField$Likeness", name := "isNear", desc := "(LMarkField$Register;II)Z" } : Jvm.MethodName) ({ cls := "MarkField$Likeness", name := "isNear", desc := "(LMarkField$Register;II)Z" } : Jvm.MethodName)) ∈ tb := tb_of (List.mem_of_getElem? (i := 708) (by decide +kernel)) rfl
theorem w_706 : (Jvm.Cond.methodLink "MarkField$Likeness" (131 : Nat) ({ cls := "MarkField$Likeness", name := "isNear", desc := "(LMarkField$Register;II)Z" } : Jvm.MethodName)) ∈ tb := tb_of (List.mem_of_getElem? (i := 706) (by decide +kernel)) rfl
theorem w_705 : (Jvm.Cond.code ({ cls := "MarkField$Likeness", name := "judge", desc := "(LMarkField$Register;)V" } : Jvm.MethodName) prog_3_method_21_code (4 : Nat) (Option.none : Option Jvm.ClassFile.FieldType)) ∈ tb := tb_of (List.mem_of_getElem? (i := 705) (by decide +kernel)) rfl
theorem w_703 : (Jvm.Cond.instanceMethod ({ cls := "MarkField$Likeness", name := "judge", desc := "(LMarkField$Register;)V" } : Jvm.MethodName)) ∈ tb := tb_of (List.mem_of_getElem? (i := 703) (by decide +kernel)) rfl
theorem w_704 : (Jvm.Cond.selects "MarkField$Likeness" ({ cls := "MarkField$Likeness", name := "judge", desc := "(LMarkField$Register;)V" } : Jvm.MethodName) ({ cls := "MarkField$Likeness", name := "judge", desc := "(LMarkField$Register;)V" } : Jvm.MethodName)) ∈ tb := tb_of (List.mem_of_getElem? (i := 704) (by decide +kernel)) rfl
theorem w_1006 : (Jvm.Cond.methodLink "MarkField$Likeness" (135 : Nat) ({ cls := "MarkField$Likeness", name := "judge", desc := "(LMarkField$Register;)V" } : Jvm.MethodName)) ∈ tb := tb_of (List.mem_of_getElem? (i := 1006) (by decide +kernel)) rfl
theorem ms_X1_pair : MS yX1_pair cX1_pair 2 (some .int) 2 := ⟨⟨w_686, w_6, by decide, by decide, by decide +kernel⟩, w_685⟩
theorem ms_X1_soundOfTwo : MS yX1_soundOfTwo cX1_soundOfTwo 2 (some .int) 2 := ⟨⟨w_649, w_6, by decide, by decide, by decide +kernel⟩, w_648⟩
theorem ms_X1_soundOfOne : MS yX1_soundOfOne cX1_soundOfOne 4 (some .int) 3 := ⟨⟨w_656, w_6, by decide, by decide, by decide +kernel⟩, w_655⟩
theorem mv_X1_addSound : MV yX1_addSound cX1_addSound 6 none 2 := ⟨⟨w_653, w_6, by decide, by decide, by decide +kernel⟩, w_652, ws_12⟩
theorem mv_X1_costOf : MV yX1_costOf cX1_costOf 17 (some .int) 6 := ⟨⟨w_680, w_6, by decide, by decide, by decide +kernel⟩, w_679, ws_15⟩
theorem mv_X1_farOf : MV yX1_farOf cX1_farOf 11 (some .int) 6 := ⟨⟨w_675, w_6, by decide, by decide, by decide +kernel⟩, w_674, ws_14⟩
theorem mv_X1_likenessOf : MV yX1_likenessOf cX1_likenessOf 9 (some .int) 6 := ⟨⟨w_668, w_6, by decide, by decide, by decide +kernel⟩, w_667, ws_13⟩
theorem ms_X1_setPair : MS yX1_setPair cX1_setPair 4 none 4 := ⟨⟨w_683, w_6, by decide, by decide, by decide +kernel⟩, w_682⟩
theorem mv_X1_hear : MV yX1_hear cX1_hear 10 none 2 := ⟨⟨w_646, w_6, by decide, by decide, by decide +kernel⟩, w_644, w_645⟩
theorem mv_X1_compareNames : MV yX1_compareNames cX1_compareNames 6 none 3 := ⟨⟨w_662, w_6, by decide, by decide, by decide +kernel⟩, w_660, w_661⟩
theorem mv_X4_stepsApart : MV yX4_stepsApart cX4_stepsApart 7 (some .int) 2 := ⟨⟨w_700, w_3, by decide, by decide, by decide +kernel⟩, w_698, w_699⟩
theorem mv_X1_compareGoods : MV yX1_compareGoods cX1_compareGoods 5 none 2 := ⟨⟨w_696, w_6, by decide, by decide, by decide +kernel⟩, w_694, w_695⟩
theorem mv_X1_fieldOf : MV yX1_fieldOf cX1_fieldOf 2 (some .int) 1 := ⟨⟨w_727, w_6, by decide, by decide, by decide +kernel⟩, w_725, w_726⟩
theorem mv_X1_crowdedBy : MV yX1_crowdedBy cX1_crowdedBy 3 (some .int) 2 := ⟨⟨w_723, w_6, by decide, by decide, by decide +kernel⟩, w_721, w_722⟩
theorem mv_X1_ofNames : MV yX1_ofNames cX1_ofNames 6 (some .int) 3 := ⟨⟨w_713, w_6, by decide, by decide, by decide +kernel⟩, w_711, w_712⟩
theorem mv_X1_likenessBorne : MV yX1_likenessBorne cX1_likenessBorne 5 (some .int) 3 := ⟨⟨w_719, w_6, by decide, by decide, by decide +kernel⟩, w_718, ws_16⟩
theorem ms_X7_setCouple : MS yX7_setCouple cX7_setCouple 5 (some .boolean) 4 := ⟨⟨w_602, w_1, by decide, by decide, by decide +kernel⟩, w_601⟩
theorem mv_X1_isNear : MV yX1_isNear cX1_isNear 5 (some .boolean) 3 := ⟨⟨w_709, w_6, by decide, by decide, by decide +kernel⟩, w_707, w_708⟩
theorem mv_X1_judge : MV yX1_judge cX1_judge 4 none 1 := ⟨⟨w_705, w_6, by decide, by decide, by decide +kernel⟩, w_703, w_704⟩
-- X1_pair (height 0)
def wp_X1_pair (post : Int32 → GH → Prop) (x0 x1 : Int32) (G : GH) : Prop :=
  post ((x0 * (13 : Int32)) + x1) G
set_option maxRecDepth 100000 in
set_option maxHeartbeats 4000000 in
theorem k_X1_pair {l : Launch} {E : Ev} {P : Nat → Prop} {sd : Nat → Nat → Nat} {G : GH} {post : Int32 → GH → Prop} {x0 x1 : Int32} (hPP : ∀ o, stt o = true → P o) (h : wp_X1_pair post x0 x1 G) : Ct l yX1_pair cX1_pair 2 (some .int) 0 0 0 E P sd G [.int x0, .int x1] (pI post) := by
  refine ct_of (own := "MarkField$Likeness") (by decide) rfl (Nat.le_of_ble_eq_true rfl) hPP (fun X F T el eP es => ?_)
  subst el; subst eP; subst es
  have hP := F.P
  change AW E X 2 0 [(0, .int x0), (1, .int x1)] [] G 0 0
  refine aw_il_n F 0 dX1_pair_0 rfl rfl ?_
  refine aw_bi F dX1_pair_1 bi_13 ?_
  refine aw_imul F dX1_pair_3 ?_
  refine aw_il_n F 1 dX1_pair_4 rfl rfl ?_
  refine aw_iadd F dX1_pair_5 ?_
  exact aw_iret F T (Nat.le_of_ble_eq_true rfl) (Nat.le_of_ble_eq_true rfl) ⟨_, rfl, h⟩ dX1_pair_6
-- X1_setPair (height 1)
def wp_X1_setPair (post : GH → Prop) (o0 k0 m0 : Nat) (x1 x2 x3 : Int32) (G : GH) : Prop :=
  wp_X1_pair (fun (r_2 : Int32) (G_1 : GH) => (vp_in r_2 m0 ∧ (∀ G_3 : GH, G_3 = gs G_1 o0 k0 (upd (G_1 o0 k0) r_2.toNatClampNeg x3) → wp_X1_pair (fun (r_5 : Int32) (G_4 : GH) => (vp_in r_5 m0 ∧ (∀ G_6 : GH, G_6 = gs G_4 o0 k0 (upd (G_4 o0 k0) r_5.toNatClampNeg x3) → post G_6))) x2 x1 G_3))) x1 x2 G
set_option maxRecDepth 100000 in
set_option maxHeartbeats 4000000 in
theorem k_X1_setPair {l : Launch} {E : Ev} {P : Nat → Prop} {sd : Nat → Nat → Nat} {G : GH} {post : GH → Prop} {o0 k0 m0 : Nat} {x1 x2 x3 : Int32} (hPP : ∀ o, stt o = true → P o) (hs0 : stt o0 = true) (ha0 : al (oc o0) k0 = some (0, m0)) (h : wp_X1_setPair post o0 k0 m0 x1 x2 x3 G) : Ct l yX1_setPair cX1_setPair 4 none 1 0 0 E P sd G [.ref (sd o0 k0), .int x1, .int x2, .int x3] (pV post) := by
  refine ct_of (own := "MarkField$Likeness") (by decide) rfl (Nat.le_of_ble_eq_true rfl) hPP (fun X F T el eP es => ?_)
  subst el; subst eP; subst es
  have hP := F.P
  change AW E X 4 0 [(0, .ref (sdX X o0 k0)), (1, .int x1), (2, .int x2), (3, .int x3)] [] G 0 0
  refine aw_al_n F 0 dX1_setPair_0 rfl rfl ?_
  refine aw_il_n F 1 dX1_setPair_1 rfl rfl ?_
  refine aw_il_n F 2 dX1_setPair_2 rfl rfl ?_
  refine aw_cSi (stk := [.ref (sdX X o0 k0)]) F T.room [.int x1, .int x2] (k_X1_pair hP h) ms_X1_pair w_684 rfl rfl (Nat.le_of_ble_eq_true rfl) ⟨(Nat.le_of_ble_eq_true rfl), (Nat.le_of_ble_eq_true rfl)⟩ ⟨(Nat.le_of_ble_eq_true rfl), (Nat.le_of_ble_eq_true rfl)⟩ dX1_setPair_3 (fun r_2 G_1 h => ?_)
  refine aw_il_n F 3 dX1_setPair_6 rfl rfl ?_
  refine aw_iast F o0 k0 (lo_s hs0) (hP _ hs0) ha0 h.1 dX1_setPair_7 ?_
  refine aw_nG (fun G_3 eG_3 => ?_)
  replace h := h.2 G_3 eG_3
  refine aw_al_n F 0 dX1_setPair_8 rfl rfl ?_
  refine aw_il_n F 2 dX1_setPair_9 rfl rfl ?_
  refine aw_il_n F 1 dX1_setPair_10 rfl rfl ?_
  refine aw_cSi (stk := [.ref (sdX X o0 k0)]) F T.room [.int x2, .int x1] (k_X1_pair hP h) ms_X1_pair w_684 rfl rfl (Nat.le_of_ble_eq_true rfl) ⟨(Nat.le_of_ble_eq_true rfl), (Nat.le_of_ble_eq_true rfl)⟩ ⟨(Nat.le_of_ble_eq_true rfl), (Nat.le_of_ble_eq_true rfl)⟩ dX1_setPair_11 (fun r_5 G_4 h => ?_)
  refine aw_il_n F 3 dX1_setPair_14 rfl rfl ?_
  refine aw_iast F o0 k0 (lo_s hs0) (hP _ hs0) ha0 h.1 dX1_setPair_15 ?_
  refine aw_nG (fun G_6 eG_6 => ?_)
  replace h := h.2 G_6 eG_6
  exact aw_vret F T (Nat.le_of_ble_eq_true rfl) (Nat.le_of_ble_eq_true rfl) ⟨rfl, h⟩ dX1_setPair_16
-- X1_copy (height 1)
def wp_X1_copy (post : GH → Prop) (o : Nat) (o1 : Nat) (G : GH) : Prop :=
  ((¬ (0 : Int32) < 0 ∧ ¬ (0 : Int32) < 0 ∧ ¬ (Int32.ofNat 260) < 0 ∧ (0 : Int32).toNatClampNeg + (Int32.ofNat 260).toNatClampNeg ≤ 260 ∧ (0 : Int32).toNatClampNeg + (Int32.ofNat 260).toNatClampNeg ≤ 260) ∧ (∀ G_1 : GH, G_1 = gs G o 1 (va_cpy (G o1 1) (G o 1) (0 : Int32).toNatClampNeg (0 : Int32).toNatClampNeg (Int32.ofNat 260).toNatClampNeg) → ((¬ (0 : Int32) < 0 ∧ ¬ (0 : Int32) < 0 ∧ ¬ (13 : Int32) < 0 ∧ (0 : Int32).toNatClampNeg + (13 : Int32).toNatClampNeg ≤ 13 ∧ (0 : Int32).toNatClampNeg + (13 : Int32).toNatClampNeg ≤ 13) ∧ (∀ G_2 : GH, G_2 = gs G_1 o 2 (va_cpy (G_1 o1 2) (G_1 o 2) (0 : Int32).toNatClampNeg (0 : Int32).toNatClampNeg (13 : Int32).toNatClampNeg) → ((¬ (0 : Int32) < 0 ∧ ¬ (0 : Int32) < 0 ∧ ¬ (Int32.ofNat 169) < 0 ∧ (0 : Int32).toNatClampNeg + (Int32.ofNat 169).toNatClampNeg ≤ 169 ∧ (0 : Int32).toNatClampNeg + (Int32.ofNat 169).toNatClampNeg ≤ 169) ∧ (∀ G_3 : GH, G_3 = gs G_2 o 3 (va_cpy (G_2 o1 3) (G_2 o 3) (0 : Int32).toNatClampNeg (0 : Int32).toNatClampNeg (Int32.ofNat 169).toNatClampNeg) → ((¬ (0 : Int32) < 0 ∧ ¬ (0 : Int32) < 0 ∧ ¬ (Int32.ofNat 169) < 0 ∧ (0 : Int32).toNatClampNeg + (Int32.ofNat 169).toNatClampNeg ≤ 169 ∧ (0 : Int32).toNatClampNeg + (Int32.ofNat 169).toNatClampNeg ≤ 169) ∧ (∀ G_4 : GH, G_4 = gs G_3 o 4 (va_cpy (G_3 o1 4) (G_3 o 4) (0 : Int32).toNatClampNeg (0 : Int32).toNatClampNeg (Int32.ofNat 169).toNatClampNeg) → ((¬ (0 : Int32) < 0 ∧ ¬ (0 : Int32) < 0 ∧ ¬ (Int32.ofNat 169) < 0 ∧ (0 : Int32).toNatClampNeg + (Int32.ofNat 169).toNatClampNeg ≤ 169 ∧ (0 : Int32).toNatClampNeg + (Int32.ofNat 169).toNatClampNeg ≤ 169) ∧ (∀ G_5 : GH, G_5 = gs G_4 o 5 (va_cpy (G_4 o1 5) (G_4 o 5) (0 : Int32).toNatClampNeg (0 : Int32).toNatClampNeg (Int32.ofNat 169).toNatClampNeg) → ((¬ (0 : Int32) < 0 ∧ ¬ (0 : Int32) < 0 ∧ ¬ (13 : Int32) < 0 ∧ (0 : Int32).toNatClampNeg + (13 : Int32).toNatClampNeg ≤ 13 ∧ (0 : Int32).toNatClampNeg + (13 : Int32).toNatClampNeg ≤ 13) ∧ (∀ G_6 : GH, G_6 = gs G_5 o 6 (va_cpy (G_5 o1 6) (G_5 o 6) (0 : Int32).toNatClampNeg (0 : Int32).toNatClampNeg (13 : Int32).toNatClampNeg) → ((¬ (0 : Int32) < 0 ∧ ¬ (0 : Int32) < 0 ∧ ¬ (13 : Int32) < 0 ∧ (0 : Int32).toNatClampNeg + (13 : Int32).toNatClampNeg ≤ 13 ∧ (0 : Int32).toNatClampNeg + (13 : Int32).toNatClampNeg ≤ 13) ∧ (∀ G_7 : GH, G_7 = gs G_6 o 7 (va_cpy (G_6 o1 7) (G_6 o 7) (0 : Int32).toNatClampNeg (0 : Int32).toNatClampNeg (13 : Int32).toNatClampNeg) → post G_7))))))))))))))
set_option maxRecDepth 100000 in
set_option maxHeartbeats 4000000 in
theorem k_X1_copy {l : Launch} {E : Ev} {P : Nat → Prop} {sd : Nat → Nat → Nat} {G : GH} {post : GH → Prop} {o : Nat} {o1 : Nat} (hPP : ∀ o, stt o = true → P o) (ho : stt o = true) (hc : oc o = 1) (ho1 : stt o1 = true) (hc1 : oc o1 = 1) (h : wp_X1_copy post o o1 G) : Ct l yX1_copy cX1_copy 2 none 1 0 0 E P sd G [.ref (sd o 0), .ref (sd o1 0)] (pV post) := by
  refine ct_of (own := "MarkField$Likeness") (by decide) rfl (Nat.le_of_ble_eq_true rfl) hPP (fun X F T el eP es => ?_)
  subst el; subst eP; subst es
  have hP := F.P
  change AW E X 2 0 [(0, .ref (sdX X o 0)), (1, .ref (sdX X o1 0))] [] G 0 0
  refine aw_al_n F 1 dX1_copy_0 rfl rfl ?_
  refine gr1_0 F (lo_s ho1) (hP _ ho1) hc1 w_170 (hP _ ho1) dX1_copy_1 ?_
  refine aw_ic F dX1_copy_4 ic_0 ?_
  refine aw_al_n F 0 dX1_copy_5 rfl rfl ?_
  refine gr1_0 F (lo_s ho) (hP _ ho) hc w_170 (hP _ ho) dX1_copy_6 ?_
  refine aw_ic F dX1_copy_9 ic_0 ?_
  refine aw_al_n F 0 dX1_copy_10 rfl rfl ?_
  refine gr1_0 F (lo_s ho) (hP _ ho) hc w_170 (hP _ ho) dX1_copy_11 ?_
  refine aw_len F o 1 (by decide) (lo_s ho) (hP _ ho) (al_of hc rfl) rfl dX1_copy_14 ?_
  refine aw_cpy F o1 1 o 1 (by decide) (lo_s ho1) (hP _ ho1) (al_of hc1 rfl) (lo_s ho) (hP _ ho) (al_of hc rfl) w_955 w_79 w_78 w_4 h.1.1 h.1.2.1 h.1.2.2.1 h.1.2.2.2.1 h.1.2.2.2.2 (by rw [T.room]; exact (Nat.le_of_ble_eq_true rfl)) (by rw [T.room]; exact (Nat.le_of_ble_eq_true rfl)) dX1_copy_15 ?_
  refine aw_nG (fun G_1 eG_1 => ?_)
  replace h := h.2 G_1 eG_1
  refine aw_al_n F 1 dX1_copy_18 rfl rfl ?_
  refine gr1_1 F (lo_s ho1) (hP _ ho1) hc1 w_172 (hP _ ho1) dX1_copy_19 ?_
  refine aw_ic F dX1_copy_22 ic_0 ?_
  refine aw_al_n F 0 dX1_copy_23 rfl rfl ?_
  refine gr1_1 F (lo_s ho) (hP _ ho) hc w_172 (hP _ ho) dX1_copy_24 ?_
  refine aw_ic F dX1_copy_27 ic_0 ?_
  refine aw_bi F dX1_copy_28 bi_13 ?_
  refine aw_cpy F o1 2 o 2 (by decide) (lo_s ho1) (hP _ ho1) (al_of hc1 rfl) (lo_s ho) (hP _ ho) (al_of hc rfl) w_955 w_79 w_78 w_4 h.1.1 h.1.2.1 h.1.2.2.1 h.1.2.2.2.1 h.1.2.2.2.2 (by rw [T.room]; exact (Nat.le_of_ble_eq_true rfl)) (by rw [T.room]; exact (Nat.le_of_ble_eq_true rfl)) dX1_copy_30 ?_
  refine aw_nG (fun G_2 eG_2 => ?_)
  replace h := h.2 G_2 eG_2
  refine aw_al_n F 1 dX1_copy_33 rfl rfl ?_
  refine gr1_2 F (lo_s ho1) (hP _ ho1) hc1 w_175 (hP _ ho1) dX1_copy_34 ?_
  refine aw_ic F dX1_copy_37 ic_0 ?_
  refine aw_al_n F 0 dX1_copy_38 rfl rfl ?_
  refine gr1_2 F (lo_s ho) (hP _ ho) hc w_175 (hP _ ho) dX1_copy_39 ?_
  refine aw_ic F dX1_copy_42 ic_0 ?_
  refine aw_al_n F 0 dX1_copy_43 rfl rfl ?_
  refine gr1_2 F (lo_s ho) (hP _ ho) hc w_175 (hP _ ho) dX1_copy_44 ?_
  refine aw_len F o 3 (by decide) (lo_s ho) (hP _ ho) (al_of hc rfl) rfl dX1_copy_47 ?_
  refine aw_cpy F o1 3 o 3 (by decide) (lo_s ho1) (hP _ ho1) (al_of hc1 rfl) (lo_s ho) (hP _ ho) (al_of hc rfl) w_955 w_79 w_78 w_4 h.1.1 h.1.2.1 h.1.2.2.1 h.1.2.2.2.1 h.1.2.2.2.2 (by rw [T.room]; exact (Nat.le_of_ble_eq_true rfl)) (by rw [T.room]; exact (Nat.le_of_ble_eq_true rfl)) dX1_copy_48 ?_
  refine aw_nG (fun G_3 eG_3 => ?_)
  replace h := h.2 G_3 eG_3
  refine aw_al_n F 1 dX1_copy_51 rfl rfl ?_
  refine gr1_3 F (lo_s ho1) (hP _ ho1) hc1 w_177 (hP _ ho1) dX1_copy_52 ?_
  refine aw_ic F dX1_copy_55 ic_0 ?_
  refine aw_al_n F 0 dX1_copy_56 rfl rfl ?_
  refine gr1_3 F (lo_s ho) (hP _ ho) hc w_177 (hP _ ho) dX1_copy_57 ?_
  refine aw_ic F dX1_copy_60 ic_0 ?_
  refine aw_al_n F 0 dX1_copy_61 rfl rfl ?_
  refine gr1_3 F (lo_s ho) (hP _ ho) hc w_177 (hP _ ho) dX1_copy_62 ?_
  refine aw_len F o 4 (by decide) (lo_s ho) (hP _ ho) (al_of hc rfl) rfl dX1_copy_65 ?_
  refine aw_cpy F o1 4 o 4 (by decide) (lo_s ho1) (hP _ ho1) (al_of hc1 rfl) (lo_s ho) (hP _ ho) (al_of hc rfl) w_955 w_79 w_78 w_4 h.1.1 h.1.2.1 h.1.2.2.1 h.1.2.2.2.1 h.1.2.2.2.2 (by rw [T.room]; exact (Nat.le_of_ble_eq_true rfl)) (by rw [T.room]; exact (Nat.le_of_ble_eq_true rfl)) dX1_copy_66 ?_
  refine aw_nG (fun G_4 eG_4 => ?_)
  replace h := h.2 G_4 eG_4
  refine aw_al_n F 1 dX1_copy_69 rfl rfl ?_
  refine gr1_4 F (lo_s ho1) (hP _ ho1) hc1 w_179 (hP _ ho1) dX1_copy_70 ?_
  refine aw_ic F dX1_copy_73 ic_0 ?_
  refine aw_al_n F 0 dX1_copy_74 rfl rfl ?_
  refine gr1_4 F (lo_s ho) (hP _ ho) hc w_179 (hP _ ho) dX1_copy_75 ?_
  refine aw_ic F dX1_copy_78 ic_0 ?_
  refine aw_al_n F 0 dX1_copy_79 rfl rfl ?_
  refine gr1_4 F (lo_s ho) (hP _ ho) hc w_179 (hP _ ho) dX1_copy_80 ?_
  refine aw_len F o 5 (by decide) (lo_s ho) (hP _ ho) (al_of hc rfl) rfl dX1_copy_83 ?_
  refine aw_cpy F o1 5 o 5 (by decide) (lo_s ho1) (hP _ ho1) (al_of hc1 rfl) (lo_s ho) (hP _ ho) (al_of hc rfl) w_955 w_79 w_78 w_4 h.1.1 h.1.2.1 h.1.2.2.1 h.1.2.2.2.1 h.1.2.2.2.2 (by rw [T.room]; exact (Nat.le_of_ble_eq_true rfl)) (by rw [T.room]; exact (Nat.le_of_ble_eq_true rfl)) dX1_copy_84 ?_
  refine aw_nG (fun G_5 eG_5 => ?_)
  replace h := h.2 G_5 eG_5
  refine aw_al_n F 1 dX1_copy_87 rfl rfl ?_
  refine gr1_5 F (lo_s ho1) (hP _ ho1) hc1 w_181 (hP _ ho1) dX1_copy_88 ?_
  refine aw_ic F dX1_copy_91 ic_0 ?_
  refine aw_al_n F 0 dX1_copy_92 rfl rfl ?_
  refine gr1_5 F (lo_s ho) (hP _ ho) hc w_181 (hP _ ho) dX1_copy_93 ?_
  refine aw_ic F dX1_copy_96 ic_0 ?_
  refine aw_bi F dX1_copy_97 bi_13 ?_
  refine aw_cpy F o1 6 o 6 (by decide) (lo_s ho1) (hP _ ho1) (al_of hc1 rfl) (lo_s ho) (hP _ ho) (al_of hc rfl) w_955 w_79 w_78 w_4 h.1.1 h.1.2.1 h.1.2.2.1 h.1.2.2.2.1 h.1.2.2.2.2 (by rw [T.room]; exact (Nat.le_of_ble_eq_true rfl)) (by rw [T.room]; exact (Nat.le_of_ble_eq_true rfl)) dX1_copy_99 ?_
  refine aw_nG (fun G_6 eG_6 => ?_)
  replace h := h.2 G_6 eG_6
  refine aw_al_n F 1 dX1_copy_102 rfl rfl ?_
  refine gr1_6 F (lo_s ho1) (hP _ ho1) hc1 w_182 (hP _ ho1) dX1_copy_103 ?_
  refine aw_ic F dX1_copy_106 ic_0 ?_
  refine aw_al_n F 0 dX1_copy_107 rfl rfl ?_
  refine gr1_6 F (lo_s ho) (hP _ ho) hc w_182 (hP _ ho) dX1_copy_108 ?_
  refine aw_ic F dX1_copy_111 ic_0 ?_
  refine aw_bi F dX1_copy_112 bi_13 ?_
  refine aw_cpy F o1 7 o 7 (by decide) (lo_s ho1) (hP _ ho1) (al_of hc1 rfl) (lo_s ho) (hP _ ho) (al_of hc rfl) w_955 w_79 w_78 w_4 h.1.1 h.1.2.1 h.1.2.2.1 h.1.2.2.2.1 h.1.2.2.2.2 (by rw [T.room]; exact (Nat.le_of_ble_eq_true rfl)) (by rw [T.room]; exact (Nat.le_of_ble_eq_true rfl)) dX1_copy_114 ?_
  refine aw_nG (fun G_7 eG_7 => ?_)
  replace h := h.2 G_7 eG_7
  exact aw_vret F T (Nat.le_of_ble_eq_true rfl) (Nat.le_of_ble_eq_true rfl) ⟨rfl, h⟩ dX1_copy_117
-- X1_soundOfTwo (height 0)
def wp_X1_soundOfTwo (post : Int32 → GH → Prop) (x0 x1 : Int32) (G : GH) : Prop :=
  ((x1 = (104 : Int32) → ((x0 = (99 : Int32) → post (2 : Int32) G) ∧ (x0 = (103 : Int32) → post (-1 : Int32) G) ∧ (x0 = (112 : Int32) → post (1 : Int32) G) ∧ (x0 = (115 : Int32) → post (8 : Int32) G) ∧ (x0 = (116 : Int32) → post (9 : Int32) G) ∧ (¬ x0 = (99 : Int32) → ¬ x0 = (103 : Int32) → ¬ x0 = (112 : Int32) → ¬ x0 = (115 : Int32) → ¬ x0 = (116 : Int32) → post (-2 : Int32) G))) ∧ (¬ x1 = (104 : Int32) → ((x0 = (99 : Int32) → ((x1 = (107 : Int32) → post (2 : Int32) G) ∧ (¬ x1 = (107 : Int32) → post (-2 : Int32) G))) ∧ (¬ x0 = (99 : Int32) → post (-2 : Int32) G))))
set_option maxRecDepth 100000 in
set_option maxHeartbeats 4000000 in
theorem k_X1_soundOfTwo {l : Launch} {E : Ev} {P : Nat → Prop} {sd : Nat → Nat → Nat} {G : GH} {post : Int32 → GH → Prop} {x0 x1 : Int32} (hPP : ∀ o, stt o = true → P o) (h : wp_X1_soundOfTwo post x0 x1 G) : Ct l yX1_soundOfTwo cX1_soundOfTwo 2 (some .int) 0 0 0 E P sd G [.int x0, .int x1] (pI post) := by
  refine ct_of (own := "MarkField$Likeness") (by decide) rfl (Nat.le_of_ble_eq_true rfl) hPP (fun X F T el eP es => ?_)
  subst el; subst eP; subst es
  have hP := F.P
  change AW E X 2 0 [(0, .int x0), (1, .int x1)] [] G 0 0
  refine aw_il_n F 1 dX1_soundOfTwo_0 rfl rfl ?_
  refine aw_bi F dX1_soundOfTwo_1 bi_104 ?_
  refine aw_icmp_ne (tgt := 71) F dX1_soundOfTwo_3 (by decide) (fun c_1 => ?_) (fun c_1 => ?_)
  · replace h := h.2 c_1
    refine aw_il_n F 0 dX1_soundOfTwo_71 rfl rfl ?_
    refine aw_bi F dX1_soundOfTwo_72 bi_99 ?_
    refine aw_icmp_ne (tgt := 87) F dX1_soundOfTwo_74 (by decide) (fun c_2 => ?_) (fun c_2 => ?_)
    · replace h := h.2 c_2
      refine aw_bi F dX1_soundOfTwo_87 bi_m2 ?_
      exact aw_iret F T (Nat.le_of_ble_eq_true rfl) (Nat.le_of_ble_eq_true rfl) ⟨_, rfl, h⟩ dX1_soundOfTwo_89
    · replace h := h.1 c_2
      refine aw_il_n F 1 dX1_soundOfTwo_77 rfl rfl ?_
      refine aw_bi F dX1_soundOfTwo_78 bi_107 ?_
      refine aw_icmp_ne (tgt := 87) F dX1_soundOfTwo_80 (by decide) (fun c_3 => ?_) (fun c_3 => ?_)
      · replace h := h.2 c_3
        refine aw_bi F dX1_soundOfTwo_87 bi_m2 ?_
        exact aw_iret F T (Nat.le_of_ble_eq_true rfl) (Nat.le_of_ble_eq_true rfl) ⟨_, rfl, h⟩ dX1_soundOfTwo_89
      · replace h := h.1 c_3
        refine aw_ic F dX1_soundOfTwo_83 ic_2 ?_
        refine aw_go (tgt := 89) F dX1_soundOfTwo_84 (by decide) ?_
        exact aw_iret F T (Nat.le_of_ble_eq_true rfl) (Nat.le_of_ble_eq_true rfl) ⟨_, rfl, h⟩ dX1_soundOfTwo_89
  · replace h := h.1 c_1
    refine aw_il_n F 0 dX1_soundOfTwo_6 rfl rfl ?_
    by_cases c_4 : x0 = (99 : Int32)
    · replace h := h.1 c_4
      refine aw_look (tgt := 61) (off := 54) F dX1_soundOfTwo_7 (by decide) (by rw [c_4]; rfl) (by decide) ?_
      refine aw_ic F dX1_soundOfTwo_61 ic_2 ?_
      exact aw_iret F T (Nat.le_of_ble_eq_true rfl) (Nat.le_of_ble_eq_true rfl) ⟨_, rfl, h⟩ dX1_soundOfTwo_62
    replace h := h.2
    by_cases c_5 : x0 = (103 : Int32)
    · replace h := h.1 c_5
      refine aw_look (tgt := 66) (off := 59) F dX1_soundOfTwo_7 (by decide) (by rw [c_5]; rfl) (by decide) ?_
      refine aw_ic F dX1_soundOfTwo_66 ic_m1 ?_
      exact aw_iret F T (Nat.le_of_ble_eq_true rfl) (Nat.le_of_ble_eq_true rfl) ⟨_, rfl, h⟩ dX1_soundOfTwo_67
    replace h := h.2
    by_cases c_6 : x0 = (112 : Int32)
    · replace h := h.1 c_6
      refine aw_look (tgt := 56) (off := 49) F dX1_soundOfTwo_7 (by decide) (by rw [c_6]; rfl) (by decide) ?_
      refine aw_ic F dX1_soundOfTwo_56 ic_1 ?_
      exact aw_iret F T (Nat.le_of_ble_eq_true rfl) (Nat.le_of_ble_eq_true rfl) ⟨_, rfl, h⟩ dX1_soundOfTwo_57
    replace h := h.2
    by_cases c_7 : x0 = (115 : Int32)
    · replace h := h.1 c_7
      refine aw_look (tgt := 63) (off := 56) F dX1_soundOfTwo_7 (by decide) (by rw [c_7]; rfl) (by decide) ?_
      refine aw_bi F dX1_soundOfTwo_63 bi_8 ?_
      exact aw_iret F T (Nat.le_of_ble_eq_true rfl) (Nat.le_of_ble_eq_true rfl) ⟨_, rfl, h⟩ dX1_soundOfTwo_65
    replace h := h.2
    by_cases c_8 : x0 = (116 : Int32)
    · replace h := h.1 c_8
      refine aw_look (tgt := 58) (off := 51) F dX1_soundOfTwo_7 (by decide) (by rw [c_8]; rfl) (by decide) ?_
      refine aw_bi F dX1_soundOfTwo_58 bi_9 ?_
      exact aw_iret F T (Nat.le_of_ble_eq_true rfl) (Nat.le_of_ble_eq_true rfl) ⟨_, rfl, h⟩ dX1_soundOfTwo_60
    replace h := h.2
    replace h := h c_4 c_5 c_6 c_7 c_8
    refine aw_look (tgt := 68) (off := 61) F dX1_soundOfTwo_7 (by decide) (by show Op.lookupswitch.offset [(99, 54), (103, 59), (112, 49), (115, 56), (116, 51)] _ _ = _; rw [lv_osw c_4 (by decide), lv_osw c_5 (by decide), lv_osw c_6 (by decide), lv_osw c_7 (by decide), lv_osw c_8 (by decide)]; rfl) (by decide) ?_
    refine aw_bi F dX1_soundOfTwo_68 bi_m2 ?_
    exact aw_iret F T (Nat.le_of_ble_eq_true rfl) (Nat.le_of_ble_eq_true rfl) ⟨_, rfl, h⟩ dX1_soundOfTwo_70
-- X1_addSound (height 0)
def j_X1_addSound_38 (post : GH → Prop) (o : Nat) (v1 v2 v3 v4 s0 : Int32) (G : GH) : Prop :=
  ((v2 = (-1 : Int32) → post G) ∧ (¬ v2 = (-1 : Int32) → ((s0 = 0 → (((20 : Int32) ≤ v4 → post G) ∧ (¬ (20 : Int32) ≤ v4 → (vp_in (v3 + v4) 260 ∧ (∀ G_7 : GH, G_7 = gs G o 1 (upd (G o 1) (v3 + v4).toNatClampNeg (nb v2)) → (vp_in v1 13 ∧ (vp_in v1 13 ∧ (∀ G_8 : GH, G_8 = gs G_7 o 2 (upd (G_7 o 2) v1.toNatClampNeg ((G_7 o 2 v1.toNatClampNeg) + (1 : Int32))) → post G_8)))))))) ∧ (¬ s0 = 0 → post G))))
def j_X1_addSound_37 (post : GH → Prop) (o : Nat) (v1 v2 v3 v4 : Int32) (G : GH) : Prop :=
  j_X1_addSound_38 post o v1 v2 v3 v4 (0 : Int32) G
def wp_X1_addSound (post : GH → Prop) (o : Nat) (x1 x2 : Int32) (G : GH) : Prop :=
  (∀ y_1 : Int32, y_1 = (x1 * (20 : Int32)) → (vp_in x1 13 ∧ (∀ y_2 : Int32, y_2 = (G o 2 x1.toNatClampNeg) → ((y_2 ≤ 0 → j_X1_addSound_37 post o x1 x2 y_1 y_2 G) ∧ (¬ y_2 ≤ 0 → (vp_in ((y_1 + y_2) - (1 : Int32)) 260 ∧ (((nb (G o 1 ((y_1 + y_2) - (1 : Int32)).toNatClampNeg)) = x2 → j_X1_addSound_38 post o x1 x2 y_1 y_2 (1 : Int32) G) ∧ (¬ (nb (G o 1 ((y_1 + y_2) - (1 : Int32)).toNatClampNeg)) = x2 → j_X1_addSound_37 post o x1 x2 y_1 y_2 G))))))))
set_option maxRecDepth 100000 in
set_option maxHeartbeats 4000000 in
theorem kj_X1_addSound_38 {E : Ev} {X : Cx} {post : GH → Prop} {o : Nat} {v1 v2 v3 v4 s0 : Int32} {G : GH} (F : Fx E X "MarkField$Likeness" cX1_addSound 6) (T : RT E X 0 0 0 none (pV post)) (ho : stt o = true) (hc : oc o = 1) (h : j_X1_addSound_38 post o v1 v2 v3 v4 s0 G) : AW E X 6 38 [(0, .ref (sdX X o 0)), (1, .int v1), (2, .int v2), (3, .int v3), (4, .int v4)] [.int s0] G 0 0 := by
  have hP := F.P
  refine aw_is (lv1 := [(5, .int s0), (0, .ref (sdX X o 0)), (1, .int v1), (2, .int v2), (3, .int v3), (4, .int v4)]) F dX1_addSound_38 (by decide) rfl ?_
  refine aw_il_n F 3 dX1_addSound_40 rfl rfl ?_
  refine aw_ic F dX1_addSound_41 ic_m1 ?_
  refine aw_icmp_eq (tgt := 78) F dX1_addSound_42 (by decide) (fun c_4 => ?_) (fun c_4 => ?_)
  · replace h := h.1 c_4
    exact aw_vret F T (Nat.le_of_ble_eq_true rfl) (Nat.le_of_ble_eq_true rfl) ⟨rfl, h⟩ dX1_addSound_78
  · replace h := h.2 c_4
    refine aw_il F 0 dX1_addSound_45 rfl ?_
    refine aw_if_ne (tgt := 78) F dX1_addSound_47 (by decide) (fun c_5 => ?_) (fun c_5 => ?_)
    · replace h := h.2 c_5
      exact aw_vret F T (Nat.le_of_ble_eq_true rfl) (Nat.le_of_ble_eq_true rfl) ⟨rfl, h⟩ dX1_addSound_78
    · replace h := h.1 c_5
      refine aw_il F 5 dX1_addSound_50 rfl ?_
      refine aw_bi F dX1_addSound_52 bi_20 ?_
      refine aw_icmp_ge (tgt := 78) F dX1_addSound_54 (by decide) (fun c_6 => ?_) (fun c_6 => ?_)
      · replace h := h.1 c_6
        exact aw_vret F T (Nat.le_of_ble_eq_true rfl) (Nat.le_of_ble_eq_true rfl) ⟨rfl, h⟩ dX1_addSound_78
      · replace h := h.2 c_6
        refine aw_al_n F 1 dX1_addSound_57 rfl rfl ?_
        refine gr1_0 F (lo_s ho) (hP _ ho) hc w_170 (hP _ ho) dX1_addSound_58 ?_
        refine aw_il_n F 4 dX1_addSound_61 rfl rfl ?_
        refine aw_il F 5 dX1_addSound_62 rfl ?_
        refine aw_iadd F dX1_addSound_64 ?_
        refine aw_il_n F 3 dX1_addSound_65 rfl rfl ?_
        refine aw_i2b F dX1_addSound_66 ?_
        refine aw_bast F o 1 (lo_s ho) (hP _ ho) (al_of hc rfl) h.1 dX1_addSound_67 ?_
        refine aw_nG (fun G_7 eG_7 => ?_)
        replace h := h.2 G_7 eG_7
        refine aw_al_n F 1 dX1_addSound_68 rfl rfl ?_
        refine gr1_1 F (lo_s ho) (hP _ ho) hc w_172 (hP _ ho) dX1_addSound_69 ?_
        refine aw_il_n F 2 dX1_addSound_72 rfl rfl ?_
        refine aw_dup2 F dX1_addSound_73 rfl rfl ?_
        refine aw_iald F o 2 (lo_s ho) (hP _ ho) (al_of hc rfl) h.1 dX1_addSound_74 ?_
        replace h := h.2
        refine aw_ic F dX1_addSound_75 ic_1 ?_
        refine aw_iadd F dX1_addSound_76 ?_
        refine aw_iast F o 2 (lo_s ho) (hP _ ho) (al_of hc rfl) h.1 dX1_addSound_77 ?_
        refine aw_nG (fun G_8 eG_8 => ?_)
        replace h := h.2 G_8 eG_8
        exact aw_vret F T (Nat.le_of_ble_eq_true rfl) (Nat.le_of_ble_eq_true rfl) ⟨rfl, h⟩ dX1_addSound_78
set_option maxRecDepth 100000 in
set_option maxHeartbeats 4000000 in
theorem kj_X1_addSound_37 {E : Ev} {X : Cx} {post : GH → Prop} {o : Nat} {v1 v2 v3 v4 : Int32} {G : GH} (F : Fx E X "MarkField$Likeness" cX1_addSound 6) (T : RT E X 0 0 0 none (pV post)) (ho : stt o = true) (hc : oc o = 1) (h : j_X1_addSound_37 post o v1 v2 v3 v4 G) : AW E X 6 37 [(0, .ref (sdX X o 0)), (1, .int v1), (2, .int v2), (3, .int v3), (4, .int v4)] [] G 0 0 := by
  have hP := F.P
  refine aw_ic F dX1_addSound_37 ic_0 ?_
  exact kj_X1_addSound_38 F T ho hc h
set_option maxRecDepth 100000 in
set_option maxHeartbeats 4000000 in
theorem k_X1_addSound {l : Launch} {E : Ev} {P : Nat → Prop} {sd : Nat → Nat → Nat} {G : GH} {post : GH → Prop} {o : Nat} {x1 x2 : Int32} (hPP : ∀ o, stt o = true → P o) (ho : stt o = true) (hc : oc o = 1) (h : wp_X1_addSound post o x1 x2 G) : Ct l yX1_addSound cX1_addSound 6 none 0 0 0 E P sd G [.ref (sd o 0), .int x1, .int x2] (pV post) := by
  refine ct_of (own := "MarkField$Likeness") (by decide) rfl (Nat.le_of_ble_eq_true rfl) hPP (fun X F T el eP es => ?_)
  subst el; subst eP; subst es
  have hP := F.P
  change AW E X 6 0 [(0, .ref (sdX X o 0)), (1, .int x1), (2, .int x2)] [] G 0 0
  refine aw_il_n F 1 dX1_addSound_0 rfl rfl ?_
  refine aw_bi F dX1_addSound_1 bi_20 ?_
  refine aw_imul F dX1_addSound_3 ?_
  refine aw_top (fun y_1 ey_1 => ?_)
  replace h := h y_1 ey_1
  refine aw_is_n (lv1 := [(3, .int y_1), (0, .ref (sdX X o 0)), (1, .int x1), (2, .int x2)]) F dX1_addSound_4 rfl (by decide) rfl ?_
  refine aw_al_n F 1 dX1_addSound_5 rfl rfl ?_
  refine gr1_1 F (lo_s ho) (hP _ ho) hc w_172 (hP _ ho) dX1_addSound_6 ?_
  refine aw_il_n F 2 dX1_addSound_9 rfl rfl ?_
  refine aw_iald F o 2 (lo_s ho) (hP _ ho) (al_of hc rfl) h.1 dX1_addSound_10 ?_
  replace h := h.2
  refine aw_top (fun y_2 ey_2 => ?_)
  replace h := h y_2 ey_2
  refine aw_is (lv1 := [(4, .int y_2), (3, .int y_1), (0, .ref (sdX X o 0)), (1, .int x1), (2, .int x2)]) F dX1_addSound_11 (by decide) rfl ?_
  refine aw_il F 0 dX1_addSound_13 rfl ?_
  refine aw_if_le (tgt := 37) F dX1_addSound_15 (by decide) (fun c_3 => ?_) (fun c_3 => ?_)
  · replace h := h.1 c_3
    refine aw_sub [2, 3, 4, 1, 0] rfl ?_
    exact kj_X1_addSound_37 F T ho hc h
  · replace h := h.2 c_3
    refine aw_al_n F 2 dX1_addSound_18 rfl rfl ?_
    refine gr1_0 F (lo_s ho) (hP _ ho) hc w_170 (hP _ ho) dX1_addSound_19 ?_
    refine aw_il_n F 1 dX1_addSound_22 rfl rfl ?_
    refine aw_il F 0 dX1_addSound_23 rfl ?_
    refine aw_iadd F dX1_addSound_25 ?_
    refine aw_ic F dX1_addSound_26 ic_1 ?_
    refine aw_isub F dX1_addSound_27 ?_
    refine aw_bald F o 1 (lo_s ho) (hP _ ho) (al_of hc rfl) h.1 dX1_addSound_28 ?_
    replace h := h.2
    refine aw_il_n F 4 dX1_addSound_29 rfl rfl ?_
    refine aw_icmp_ne (tgt := 37) F dX1_addSound_30 (by decide) (fun c_9 => ?_) (fun c_9 => ?_)
    · replace h := h.2 c_9
      refine aw_sub [2, 3, 4, 1, 0] rfl ?_
      exact kj_X1_addSound_37 F T ho hc h
    · replace h := h.1 c_9
      refine aw_ic F dX1_addSound_33 ic_1 ?_
      refine aw_go (tgt := 38) F dX1_addSound_34 (by decide) ?_
      refine aw_sub [2, 3, 4, 1, 0] rfl ?_
      exact kj_X1_addSound_38 F T ho hc h
-- X1_soundOfOne (height 0)
def j_X1_soundOfOne_27 (post : Int32 → GH → Prop) (v0 v2 : Int32) (G : GH) : Prop :=
  (vp_in (v0 - (97 : Int32)) (sTb 2).length ∧ (∀ y_2 : Int32, y_2 = ((sTb 2).getD (v0 - (97 : Int32)).toNatClampNeg 0) → ((y_2 = 0 → ((v2 = 0 → post (-1 : Int32) G) ∧ (¬ v2 = 0 → post y_2 G))) ∧ (¬ y_2 = 0 → post y_2 G))))
def wp_X1_soundOfOne (post : Int32 → GH → Prop) (x0 x1 x2 : Int32) (G : GH) : Prop :=
  ((x0 = (99 : Int32) → ((x1 = (101 : Int32) → post (8 : Int32) G) ∧ (¬ x1 = (101 : Int32) → ((x1 = (105 : Int32) → post (8 : Int32) G) ∧ (¬ x1 = (105 : Int32) → ((x1 = (121 : Int32) → post (8 : Int32) G) ∧ (¬ x1 = (121 : Int32) → j_X1_soundOfOne_27 post x0 x2 G))))))) ∧ (¬ x0 = (99 : Int32) → j_X1_soundOfOne_27 post x0 x2 G))
set_option maxRecDepth 100000 in
set_option maxHeartbeats 4000000 in
theorem kj_X1_soundOfOne_27 {E : Ev} {X : Cx} {post : Int32 → GH → Prop} {v0 v2 : Int32} {G : GH} (F : Fx E X "MarkField$Likeness" cX1_soundOfOne 4) (T : RT E X 0 0 0 (some .int) (pI post)) (h : j_X1_soundOfOne_27 post v0 v2 G) : AW E X 4 27 [(0, .int v0), (2, .int v2)] [] G 0 0 := by
  have hP := F.P
  refine aw_gstN F 2 (by decide) (by decide) dX1_soundOfOne_27 ?_
  refine aw_il_n F 0 dX1_soundOfOne_30 rfl rfl ?_
  refine aw_bi F dX1_soundOfOne_31 bi_97 ?_
  refine aw_isub F dX1_soundOfOne_33 ?_
  refine aw_sald F 2 (by decide) h.1 dX1_soundOfOne_34 ?_
  replace h := h.2
  refine aw_top (fun y_2 ey_2 => ?_)
  replace h := h y_2 ey_2
  refine aw_is_n (lv1 := [(3, .int y_2), (0, .int v0), (2, .int v2)]) F dX1_soundOfOne_35 rfl (by decide) rfl ?_
  refine aw_il_n F 0 dX1_soundOfOne_36 rfl rfl ?_
  refine aw_if_ne (tgt := 48) F dX1_soundOfOne_37 (by decide) (fun c_3 => ?_) (fun c_3 => ?_)
  · replace h := h.2 c_3
    refine aw_il_n F 0 dX1_soundOfOne_48 rfl rfl ?_
    exact aw_iret F T (Nat.le_of_ble_eq_true rfl) (Nat.le_of_ble_eq_true rfl) ⟨_, rfl, h⟩ dX1_soundOfOne_49
  · replace h := h.1 c_3
    refine aw_il_n F 2 dX1_soundOfOne_40 rfl rfl ?_
    refine aw_if_ne (tgt := 48) F dX1_soundOfOne_41 (by decide) (fun c_4 => ?_) (fun c_4 => ?_)
    · replace h := h.2 c_4
      refine aw_il_n F 0 dX1_soundOfOne_48 rfl rfl ?_
      exact aw_iret F T (Nat.le_of_ble_eq_true rfl) (Nat.le_of_ble_eq_true rfl) ⟨_, rfl, h⟩ dX1_soundOfOne_49
    · replace h := h.1 c_4
      refine aw_ic F dX1_soundOfOne_44 ic_m1 ?_
      refine aw_go (tgt := 49) F dX1_soundOfOne_45 (by decide) ?_
      exact aw_iret F T (Nat.le_of_ble_eq_true rfl) (Nat.le_of_ble_eq_true rfl) ⟨_, rfl, h⟩ dX1_soundOfOne_49
set_option maxRecDepth 100000 in
set_option maxHeartbeats 4000000 in
theorem k_X1_soundOfOne {l : Launch} {E : Ev} {P : Nat → Prop} {sd : Nat → Nat → Nat} {G : GH} {post : Int32 → GH → Prop} {x0 x1 x2 : Int32} (hPP : ∀ o, stt o = true → P o) (h : wp_X1_soundOfOne post x0 x1 x2 G) : Ct l yX1_soundOfOne cX1_soundOfOne 4 (some .int) 0 0 0 E P sd G [.int x0, .int x1, .int x2] (pI post) := by
  refine ct_of (own := "MarkField$Likeness") (by decide) rfl (Nat.le_of_ble_eq_true rfl) hPP (fun X F T el eP es => ?_)
  subst el; subst eP; subst es
  have hP := F.P
  change AW E X 4 0 [(0, .int x0), (1, .int x1), (2, .int x2)] [] G 0 0
  refine aw_il_n F 0 dX1_soundOfOne_0 rfl rfl ?_
  refine aw_bi F dX1_soundOfOne_1 bi_99 ?_
  refine aw_icmp_ne (tgt := 27) F dX1_soundOfOne_3 (by decide) (fun c_1 => ?_) (fun c_1 => ?_)
  · replace h := h.2 c_1
    refine aw_sub [0, 2] rfl ?_
    exact kj_X1_soundOfOne_27 F T h
  · replace h := h.1 c_1
    refine aw_il_n F 1 dX1_soundOfOne_6 rfl rfl ?_
    refine aw_bi F dX1_soundOfOne_7 bi_101 ?_
    refine aw_icmp_eq (tgt := 24) F dX1_soundOfOne_9 (by decide) (fun c_5 => ?_) (fun c_5 => ?_)
    · replace h := h.1 c_5
      refine aw_bi F dX1_soundOfOne_24 bi_8 ?_
      exact aw_iret F T (Nat.le_of_ble_eq_true rfl) (Nat.le_of_ble_eq_true rfl) ⟨_, rfl, h⟩ dX1_soundOfOne_26
    · replace h := h.2 c_5
      refine aw_il_n F 1 dX1_soundOfOne_12 rfl rfl ?_
      refine aw_bi F dX1_soundOfOne_13 bi_105 ?_
      refine aw_icmp_eq (tgt := 24) F dX1_soundOfOne_15 (by decide) (fun c_6 => ?_) (fun c_6 => ?_)
      · replace h := h.1 c_6
        refine aw_bi F dX1_soundOfOne_24 bi_8 ?_
        exact aw_iret F T (Nat.le_of_ble_eq_true rfl) (Nat.le_of_ble_eq_true rfl) ⟨_, rfl, h⟩ dX1_soundOfOne_26
      · replace h := h.2 c_6
        refine aw_il_n F 1 dX1_soundOfOne_18 rfl rfl ?_
        refine aw_bi F dX1_soundOfOne_19 bi_121 ?_
        refine aw_icmp_ne (tgt := 27) F dX1_soundOfOne_21 (by decide) (fun c_7 => ?_) (fun c_7 => ?_)
        · replace h := h.2 c_7
          refine aw_sub [0, 2] rfl ?_
          exact kj_X1_soundOfOne_27 F T h
        · replace h := h.1 c_7
          refine aw_bi F dX1_soundOfOne_24 bi_8 ?_
          exact aw_iret F T (Nat.le_of_ble_eq_true rfl) (Nat.le_of_ble_eq_true rfl) ⟨_, rfl, h⟩ dX1_soundOfOne_26
-- X1_hear (height 1)
def j_X1_hear_147 (post : GH → Prop) (P26 : Int32 → Int32 → Int32 → Int32 → Int32 → GH → Prop) (o : Nat) (o1 : Nat) (v2 v3 v4 v5 v6 v9 : Int32) (G : GH) : Prop :=
  wp_X1_addSound (fun (G_15 : GH) => P26 v2 v3 v4 (v5 + (1 : Int32)) (v6 + (1 : Int32)) G_15) o v2 v9 G
def j_X1_hear_142 (post : GH → Prop) (P26 : Int32 → Int32 → Int32 → Int32 → Int32 → GH → Prop) (o : Nat) (o1 : Nat) (v2 v3 v4 v5 v6 s0 s1 s2 : Int32) (G : GH) : Prop :=
  wp_X1_soundOfOne (fun (r_14 : Int32) (G_13 : GH) => j_X1_hear_147 post P26 o o1 v2 v3 v4 v5 v6 r_14 G_13) s0 s1 s2 G
def j_X1_hear_84 (post : GH → Prop) (P26 : Int32 → Int32 → Int32 → Int32 → Int32 → GH → Prop) (o : Nat) (o1 : Nat) (v2 v3 v4 v5 v6 v7 s0 : Int32) (G : GH) : Prop :=
  wp_X1_soundOfTwo (fun (r_9 : Int32) (G_8 : GH) => ((r_9 = (-2 : Int32) → ((v7 = (120 : Int32) → wp_X1_addSound (fun (G_17 : GH) => j_X1_hear_147 post P26 o o1 v2 v3 v4 v5 v6 (8 : Int32) G_17) o v2 (2 : Int32) G_8) ∧ (¬ v7 = (120 : Int32) → ((v5 = 0 → j_X1_hear_142 post P26 o o1 v2 v3 v4 v5 v6 v7 s0 (1 : Int32) G_8) ∧ (¬ v5 = 0 → j_X1_hear_142 post P26 o o1 v2 v3 v4 v5 v6 v7 s0 (0 : Int32) G_8))))) ∧ (¬ r_9 = (-2 : Int32) → j_X1_hear_147 post P26 o o1 v2 v3 v4 (v5 + (1 : Int32)) v6 r_9 G_8))) v7 s0 G
def lb_X1_hear_26 (post : GH → Prop) (o : Nat) (o1 : Nat) (P26 : Int32 → Int32 → Int32 → Int32 → Int32 → GH → Prop) (v2 v3 v4 v5 v6 : Int32) (G : GH) : Prop :=
  (((10 : Int32) ≤ v6 → post G) ∧ (¬ (10 : Int32) ≤ v6 → ((v4 ≤ v5 → post G) ∧ (¬ v4 ≤ v5 → (vp_in (v3 + v5) 130 ∧ (∀ y_6 : Int32, y_6 = (((((97 : Int32) + (nb (G o1 6 (v3 + v5).toNatClampNeg)))).toUInt32 % 65536).toInt32) → ((v4 ≤ (v5 + (1 : Int32)) → j_X1_hear_84 post P26 o o1 v2 v3 v4 v5 v6 y_6 (32 : Int32) G) ∧ (¬ v4 ≤ (v5 + (1 : Int32)) → (vp_in ((v3 + v5) + (1 : Int32)) 130 ∧ j_X1_hear_84 post P26 o o1 v2 v3 v4 v5 v6 y_6 (((((97 : Int32) + (nb (G o1 6 ((v3 + v5) + (1 : Int32)).toNatClampNeg)))).toUInt32 % 65536).toInt32) G)))))))))
def lp_X1_hear_26 (post : GH → Prop) (o : Nat) (o1 : Nat) (v2 v3 v4 v5 v6 : Int32) (G : GH) : Prop := ∀ P26 : Int32 → Int32 → Int32 → Int32 → Int32 → GH → Prop, (∀ (v2 v3 v4 v5 v6 : Int32) (G : GH), lb_X1_hear_26 post o o1 P26 v2 v3 v4 v5 v6 G → P26 v2 v3 v4 v5 v6 G) → P26 v2 v3 v4 v5 v6 G
def wp_X1_hear (post : GH → Prop) (o : Nat) (o1 : Nat) (x2 : Int32) (G : GH) : Prop :=
  (∀ y_1 : Int32, y_1 = (x2 * (10 : Int32)) → (vp_in x2 13 ∧ (∀ y_2 : Int32, y_2 = (G o1 5 x2.toNatClampNeg) → (vp_in x2 13 ∧ (∀ G_3 : GH, G_3 = gs G o 2 (upd (G o 2) x2.toNatClampNeg (0 : Int32)) → lp_X1_hear_26 post o o1 x2 y_1 y_2 (0 : Int32) (0 : Int32) G_3)))))
set_option maxRecDepth 100000 in
set_option maxHeartbeats 4000000 in
theorem kj_X1_hear_147 {E : Ev} {X : Cx} {post : GH → Prop} {P26 : Int32 → Int32 → Int32 → Int32 → Int32 → GH → Prop} {o : Nat} {o1 : Nat} {v2 v3 v4 v5 v6 v9 : Int32} {G : GH} (F : Fx E X "MarkField$Likeness" cX1_hear 10) (T : RT E X 1 0 0 none (pV post)) (ho : stt o = true) (hc : oc o = 1) (ho1 : stt o1 = true) (hc1 : oc o1 = 4) (K26 : ∀ (v2 v3 v4 v5 v6 : Int32) (G : GH), P26 v2 v3 v4 v5 v6 G → AW E X 10 26 [(0, .ref (sdX X o 0)), (1, .ref (sdX X o1 0)), (2, .int v2), (3, .int v3), (4, .int v4), (5, .int v5), (6, .int v6)] [] G 0 0) (h : j_X1_hear_147 post P26 o o1 v2 v3 v4 v5 v6 v9 G) : AW E X 10 147 [(0, .ref (sdX X o 0)), (1, .ref (sdX X o1 0)), (2, .int v2), (3, .int v3), (4, .int v4), (5, .int v5), (6, .int v6), (9, .int v9)] [] G 0 0 := by
  have hP := F.P
  refine aw_al_n F 0 dX1_hear_147 rfl rfl ?_
  refine aw_il_n F 2 dX1_hear_148 rfl rfl ?_
  refine aw_il F 7 dX1_hear_149 rfl ?_
  refine aw_cVv (stk := []) F T.room [.int v2, .int v9] (k_X1_addSound hP ho hc h) mv_X1_addSound w_650 cf1 (lo_s ho) (hP _ ho) hc (by decide) rfl rfl (Nat.le_of_ble_eq_true rfl) ⟨(Nat.le_of_ble_eq_true rfl), (Nat.le_of_ble_eq_true rfl)⟩ ⟨(Nat.le_of_ble_eq_true rfl), (Nat.le_of_ble_eq_true rfl)⟩ dX1_hear_151 (fun G_15 h => ?_)
  refine aw_inc (lv1 := [(5, .int (v5 + (1 : Int32))), (0, .ref (sdX X o 0)), (1, .ref (sdX X o1 0)), (2, .int v2), (3, .int v3), (4, .int v4), (6, .int v6), (9, .int v9)]) F 5 dX1_hear_154 rfl (in_1 _) (by decide) rfl ?_
  refine aw_inc (lv1 := [(6, .int (v6 + (1 : Int32))), (5, .int (v5 + (1 : Int32))), (0, .ref (sdX X o 0)), (1, .ref (sdX X o1 0)), (2, .int v2), (3, .int v3), (4, .int v4), (9, .int v9)]) F 6 dX1_hear_157 rfl (in_1 _) (by decide) rfl ?_
  refine aw_go (tgt := 26) F dX1_hear_160 (by decide) ?_
  refine aw_sub [2, 3, 4, 5, 6, 1, 0] rfl ?_
  exact K26 _ _ _ _ _ _ h
set_option maxRecDepth 100000 in
set_option maxHeartbeats 4000000 in
theorem kj_X1_hear_142 {E : Ev} {X : Cx} {post : GH → Prop} {P26 : Int32 → Int32 → Int32 → Int32 → Int32 → GH → Prop} {o : Nat} {o1 : Nat} {v2 v3 v4 v5 v6 s0 s1 s2 : Int32} {G : GH} (F : Fx E X "MarkField$Likeness" cX1_hear 10) (T : RT E X 1 0 0 none (pV post)) (ho : stt o = true) (hc : oc o = 1) (ho1 : stt o1 = true) (hc1 : oc o1 = 4) (K26 : ∀ (v2 v3 v4 v5 v6 : Int32) (G : GH), P26 v2 v3 v4 v5 v6 G → AW E X 10 26 [(0, .ref (sdX X o 0)), (1, .ref (sdX X o1 0)), (2, .int v2), (3, .int v3), (4, .int v4), (5, .int v5), (6, .int v6)] [] G 0 0) (h : j_X1_hear_142 post P26 o o1 v2 v3 v4 v5 v6 s0 s1 s2 G) : AW E X 10 142 [(0, .ref (sdX X o 0)), (1, .ref (sdX X o1 0)), (2, .int v2), (3, .int v3), (4, .int v4), (5, .int v5), (6, .int v6)] [.int s2, .int s1, .int s0] G 0 0 := by
  have hP := F.P
  refine aw_cSi (stk := []) F T.room [.int s0, .int s1, .int s2] (k_X1_soundOfOne hP h) ms_X1_soundOfOne w_654 rfl rfl (Nat.le_of_ble_eq_true rfl) ⟨(Nat.le_of_ble_eq_true rfl), (Nat.le_of_ble_eq_true rfl)⟩ ⟨(Nat.le_of_ble_eq_true rfl), (Nat.le_of_ble_eq_true rfl)⟩ dX1_hear_142 (fun r_14 G_13 h => ?_)
  refine aw_is (lv1 := [(9, .int r_14), (0, .ref (sdX X o 0)), (1, .ref (sdX X o1 0)), (2, .int v2), (3, .int v3), (4, .int v4), (5, .int v5), (6, .int v6)]) F dX1_hear_145 (by decide) rfl ?_
  refine aw_sub [1, 2, 3, 4, 5, 6, 7, 0] rfl ?_
  exact kj_X1_hear_147 F T ho hc ho1 hc1 K26 h
set_option maxRecDepth 100000 in
set_option maxHeartbeats 4000000 in
theorem kj_X1_hear_84 {E : Ev} {X : Cx} {post : GH → Prop} {P26 : Int32 → Int32 → Int32 → Int32 → Int32 → GH → Prop} {o : Nat} {o1 : Nat} {v2 v3 v4 v5 v6 v7 s0 : Int32} {G : GH} (F : Fx E X "MarkField$Likeness" cX1_hear 10) (T : RT E X 1 0 0 none (pV post)) (ho : stt o = true) (hc : oc o = 1) (ho1 : stt o1 = true) (hc1 : oc o1 = 4) (K26 : ∀ (v2 v3 v4 v5 v6 : Int32) (G : GH), P26 v2 v3 v4 v5 v6 G → AW E X 10 26 [(0, .ref (sdX X o 0)), (1, .ref (sdX X o1 0)), (2, .int v2), (3, .int v3), (4, .int v4), (5, .int v5), (6, .int v6)] [] G 0 0) (h : j_X1_hear_84 post P26 o o1 v2 v3 v4 v5 v6 v7 s0 G) : AW E X 10 84 [(0, .ref (sdX X o 0)), (1, .ref (sdX X o1 0)), (2, .int v2), (3, .int v3), (4, .int v4), (5, .int v5), (6, .int v6), (7, .int v7)] [.int s0] G 0 0 := by
  have hP := F.P
  refine aw_is (lv1 := [(8, .int s0), (0, .ref (sdX X o 0)), (1, .ref (sdX X o1 0)), (2, .int v2), (3, .int v3), (4, .int v4), (5, .int v5), (6, .int v6), (7, .int v7)]) F dX1_hear_84 (by decide) rfl ?_
  refine aw_il F 8 dX1_hear_86 rfl ?_
  refine aw_il F 0 dX1_hear_88 rfl ?_
  refine aw_cSi (stk := []) F T.room [.int v7, .int s0] (k_X1_soundOfTwo hP h) ms_X1_soundOfTwo w_647 rfl rfl (Nat.le_of_ble_eq_true rfl) ⟨(Nat.le_of_ble_eq_true rfl), (Nat.le_of_ble_eq_true rfl)⟩ ⟨(Nat.le_of_ble_eq_true rfl), (Nat.le_of_ble_eq_true rfl)⟩ dX1_hear_90 (fun r_9 G_8 h => ?_)
  refine aw_is (lv1 := [(9, .int r_9), (8, .int s0), (0, .ref (sdX X o 0)), (1, .ref (sdX X o1 0)), (2, .int v2), (3, .int v3), (4, .int v4), (5, .int v5), (6, .int v6), (7, .int v7)]) F dX1_hear_93 (by decide) rfl ?_
  refine aw_il F 0 dX1_hear_95 rfl ?_
  refine aw_bi F dX1_hear_97 bi_m2 ?_
  refine aw_icmp_eq (tgt := 108) F dX1_hear_99 (by decide) (fun c_10 => ?_) (fun c_10 => ?_)
  · replace h := h.1 c_10
    refine aw_il F 9 dX1_hear_108 rfl ?_
    refine aw_bi F dX1_hear_110 bi_120 ?_
    refine aw_icmp_ne (tgt := 128) F dX1_hear_112 (by decide) (fun c_11 => ?_) (fun c_11 => ?_)
    · replace h := h.2 c_11
      refine aw_il F 9 dX1_hear_128 rfl ?_
      refine aw_il F 1 dX1_hear_130 rfl ?_
      refine aw_il F 7 dX1_hear_132 rfl ?_
      refine aw_if_ne (tgt := 141) F dX1_hear_134 (by decide) (fun c_12 => ?_) (fun c_12 => ?_)
      · replace h := h.2 c_12
        refine aw_ic F dX1_hear_141 ic_0 ?_
        refine aw_sub [2, 3, 4, 5, 6, 7, 8] rfl ?_
        exact kj_X1_hear_142 F T ho hc ho1 hc1 K26 h
      · replace h := h.1 c_12
        refine aw_ic F dX1_hear_137 ic_1 ?_
        refine aw_go (tgt := 142) F dX1_hear_138 (by decide) ?_
        refine aw_sub [2, 3, 4, 5, 6, 7, 8] rfl ?_
        exact kj_X1_hear_142 F T ho hc ho1 hc1 K26 h
    · replace h := h.1 c_11
      refine aw_al_n F 2 dX1_hear_115 rfl rfl ?_
      refine aw_il_n F 4 dX1_hear_116 rfl rfl ?_
      refine aw_ic F dX1_hear_117 ic_2 ?_
      refine aw_cVv (stk := []) F T.room [.int v2, .int (2 : Int32)] (k_X1_addSound hP ho hc h) mv_X1_addSound w_650 cf1 (lo_s ho) (hP _ ho) hc (by decide) rfl rfl (Nat.le_of_ble_eq_true rfl) ⟨(Nat.le_of_ble_eq_true rfl), (Nat.le_of_ble_eq_true rfl)⟩ ⟨(Nat.le_of_ble_eq_true rfl), (Nat.le_of_ble_eq_true rfl)⟩ dX1_hear_118 (fun G_17 h => ?_)
      refine aw_bi F dX1_hear_121 bi_8 ?_
      refine aw_is (lv1 := [(9, .int (8 : Int32)), (8, .int s0), (0, .ref (sdX X o 0)), (1, .ref (sdX X o1 0)), (2, .int v2), (3, .int v3), (4, .int v4), (5, .int v5), (6, .int v6), (7, .int v7)]) F dX1_hear_123 (by decide) rfl ?_
      refine aw_go (tgt := 147) F dX1_hear_125 (by decide) ?_
      refine aw_sub [2, 3, 4, 5, 6, 7, 8, 0] rfl ?_
      exact kj_X1_hear_147 F T ho hc ho1 hc1 K26 h
  · replace h := h.2 c_10
    refine aw_inc (lv1 := [(5, .int (v5 + (1 : Int32))), (9, .int r_9), (8, .int s0), (0, .ref (sdX X o 0)), (1, .ref (sdX X o1 0)), (2, .int v2), (3, .int v3), (4, .int v4), (6, .int v6), (7, .int v7)]) F 7 dX1_hear_102 rfl (in_1 _) (by decide) rfl ?_
    refine aw_go (tgt := 147) F dX1_hear_105 (by decide) ?_
    refine aw_sub [3, 4, 5, 6, 7, 0, 8, 1] rfl ?_
    exact kj_X1_hear_147 F T ho hc ho1 hc1 K26 h
set_option maxRecDepth 100000 in
set_option maxHeartbeats 4000000 in
theorem kl_X1_hear_26 {E : Ev} {X : Cx} {post : GH → Prop} {o : Nat} {o1 : Nat} {v2 v3 v4 v5 v6 : Int32} {G : GH} (F : Fx E X "MarkField$Likeness" cX1_hear 10) (T : RT E X 1 0 0 none (pV post)) (ho : stt o = true) (hc : oc o = 1) (ho1 : stt o1 = true) (hc1 : oc o1 = 4) (h : lp_X1_hear_26 post o o1 v2 v3 v4 v5 v6 G) : AW E X 10 26 [(0, .ref (sdX X o 0)), (1, .ref (sdX X o1 0)), (2, .int v2), (3, .int v3), (4, .int v4), (5, .int v5), (6, .int v6)] [] G 0 0 := by
  have hP := F.P
  have K26 : ∀ (v2 v3 v4 v5 v6 : Int32) (G : GH), AW E X 10 26 [(0, .ref (sdX X o 0)), (1, .ref (sdX X o1 0)), (2, .int v2), (3, .int v3), (4, .int v4), (5, .int v5), (6, .int v6)] [] G 0 0 → AW E X 10 26 [(0, .ref (sdX X o 0)), (1, .ref (sdX X o1 0)), (2, .int v2), (3, .int v3), (4, .int v4), (5, .int v5), (6, .int v6)] [] G 0 0 := fun _ _ _ _ _ _ q => q
  refine h (fun (v2 v3 v4 v5 v6 : Int32) (G : GH) => AW E X 10 26 [(0, .ref (sdX X o 0)), (1, .ref (sdX X o1 0)), (2, .int v2), (3, .int v3), (4, .int v4), (5, .int v5), (6, .int v6)] [] G 0 0) (fun (v2 v3 v4 v5 v6 : Int32) (G : GH) h => ?_)
  refine aw_il F 6 dX1_hear_26 rfl ?_
  refine aw_bi F dX1_hear_28 bi_10 ?_
  refine aw_icmp_ge (tgt := 163) F dX1_hear_30 (by decide) (fun c_4 => ?_) (fun c_4 => ?_)
  · replace h := h.1 c_4
    exact aw_vret F T (Nat.le_of_ble_eq_true rfl) (Nat.le_of_ble_eq_true rfl) ⟨rfl, h⟩ dX1_hear_163
  · replace h := h.2 c_4
    refine aw_il F 5 dX1_hear_33 rfl ?_
    refine aw_il F 4 dX1_hear_35 rfl ?_
    refine aw_icmp_ge (tgt := 163) F dX1_hear_37 (by decide) (fun c_5 => ?_) (fun c_5 => ?_)
    · replace h := h.1 c_5
      exact aw_vret F T (Nat.le_of_ble_eq_true rfl) (Nat.le_of_ble_eq_true rfl) ⟨rfl, h⟩ dX1_hear_163
    · replace h := h.2 c_5
      refine aw_bi F dX1_hear_40 bi_97 ?_
      refine aw_al_n F 1 dX1_hear_42 rfl rfl ?_
      refine gr4_5 F (lo_s ho1) (hP _ ho1) hc1 w_102 (hP _ ho1) dX1_hear_43 ?_
      refine aw_il_n F 3 dX1_hear_46 rfl rfl ?_
      refine aw_il F 5 dX1_hear_47 rfl ?_
      refine aw_iadd F dX1_hear_49 ?_
      refine aw_bald F o1 6 (lo_s ho1) (hP _ ho1) (al_of hc1 rfl) h.1 dX1_hear_50 ?_
      replace h := h.2
      refine aw_iadd F dX1_hear_51 ?_
      refine aw_i2c F dX1_hear_52 ?_
      refine aw_top (fun y_6 ey_6 => ?_)
      replace h := h y_6 ey_6
      refine aw_is (lv1 := [(7, .int y_6), (0, .ref (sdX X o 0)), (1, .ref (sdX X o1 0)), (2, .int v2), (3, .int v3), (4, .int v4), (5, .int v5), (6, .int v6)]) F dX1_hear_53 (by decide) rfl ?_
      refine aw_il F 6 dX1_hear_55 rfl ?_
      refine aw_ic F dX1_hear_57 ic_1 ?_
      refine aw_iadd F dX1_hear_58 ?_
      refine aw_il F 5 dX1_hear_59 rfl ?_
      refine aw_icmp_ge (tgt := 82) F dX1_hear_61 (by decide) (fun c_7 => ?_) (fun c_7 => ?_)
      · replace h := h.1 c_7
        refine aw_bi F dX1_hear_82 bi_32 ?_
        refine aw_sub [1, 2, 3, 4, 5, 6, 7, 0] rfl ?_
        exact kj_X1_hear_84 F T ho hc ho1 hc1 K26 h
      · replace h := h.2 c_7
        refine aw_bi F dX1_hear_64 bi_97 ?_
        refine aw_al_n F 2 dX1_hear_66 rfl rfl ?_
        refine gr4_5 F (lo_s ho1) (hP _ ho1) hc1 w_102 (hP _ ho1) dX1_hear_67 ?_
        refine aw_il_n F 4 dX1_hear_70 rfl rfl ?_
        refine aw_il F 6 dX1_hear_71 rfl ?_
        refine aw_iadd F dX1_hear_73 ?_
        refine aw_ic F dX1_hear_74 ic_1 ?_
        refine aw_iadd F dX1_hear_75 ?_
        refine aw_bald F o1 6 (lo_s ho1) (hP _ ho1) (al_of hc1 rfl) h.1 dX1_hear_76 ?_
        replace h := h.2
        refine aw_iadd F dX1_hear_77 ?_
        refine aw_i2c F dX1_hear_78 ?_
        refine aw_go (tgt := 84) F dX1_hear_79 (by decide) ?_
        refine aw_sub [1, 2, 3, 4, 5, 6, 7, 0] rfl ?_
        exact kj_X1_hear_84 F T ho hc ho1 hc1 K26 h
set_option maxRecDepth 100000 in
set_option maxHeartbeats 4000000 in
theorem k_X1_hear {l : Launch} {E : Ev} {P : Nat → Prop} {sd : Nat → Nat → Nat} {G : GH} {post : GH → Prop} {o : Nat} {o1 : Nat} {x2 : Int32} (hPP : ∀ o, stt o = true → P o) (ho : stt o = true) (hc : oc o = 1) (ho1 : stt o1 = true) (hc1 : oc o1 = 4) (h : wp_X1_hear post o o1 x2 G) : Ct l yX1_hear cX1_hear 10 none 1 0 0 E P sd G [.ref (sd o 0), .ref (sd o1 0), .int x2] (pV post) := by
  refine ct_of (own := "MarkField$Likeness") (by decide) rfl (Nat.le_of_ble_eq_true rfl) hPP (fun X F T el eP es => ?_)
  subst el; subst eP; subst es
  have hP := F.P
  change AW E X 10 0 [(0, .ref (sdX X o 0)), (1, .ref (sdX X o1 0)), (2, .int x2)] [] G 0 0
  refine aw_il_n F 2 dX1_hear_0 rfl rfl ?_
  refine aw_bi F dX1_hear_1 bi_10 ?_
  refine aw_imul F dX1_hear_3 ?_
  refine aw_top (fun y_1 ey_1 => ?_)
  replace h := h y_1 ey_1
  refine aw_is_n (lv1 := [(3, .int y_1), (0, .ref (sdX X o 0)), (1, .ref (sdX X o1 0)), (2, .int x2)]) F dX1_hear_4 rfl (by decide) rfl ?_
  refine aw_al_n F 2 dX1_hear_5 rfl rfl ?_
  refine gr4_4 F (lo_s ho1) (hP _ ho1) hc1 w_99 (hP _ ho1) dX1_hear_6 ?_
  refine aw_il_n F 3 dX1_hear_9 rfl rfl ?_
  refine aw_iald F o1 5 (lo_s ho1) (hP _ ho1) (al_of hc1 rfl) h.1 dX1_hear_10 ?_
  replace h := h.2
  refine aw_top (fun y_2 ey_2 => ?_)
  replace h := h y_2 ey_2
  refine aw_is (lv1 := [(4, .int y_2), (3, .int y_1), (0, .ref (sdX X o 0)), (1, .ref (sdX X o1 0)), (2, .int x2)]) F dX1_hear_11 (by decide) rfl ?_
  refine aw_al_n F 2 dX1_hear_13 rfl rfl ?_
  refine gr1_1 F (lo_s ho) (hP _ ho) hc w_172 (hP _ ho) dX1_hear_14 ?_
  refine aw_il_n F 4 dX1_hear_17 rfl rfl ?_
  refine aw_ic F dX1_hear_18 ic_0 ?_
  refine aw_iast F o 2 (lo_s ho) (hP _ ho) (al_of hc rfl) h.1 dX1_hear_19 ?_
  refine aw_nG (fun G_3 eG_3 => ?_)
  replace h := h.2 G_3 eG_3
  refine aw_ic F dX1_hear_20 ic_0 ?_
  refine aw_is (lv1 := [(5, .int (0 : Int32)), (4, .int y_2), (3, .int y_1), (0, .ref (sdX X o 0)), (1, .ref (sdX X o1 0)), (2, .int x2)]) F dX1_hear_21 (by decide) rfl ?_
  refine aw_ic F dX1_hear_23 ic_0 ?_
  refine aw_is (lv1 := [(6, .int (0 : Int32)), (5, .int (0 : Int32)), (4, .int y_2), (3, .int y_1), (0, .ref (sdX X o 0)), (1, .ref (sdX X o1 0)), (2, .int x2)]) F dX1_hear_24 (by decide) rfl ?_
  refine aw_sub [4, 5, 6, 3, 2, 1, 0] rfl ?_
  exact kl_X1_hear_26 F T ho hc ho1 hc1 h
-- X1_costOf (height 0)
def j_X1_costOf_168 (post : Int32 → GH → Prop) (P30 : Int32 → Int32 → Int32 → Int32 → Int32 → GH → Prop) (P76 : Int32 → Int32 → Int32 → Int32 → Int32 → Int32 → Int32 → Int32 → Int32 → Int32 → GH → Prop) (o : Nat) (o1 k1 m1 : Nat) (t6 : Nat) (v2 v3 v4 v5 v7 v8 v9 v12 v14 v15 : Int32) (G : GH) : Prop :=
  (vp_in (v12 + (1 : Int32)) 21 ∧ (∀ G_12 : GH, G_12 = gs G o 8 (upd (G o 8) (v12 + (1 : Int32)).toNatClampNeg v15) → P76 v2 v3 v4 v5 v7 v8 v9 v14 v15 (v12 + (1 : Int32)) G_12))
def j_X1_costOf_166 (post : Int32 → GH → Prop) (P30 : Int32 → Int32 → Int32 → Int32 → Int32 → GH → Prop) (P76 : Int32 → Int32 → Int32 → Int32 → Int32 → Int32 → Int32 → Int32 → Int32 → Int32 → GH → Prop) (o : Nat) (o1 k1 m1 : Nat) (t6 : Nat) (v2 v3 v4 v5 v7 v8 v9 v12 v14 s0 : Int32) (G : GH) : Prop :=
  j_X1_costOf_168 post P30 P76 o o1 k1 m1 t6 v2 v3 v4 v5 v7 v8 v9 v12 v14 s0 G
def j_X1_costOf_148 (post : Int32 → GH → Prop) (P30 : Int32 → Int32 → Int32 → Int32 → Int32 → GH → Prop) (P76 : Int32 → Int32 → Int32 → Int32 → Int32 → Int32 → Int32 → Int32 → Int32 → Int32 → GH → Prop) (o : Nat) (o1 k1 m1 : Nat) (t6 : Nat) (v2 v3 v4 v5 v7 v8 v9 v12 v14 v15 s0 : Int32) (G : GH) : Prop :=
  (∀ y_16 : Int32, y_16 = (s0 + (2 : Int32)) → ((v15 ≤ y_16 → j_X1_costOf_166 post P30 P76 o o1 k1 m1 t6 v2 v3 v4 v5 v7 v8 v9 v12 v14 v15 G) ∧ (¬ v15 ≤ y_16 → j_X1_costOf_166 post P30 P76 o o1 k1 m1 t6 v2 v3 v4 v5 v7 v8 v9 v12 v14 y_16 G)))
def j_X1_costOf_131 (post : Int32 → GH → Prop) (P30 : Int32 → Int32 → Int32 → Int32 → Int32 → GH → Prop) (P76 : Int32 → Int32 → Int32 → Int32 → Int32 → Int32 → Int32 → Int32 → Int32 → Int32 → GH → Prop) (o : Nat) (o1 k1 m1 : Nat) (t6 : Nat) (v2 v3 v4 v5 v7 v8 v9 v11 v12 v14 s0 s1 : Int32) (G : GH) : Prop :=
  (∀ y_14 : Int32, y_14 = (s0 + s1) → ((v14 ≤ v11 → j_X1_costOf_148 post P30 P76 o o1 k1 m1 t6 v2 v3 v4 v5 v7 v8 v9 v12 v14 y_14 v14 G) ∧ (¬ v14 ≤ v11 → j_X1_costOf_148 post P30 P76 o o1 k1 m1 t6 v2 v3 v4 v5 v7 v8 v9 v12 v14 y_14 v11 G)))
def lb_X1_costOf_76 (post : Int32 → GH → Prop) (P30 : Int32 → Int32 → Int32 → Int32 → Int32 → GH → Prop) (o : Nat) (o1 k1 m1 : Nat) (t6 : Nat) (P76 : Int32 → Int32 → Int32 → Int32 → Int32 → Int32 → Int32 → Int32 → Int32 → Int32 → GH → Prop) (v2 v3 v4 v5 v7 v8 v9 v10 v11 v12 : Int32) (G : GH) : Prop :=
  ((v5 ≤ v12 → P30 v2 v3 v4 v5 (v7 + (1 : Int32)) G) ∧ (¬ v5 ≤ v12 → (vp_in (v4 + v12) m1 ∧ (∀ y_9 : Int32, y_9 = (nb (G o1 k1 (v4 + v12).toNatClampNeg)) → (vp_in (v12 + (1 : Int32)) 21 ∧ (∀ y_10 : Int32, y_10 = (G o 8 (v12 + (1 : Int32)).toNatClampNeg) → ((v8 = y_9 → j_X1_costOf_168 post P30 P76 o o1 k1 m1 t6 v2 v3 v4 v5 v7 v8 v9 v12 y_10 v10 G) ∧ (¬ v8 = y_9 → ((((v9 >>> (y_9 &&& 31)) &&& (1 : Int32)) = 0 → j_X1_costOf_131 post P30 P76 o o1 k1 m1 t6 v2 v3 v4 v5 v7 v8 v9 v11 v12 y_10 v10 (2 : Int32) G) ∧ (¬ ((v9 >>> (y_9 &&& 31)) &&& (1 : Int32)) = 0 → j_X1_costOf_131 post P30 P76 o o1 k1 m1 t6 v2 v3 v4 v5 v7 v8 v9 v11 v12 y_10 v10 (1 : Int32) G))))))))))
def lp_X1_costOf_76 (post : Int32 → GH → Prop) (P30 : Int32 → Int32 → Int32 → Int32 → Int32 → GH → Prop) (o : Nat) (o1 k1 m1 : Nat) (t6 : Nat) (v2 v3 v4 v5 v7 v8 v9 v10 v11 v12 : Int32) (G : GH) : Prop := ∀ P76 : Int32 → Int32 → Int32 → Int32 → Int32 → Int32 → Int32 → Int32 → Int32 → Int32 → GH → Prop, (∀ (v2 v3 v4 v5 v7 v8 v9 v10 v11 v12 : Int32) (G : GH), lb_X1_costOf_76 post P30 o o1 k1 m1 t6 P76 v2 v3 v4 v5 v7 v8 v9 v10 v11 v12 G → P76 v2 v3 v4 v5 v7 v8 v9 v10 v11 v12 G) → P76 v2 v3 v4 v5 v7 v8 v9 v10 v11 v12 G
def lb_X1_costOf_30 (post : Int32 → GH → Prop) (o : Nat) (o1 k1 m1 : Nat) (t6 : Nat) (P30 : Int32 → Int32 → Int32 → Int32 → Int32 → GH → Prop) (v2 v3 v4 v5 v7 : Int32) (G : GH) : Prop :=
  ((v3 ≤ v7 → (vp_in v5 21 ∧ post (G o 8 v5.toNatClampNeg) G)) ∧ (¬ v3 ≤ v7 → (vp_in (v2 + v7) m1 ∧ (∀ y_3 : Int32, y_3 = (nb (G o1 k1 (v2 + v7).toNatClampNeg)) → (vp_in y_3 (sTb t6).length ∧ (∀ y_4 : Int32, y_4 = ((sTb t6).getD y_3.toNatClampNeg 0) → (∀ y_5 : Int32, y_5 = (G o 8 0) → (∀ y_6 : Int32, y_6 = (y_5 + (2 : Int32)) → (∀ G_7 : GH, G_7 = gs G o 8 (upd (G o 8) 0 y_6) → lp_X1_costOf_76 post P30 o o1 k1 m1 t6 v2 v3 v4 v5 v7 y_3 y_4 y_5 y_6 (0 : Int32) G_7)))))))))
def lp_X1_costOf_30 (post : Int32 → GH → Prop) (o : Nat) (o1 k1 m1 : Nat) (t6 : Nat) (v2 v3 v4 v5 v7 : Int32) (G : GH) : Prop := ∀ P30 : Int32 → Int32 → Int32 → Int32 → Int32 → GH → Prop, (∀ (v2 v3 v4 v5 v7 : Int32) (G : GH), lb_X1_costOf_30 post o o1 k1 m1 t6 P30 v2 v3 v4 v5 v7 G → P30 v2 v3 v4 v5 v7 G) → P30 v2 v3 v4 v5 v7 G
def lb_X1_costOf_3 (post : Int32 → GH → Prop) (o : Nat) (o1 k1 m1 : Nat) (t6 : Nat) (P3 : Int32 → Int32 → Int32 → Int32 → Int32 → GH → Prop) (v2 v3 v4 v5 v7 : Int32) (G : GH) : Prop :=
  ((v5 < v7 → lp_X1_costOf_30 post o o1 k1 m1 t6 v2 v3 v4 v5 (0 : Int32) G) ∧ (¬ v5 < v7 → (vp_in v7 21 ∧ (∀ G_18 : GH, G_18 = gs G o 8 (upd (G o 8) v7.toNatClampNeg ((2 : Int32) * v7)) → P3 v2 v3 v4 v5 (v7 + (1 : Int32)) G_18))))
def lp_X1_costOf_3 (post : Int32 → GH → Prop) (o : Nat) (o1 k1 m1 : Nat) (t6 : Nat) (v2 v3 v4 v5 v7 : Int32) (G : GH) : Prop := ∀ P3 : Int32 → Int32 → Int32 → Int32 → Int32 → GH → Prop, (∀ (v2 v3 v4 v5 v7 : Int32) (G : GH), lb_X1_costOf_3 post o o1 k1 m1 t6 P3 v2 v3 v4 v5 v7 G → P3 v2 v3 v4 v5 v7 G) → P3 v2 v3 v4 v5 v7 G
def wp_X1_costOf (post : Int32 → GH → Prop) (o : Nat) (o1 k1 m1 : Nat) (t6 : Nat) (x2 x3 x4 x5 : Int32) (G : GH) : Prop :=
  lp_X1_costOf_3 post o o1 k1 m1 t6 x2 x3 x4 x5 (0 : Int32) G
set_option maxRecDepth 100000 in
set_option maxHeartbeats 4000000 in
theorem kj_X1_costOf_168 {E : Ev} {X : Cx} {post : Int32 → GH → Prop} {P30 : Int32 → Int32 → Int32 → Int32 → Int32 → GH → Prop} {P76 : Int32 → Int32 → Int32 → Int32 → Int32 → Int32 → Int32 → Int32 → Int32 → Int32 → GH → Prop} {o : Nat} {o1 k1 m1 : Nat} {t6 : Nat} {v2 v3 v4 v5 v7 v8 v9 v12 v14 v15 : Int32} {G : GH} (F : Fx E X "MarkField$Likeness" cX1_costOf 17) (T : RT E X 0 0 0 (some .int) (pI post)) (ho : stt o = true) (hc : oc o = 1) (hs1 : stt o1 = true) (ha1 : al (oc o1) k1 = some (1, m1)) (hi6 : t6 < 5) (K30 : ∀ (v2 v3 v4 v5 v7 : Int32) (G : GH), P30 v2 v3 v4 v5 v7 G → AW E X 17 30 [(0, .ref (sdX X o 0)), (1, .ref (sdX X o1 k1)), (2, .int v2), (3, .int v3), (4, .int v4), (5, .int v5), (6, .ref (E.2.2.1 t6)), (7, .int v7)] [] G 0 0) (K76 : ∀ (v2 v3 v4 v5 v7 v8 v9 v10 v11 v12 : Int32) (G : GH), P76 v2 v3 v4 v5 v7 v8 v9 v10 v11 v12 G → AW E X 17 76 [(0, .ref (sdX X o 0)), (1, .ref (sdX X o1 k1)), (2, .int v2), (3, .int v3), (4, .int v4), (5, .int v5), (6, .ref (E.2.2.1 t6)), (7, .int v7), (8, .int v8), (9, .int v9), (10, .int v10), (11, .int v11), (12, .int v12)] [] G 0 0) (h : j_X1_costOf_168 post P30 P76 o o1 k1 m1 t6 v2 v3 v4 v5 v7 v8 v9 v12 v14 v15 G) : AW E X 17 168 [(0, .ref (sdX X o 0)), (1, .ref (sdX X o1 k1)), (2, .int v2), (3, .int v3), (4, .int v4), (5, .int v5), (6, .ref (E.2.2.1 t6)), (7, .int v7), (8, .int v8), (9, .int v9), (12, .int v12), (14, .int v14), (15, .int v15)] [] G 0 0 := by
  have hP := F.P
  refine aw_il F 11 dX1_costOf_168 rfl ?_
  refine aw_is (lv1 := [(10, .int v14), (0, .ref (sdX X o 0)), (1, .ref (sdX X o1 k1)), (2, .int v2), (3, .int v3), (4, .int v4), (5, .int v5), (6, .ref (E.2.2.1 t6)), (7, .int v7), (8, .int v8), (9, .int v9), (12, .int v12), (14, .int v14), (15, .int v15)]) F dX1_costOf_170 (by decide) rfl ?_
  refine aw_il F 13 dX1_costOf_172 rfl ?_
  refine aw_is (lv1 := [(11, .int v15), (10, .int v14), (0, .ref (sdX X o 0)), (1, .ref (sdX X o1 k1)), (2, .int v2), (3, .int v3), (4, .int v4), (5, .int v5), (6, .ref (E.2.2.1 t6)), (7, .int v7), (8, .int v8), (9, .int v9), (12, .int v12), (14, .int v14), (15, .int v15)]) F dX1_costOf_174 (by decide) rfl ?_
  refine aw_al_n F 2 dX1_costOf_176 rfl rfl ?_
  refine gr1_7 F (lo_s ho) (hP _ ho) hc w_185 (hP _ ho) dX1_costOf_177 ?_
  refine aw_il F 12 dX1_costOf_180 rfl ?_
  refine aw_ic F dX1_costOf_182 ic_1 ?_
  refine aw_iadd F dX1_costOf_183 ?_
  refine aw_il F 14 dX1_costOf_184 rfl ?_
  refine aw_iast F o 8 (lo_s ho) (hP _ ho) (al_of hc rfl) h.1 dX1_costOf_186 ?_
  refine aw_nG (fun G_12 eG_12 => ?_)
  replace h := h.2 G_12 eG_12
  refine aw_inc (lv1 := [(12, .int (v12 + (1 : Int32))), (11, .int v15), (10, .int v14), (0, .ref (sdX X o 0)), (1, .ref (sdX X o1 k1)), (2, .int v2), (3, .int v3), (4, .int v4), (5, .int v5), (6, .ref (E.2.2.1 t6)), (7, .int v7), (8, .int v8), (9, .int v9), (14, .int v14), (15, .int v15)]) F 12 dX1_costOf_187 rfl (in_1 _) (by decide) rfl ?_
  refine aw_go (tgt := 76) F dX1_costOf_190 (by decide) ?_
  refine aw_sub [3, 4, 5, 6, 7, 8, 9, 10, 11, 12, 2, 1, 0] rfl ?_
  exact K76 _ _ _ _ _ _ _ _ _ _ _ h
set_option maxRecDepth 100000 in
set_option maxHeartbeats 4000000 in
theorem kj_X1_costOf_166 {E : Ev} {X : Cx} {post : Int32 → GH → Prop} {P30 : Int32 → Int32 → Int32 → Int32 → Int32 → GH → Prop} {P76 : Int32 → Int32 → Int32 → Int32 → Int32 → Int32 → Int32 → Int32 → Int32 → Int32 → GH → Prop} {o : Nat} {o1 k1 m1 : Nat} {t6 : Nat} {v2 v3 v4 v5 v7 v8 v9 v12 v14 s0 : Int32} {G : GH} (F : Fx E X "MarkField$Likeness" cX1_costOf 17) (T : RT E X 0 0 0 (some .int) (pI post)) (ho : stt o = true) (hc : oc o = 1) (hs1 : stt o1 = true) (ha1 : al (oc o1) k1 = some (1, m1)) (hi6 : t6 < 5) (K30 : ∀ (v2 v3 v4 v5 v7 : Int32) (G : GH), P30 v2 v3 v4 v5 v7 G → AW E X 17 30 [(0, .ref (sdX X o 0)), (1, .ref (sdX X o1 k1)), (2, .int v2), (3, .int v3), (4, .int v4), (5, .int v5), (6, .ref (E.2.2.1 t6)), (7, .int v7)] [] G 0 0) (K76 : ∀ (v2 v3 v4 v5 v7 v8 v9 v10 v11 v12 : Int32) (G : GH), P76 v2 v3 v4 v5 v7 v8 v9 v10 v11 v12 G → AW E X 17 76 [(0, .ref (sdX X o 0)), (1, .ref (sdX X o1 k1)), (2, .int v2), (3, .int v3), (4, .int v4), (5, .int v5), (6, .ref (E.2.2.1 t6)), (7, .int v7), (8, .int v8), (9, .int v9), (10, .int v10), (11, .int v11), (12, .int v12)] [] G 0 0) (h : j_X1_costOf_166 post P30 P76 o o1 k1 m1 t6 v2 v3 v4 v5 v7 v8 v9 v12 v14 s0 G) : AW E X 17 166 [(0, .ref (sdX X o 0)), (1, .ref (sdX X o1 k1)), (2, .int v2), (3, .int v3), (4, .int v4), (5, .int v5), (6, .ref (E.2.2.1 t6)), (7, .int v7), (8, .int v8), (9, .int v9), (12, .int v12), (14, .int v14)] [.int s0] G 0 0 := by
  have hP := F.P
  refine aw_is (lv1 := [(15, .int s0), (0, .ref (sdX X o 0)), (1, .ref (sdX X o1 k1)), (2, .int v2), (3, .int v3), (4, .int v4), (5, .int v5), (6, .ref (E.2.2.1 t6)), (7, .int v7), (8, .int v8), (9, .int v9), (12, .int v12), (14, .int v14)]) F dX1_costOf_166 (by decide) rfl ?_
  refine aw_sub [1, 2, 3, 4, 5, 6, 7, 8, 9, 10, 11, 12, 0] rfl ?_
  exact kj_X1_costOf_168 F T ho hc hs1 ha1 hi6 K30 K76 h
set_option maxRecDepth 100000 in
set_option maxHeartbeats 4000000 in
theorem kj_X1_costOf_148 {E : Ev} {X : Cx} {post : Int32 → GH → Prop} {P30 : Int32 → Int32 → Int32 → Int32 → Int32 → GH → Prop} {P76 : Int32 → Int32 → Int32 → Int32 → Int32 → Int32 → Int32 → Int32 → Int32 → Int32 → GH → Prop} {o : Nat} {o1 k1 m1 : Nat} {t6 : Nat} {v2 v3 v4 v5 v7 v8 v9 v12 v14 v15 s0 : Int32} {G : GH} (F : Fx E X "MarkField$Likeness" cX1_costOf 17) (T : RT E X 0 0 0 (some .int) (pI post)) (ho : stt o = true) (hc : oc o = 1) (hs1 : stt o1 = true) (ha1 : al (oc o1) k1 = some (1, m1)) (hi6 : t6 < 5) (K30 : ∀ (v2 v3 v4 v5 v7 : Int32) (G : GH), P30 v2 v3 v4 v5 v7 G → AW E X 17 30 [(0, .ref (sdX X o 0)), (1, .ref (sdX X o1 k1)), (2, .int v2), (3, .int v3), (4, .int v4), (5, .int v5), (6, .ref (E.2.2.1 t6)), (7, .int v7)] [] G 0 0) (K76 : ∀ (v2 v3 v4 v5 v7 v8 v9 v10 v11 v12 : Int32) (G : GH), P76 v2 v3 v4 v5 v7 v8 v9 v10 v11 v12 G → AW E X 17 76 [(0, .ref (sdX X o 0)), (1, .ref (sdX X o1 k1)), (2, .int v2), (3, .int v3), (4, .int v4), (5, .int v5), (6, .ref (E.2.2.1 t6)), (7, .int v7), (8, .int v8), (9, .int v9), (10, .int v10), (11, .int v11), (12, .int v12)] [] G 0 0) (h : j_X1_costOf_148 post P30 P76 o o1 k1 m1 t6 v2 v3 v4 v5 v7 v8 v9 v12 v14 v15 s0 G) : AW E X 17 148 [(0, .ref (sdX X o 0)), (1, .ref (sdX X o1 k1)), (2, .int v2), (3, .int v3), (4, .int v4), (5, .int v5), (6, .ref (E.2.2.1 t6)), (7, .int v7), (8, .int v8), (9, .int v9), (12, .int v12), (14, .int v14), (15, .int v15)] [.int s0] G 0 0 := by
  have hP := F.P
  refine aw_ic F dX1_costOf_148 ic_2 ?_
  refine aw_iadd F dX1_costOf_149 ?_
  refine aw_top (fun y_16 ey_16 => ?_)
  replace h := h y_16 ey_16
  refine aw_is (lv1 := [(16, .int y_16), (0, .ref (sdX X o 0)), (1, .ref (sdX X o1 k1)), (2, .int v2), (3, .int v3), (4, .int v4), (5, .int v5), (6, .ref (E.2.2.1 t6)), (7, .int v7), (8, .int v8), (9, .int v9), (12, .int v12), (14, .int v14), (15, .int v15)]) F dX1_costOf_150 (by decide) rfl ?_
  refine aw_il F 0 dX1_costOf_152 rfl ?_
  refine aw_il F 13 dX1_costOf_154 rfl ?_
  refine aw_icmp_ge (tgt := 164) F dX1_costOf_156 (by decide) (fun c_17 => ?_) (fun c_17 => ?_)
  · replace h := h.1 c_17
    refine aw_il F 13 dX1_costOf_164 rfl ?_
    refine aw_sub [1, 2, 3, 4, 5, 6, 7, 8, 9, 10, 11, 12] rfl ?_
    exact kj_X1_costOf_166 F T ho hc hs1 ha1 hi6 K30 K76 h
  · replace h := h.2 c_17
    refine aw_il F 0 dX1_costOf_159 rfl ?_
    refine aw_go (tgt := 166) F dX1_costOf_161 (by decide) ?_
    refine aw_sub [1, 2, 3, 4, 5, 6, 7, 8, 9, 10, 11, 12] rfl ?_
    exact kj_X1_costOf_166 F T ho hc hs1 ha1 hi6 K30 K76 h
set_option maxRecDepth 100000 in
set_option maxHeartbeats 4000000 in
theorem kj_X1_costOf_131 {E : Ev} {X : Cx} {post : Int32 → GH → Prop} {P30 : Int32 → Int32 → Int32 → Int32 → Int32 → GH → Prop} {P76 : Int32 → Int32 → Int32 → Int32 → Int32 → Int32 → Int32 → Int32 → Int32 → Int32 → GH → Prop} {o : Nat} {o1 k1 m1 : Nat} {t6 : Nat} {v2 v3 v4 v5 v7 v8 v9 v11 v12 v14 s0 s1 : Int32} {G : GH} (F : Fx E X "MarkField$Likeness" cX1_costOf 17) (T : RT E X 0 0 0 (some .int) (pI post)) (ho : stt o = true) (hc : oc o = 1) (hs1 : stt o1 = true) (ha1 : al (oc o1) k1 = some (1, m1)) (hi6 : t6 < 5) (K30 : ∀ (v2 v3 v4 v5 v7 : Int32) (G : GH), P30 v2 v3 v4 v5 v7 G → AW E X 17 30 [(0, .ref (sdX X o 0)), (1, .ref (sdX X o1 k1)), (2, .int v2), (3, .int v3), (4, .int v4), (5, .int v5), (6, .ref (E.2.2.1 t6)), (7, .int v7)] [] G 0 0) (K76 : ∀ (v2 v3 v4 v5 v7 v8 v9 v10 v11 v12 : Int32) (G : GH), P76 v2 v3 v4 v5 v7 v8 v9 v10 v11 v12 G → AW E X 17 76 [(0, .ref (sdX X o 0)), (1, .ref (sdX X o1 k1)), (2, .int v2), (3, .int v3), (4, .int v4), (5, .int v5), (6, .ref (E.2.2.1 t6)), (7, .int v7), (8, .int v8), (9, .int v9), (10, .int v10), (11, .int v11), (12, .int v12)] [] G 0 0) (h : j_X1_costOf_131 post P30 P76 o o1 k1 m1 t6 v2 v3 v4 v5 v7 v8 v9 v11 v12 v14 s0 s1 G) : AW E X 17 131 [(0, .ref (sdX X o 0)), (1, .ref (sdX X o1 k1)), (2, .int v2), (3, .int v3), (4, .int v4), (5, .int v5), (6, .ref (E.2.2.1 t6)), (7, .int v7), (8, .int v8), (9, .int v9), (11, .int v11), (12, .int v12), (14, .int v14)] [.int s1, .int s0] G 0 0 := by
  have hP := F.P
  refine aw_iadd F dX1_costOf_131 ?_
  refine aw_top (fun y_14 ey_14 => ?_)
  replace h := h y_14 ey_14
  refine aw_is (lv1 := [(15, .int y_14), (0, .ref (sdX X o 0)), (1, .ref (sdX X o1 k1)), (2, .int v2), (3, .int v3), (4, .int v4), (5, .int v5), (6, .ref (E.2.2.1 t6)), (7, .int v7), (8, .int v8), (9, .int v9), (11, .int v11), (12, .int v12), (14, .int v14)]) F dX1_costOf_132 (by decide) rfl ?_
  refine aw_il F 11 dX1_costOf_134 rfl ?_
  refine aw_il F 13 dX1_costOf_136 rfl ?_
  refine aw_icmp_ge (tgt := 146) F dX1_costOf_138 (by decide) (fun c_15 => ?_) (fun c_15 => ?_)
  · replace h := h.1 c_15
    refine aw_il F 13 dX1_costOf_146 rfl ?_
    refine aw_sub [1, 2, 3, 4, 5, 6, 7, 8, 9, 10, 12, 13, 0] rfl ?_
    exact kj_X1_costOf_148 F T ho hc hs1 ha1 hi6 K30 K76 h
  · replace h := h.2 c_15
    refine aw_il F 11 dX1_costOf_141 rfl ?_
    refine aw_go (tgt := 148) F dX1_costOf_143 (by decide) ?_
    refine aw_sub [1, 2, 3, 4, 5, 6, 7, 8, 9, 10, 12, 13, 0] rfl ?_
    exact kj_X1_costOf_148 F T ho hc hs1 ha1 hi6 K30 K76 h
set_option maxRecDepth 100000 in
set_option maxHeartbeats 4000000 in
theorem kl_X1_costOf_76 {E : Ev} {X : Cx} {post : Int32 → GH → Prop} {P30 : Int32 → Int32 → Int32 → Int32 → Int32 → GH → Prop} {o : Nat} {o1 k1 m1 : Nat} {t6 : Nat} {v2 v3 v4 v5 v7 v8 v9 v10 v11 v12 : Int32} {G : GH} (F : Fx E X "MarkField$Likeness" cX1_costOf 17) (T : RT E X 0 0 0 (some .int) (pI post)) (ho : stt o = true) (hc : oc o = 1) (hs1 : stt o1 = true) (ha1 : al (oc o1) k1 = some (1, m1)) (hi6 : t6 < 5) (K30 : ∀ (v2 v3 v4 v5 v7 : Int32) (G : GH), P30 v2 v3 v4 v5 v7 G → AW E X 17 30 [(0, .ref (sdX X o 0)), (1, .ref (sdX X o1 k1)), (2, .int v2), (3, .int v3), (4, .int v4), (5, .int v5), (6, .ref (E.2.2.1 t6)), (7, .int v7)] [] G 0 0) (h : lp_X1_costOf_76 post P30 o o1 k1 m1 t6 v2 v3 v4 v5 v7 v8 v9 v10 v11 v12 G) : AW E X 17 76 [(0, .ref (sdX X o 0)), (1, .ref (sdX X o1 k1)), (2, .int v2), (3, .int v3), (4, .int v4), (5, .int v5), (6, .ref (E.2.2.1 t6)), (7, .int v7), (8, .int v8), (9, .int v9), (10, .int v10), (11, .int v11), (12, .int v12)] [] G 0 0 := by
  have hP := F.P
  have K76 : ∀ (v2 v3 v4 v5 v7 v8 v9 v10 v11 v12 : Int32) (G : GH), AW E X 17 76 [(0, .ref (sdX X o 0)), (1, .ref (sdX X o1 k1)), (2, .int v2), (3, .int v3), (4, .int v4), (5, .int v5), (6, .ref (E.2.2.1 t6)), (7, .int v7), (8, .int v8), (9, .int v9), (10, .int v10), (11, .int v11), (12, .int v12)] [] G 0 0 → AW E X 17 76 [(0, .ref (sdX X o 0)), (1, .ref (sdX X o1 k1)), (2, .int v2), (3, .int v3), (4, .int v4), (5, .int v5), (6, .ref (E.2.2.1 t6)), (7, .int v7), (8, .int v8), (9, .int v9), (10, .int v10), (11, .int v11), (12, .int v12)] [] G 0 0 := fun _ _ _ _ _ _ _ _ _ _ _ q => q
  refine h (fun (v2 v3 v4 v5 v7 v8 v9 v10 v11 v12 : Int32) (G : GH) => AW E X 17 76 [(0, .ref (sdX X o 0)), (1, .ref (sdX X o1 k1)), (2, .int v2), (3, .int v3), (4, .int v4), (5, .int v5), (6, .ref (E.2.2.1 t6)), (7, .int v7), (8, .int v8), (9, .int v9), (10, .int v10), (11, .int v11), (12, .int v12)] [] G 0 0) (fun (v2 v3 v4 v5 v7 v8 v9 v10 v11 v12 : Int32) (G : GH) h => ?_)
  refine aw_il F 12 dX1_costOf_76 rfl ?_
  refine aw_il F 5 dX1_costOf_78 rfl ?_
  refine aw_icmp_ge (tgt := 193) F dX1_costOf_80 (by decide) (fun c_8 => ?_) (fun c_8 => ?_)
  · replace h := h.1 c_8
    refine aw_inc (lv1 := [(7, .int (v7 + (1 : Int32))), (0, .ref (sdX X o 0)), (1, .ref (sdX X o1 k1)), (2, .int v2), (3, .int v3), (4, .int v4), (5, .int v5), (6, .ref (E.2.2.1 t6)), (8, .int v8), (9, .int v9), (10, .int v10), (11, .int v11), (12, .int v12)]) F 7 dX1_costOf_193 rfl (in_1 _) (by decide) rfl ?_
    refine aw_go (tgt := 30) F dX1_costOf_196 (by decide) ?_
    refine aw_sub [1, 2, 3, 4, 5, 6, 7, 0] rfl ?_
    exact K30 _ _ _ _ _ _ h
  · replace h := h.2 c_8
    refine aw_al_n F 1 dX1_costOf_83 rfl rfl ?_
    refine aw_il F 4 dX1_costOf_84 rfl ?_
    refine aw_il F 12 dX1_costOf_86 rfl ?_
    refine aw_iadd F dX1_costOf_88 ?_
    refine aw_bald F o1 k1 (lo_s hs1) (hP _ hs1) ha1 h.1 dX1_costOf_89 ?_
    replace h := h.2
    refine aw_top (fun y_9 ey_9 => ?_)
    replace h := h y_9 ey_9
    refine aw_is (lv1 := [(13, .int y_9), (0, .ref (sdX X o 0)), (1, .ref (sdX X o1 k1)), (2, .int v2), (3, .int v3), (4, .int v4), (5, .int v5), (6, .ref (E.2.2.1 t6)), (7, .int v7), (8, .int v8), (9, .int v9), (10, .int v10), (11, .int v11), (12, .int v12)]) F dX1_costOf_90 (by decide) rfl ?_
    refine aw_al_n F 1 dX1_costOf_92 rfl rfl ?_
    refine gr1_7 F (lo_s ho) (hP _ ho) hc w_185 (hP _ ho) dX1_costOf_93 ?_
    refine aw_il F 13 dX1_costOf_96 rfl ?_
    refine aw_ic F dX1_costOf_98 ic_1 ?_
    refine aw_iadd F dX1_costOf_99 ?_
    refine aw_iald F o 8 (lo_s ho) (hP _ ho) (al_of hc rfl) h.1 dX1_costOf_100 ?_
    replace h := h.2
    refine aw_top (fun y_10 ey_10 => ?_)
    replace h := h y_10 ey_10
    refine aw_is (lv1 := [(14, .int y_10), (13, .int y_9), (0, .ref (sdX X o 0)), (1, .ref (sdX X o1 k1)), (2, .int v2), (3, .int v3), (4, .int v4), (5, .int v5), (6, .ref (E.2.2.1 t6)), (7, .int v7), (8, .int v8), (9, .int v9), (10, .int v10), (11, .int v11), (12, .int v12)]) F dX1_costOf_101 (by decide) rfl ?_
    refine aw_il F 12 dX1_costOf_103 rfl ?_
    refine aw_is (lv1 := [(15, .int v10), (14, .int y_10), (13, .int y_9), (0, .ref (sdX X o 0)), (1, .ref (sdX X o1 k1)), (2, .int v2), (3, .int v3), (4, .int v4), (5, .int v5), (6, .ref (E.2.2.1 t6)), (7, .int v7), (8, .int v8), (9, .int v9), (10, .int v10), (11, .int v11), (12, .int v12)]) F dX1_costOf_105 (by decide) rfl ?_
    refine aw_il F 11 dX1_costOf_107 rfl ?_
    refine aw_il F 2 dX1_costOf_109 rfl ?_
    refine aw_icmp_eq (tgt := 168) F dX1_costOf_111 (by decide) (fun c_11 => ?_) (fun c_11 => ?_)
    · replace h := h.1 c_11
      refine aw_sub [3, 4, 5, 6, 7, 8, 9, 10, 11, 12, 15, 1, 0] rfl ?_
      exact kj_X1_costOf_168 F T ho hc hs1 ha1 hi6 K30 K76 h
    · replace h := h.2 c_11
      refine aw_il F 0 dX1_costOf_114 rfl ?_
      refine aw_il F 12 dX1_costOf_116 rfl ?_
      refine aw_il F 2 dX1_costOf_118 rfl ?_
      refine aw_ishr F dX1_costOf_120 ?_
      refine aw_ic F dX1_costOf_121 ic_1 ?_
      refine aw_iand F dX1_costOf_122 ?_
      refine aw_if_eq (tgt := 130) F dX1_costOf_123 (by decide) (fun c_13 => ?_) (fun c_13 => ?_)
      · replace h := h.1 c_13
        refine aw_ic F dX1_costOf_130 ic_2 ?_
        refine aw_sub [3, 4, 5, 6, 7, 8, 9, 10, 11, 12, 14, 15, 1] rfl ?_
        exact kj_X1_costOf_131 F T ho hc hs1 ha1 hi6 K30 K76 h
      · replace h := h.2 c_13
        refine aw_ic F dX1_costOf_126 ic_1 ?_
        refine aw_go (tgt := 131) F dX1_costOf_127 (by decide) ?_
        refine aw_sub [3, 4, 5, 6, 7, 8, 9, 10, 11, 12, 14, 15, 1] rfl ?_
        exact kj_X1_costOf_131 F T ho hc hs1 ha1 hi6 K30 K76 h
set_option maxRecDepth 100000 in
set_option maxHeartbeats 4000000 in
theorem kl_X1_costOf_30 {E : Ev} {X : Cx} {post : Int32 → GH → Prop} {o : Nat} {o1 k1 m1 : Nat} {t6 : Nat} {v2 v3 v4 v5 v7 : Int32} {G : GH} (F : Fx E X "MarkField$Likeness" cX1_costOf 17) (T : RT E X 0 0 0 (some .int) (pI post)) (ho : stt o = true) (hc : oc o = 1) (hs1 : stt o1 = true) (ha1 : al (oc o1) k1 = some (1, m1)) (hi6 : t6 < 5) (h : lp_X1_costOf_30 post o o1 k1 m1 t6 v2 v3 v4 v5 v7 G) : AW E X 17 30 [(0, .ref (sdX X o 0)), (1, .ref (sdX X o1 k1)), (2, .int v2), (3, .int v3), (4, .int v4), (5, .int v5), (6, .ref (E.2.2.1 t6)), (7, .int v7)] [] G 0 0 := by
  have hP := F.P
  have K30 : ∀ (v2 v3 v4 v5 v7 : Int32) (G : GH), AW E X 17 30 [(0, .ref (sdX X o 0)), (1, .ref (sdX X o1 k1)), (2, .int v2), (3, .int v3), (4, .int v4), (5, .int v5), (6, .ref (E.2.2.1 t6)), (7, .int v7)] [] G 0 0 → AW E X 17 30 [(0, .ref (sdX X o 0)), (1, .ref (sdX X o1 k1)), (2, .int v2), (3, .int v3), (4, .int v4), (5, .int v5), (6, .ref (E.2.2.1 t6)), (7, .int v7)] [] G 0 0 := fun _ _ _ _ _ _ q => q
  refine h (fun (v2 v3 v4 v5 v7 : Int32) (G : GH) => AW E X 17 30 [(0, .ref (sdX X o 0)), (1, .ref (sdX X o1 k1)), (2, .int v2), (3, .int v3), (4, .int v4), (5, .int v5), (6, .ref (E.2.2.1 t6)), (7, .int v7)] [] G 0 0) (fun (v2 v3 v4 v5 v7 : Int32) (G : GH) h => ?_)
  refine aw_il F 7 dX1_costOf_30 rfl ?_
  refine aw_il_n F 3 dX1_costOf_32 rfl rfl ?_
  refine aw_icmp_ge (tgt := 199) F dX1_costOf_33 (by decide) (fun c_2 => ?_) (fun c_2 => ?_)
  · replace h := h.1 c_2
    refine aw_al_n F 0 dX1_costOf_199 rfl rfl ?_
    refine gr1_7 F (lo_s ho) (hP _ ho) hc w_185 (hP _ ho) dX1_costOf_200 ?_
    refine aw_il F 5 dX1_costOf_203 rfl ?_
    refine aw_iald F o 8 (lo_s ho) (hP _ ho) (al_of hc rfl) h.1 dX1_costOf_205 ?_
    replace h := h.2
    exact aw_iret F T (Nat.le_of_ble_eq_true rfl) (Nat.le_of_ble_eq_true rfl) ⟨_, rfl, h⟩ dX1_costOf_206
  · replace h := h.2 c_2
    refine aw_al_n F 1 dX1_costOf_36 rfl rfl ?_
    refine aw_il_n F 2 dX1_costOf_37 rfl rfl ?_
    refine aw_il F 7 dX1_costOf_38 rfl ?_
    refine aw_iadd F dX1_costOf_40 ?_
    refine aw_bald F o1 k1 (lo_s hs1) (hP _ hs1) ha1 h.1 dX1_costOf_41 ?_
    replace h := h.2
    refine aw_top (fun y_3 ey_3 => ?_)
    replace h := h y_3 ey_3
    refine aw_is (lv1 := [(8, .int y_3), (0, .ref (sdX X o 0)), (1, .ref (sdX X o1 k1)), (2, .int v2), (3, .int v3), (4, .int v4), (5, .int v5), (6, .ref (E.2.2.1 t6)), (7, .int v7)]) F dX1_costOf_42 (by decide) rfl ?_
    refine aw_al F 7 dX1_costOf_44 rfl ?_
    refine aw_il F 0 dX1_costOf_46 rfl ?_
    refine aw_sald F t6 hi6 h.1 dX1_costOf_48 ?_
    replace h := h.2
    refine aw_top (fun y_4 ey_4 => ?_)
    replace h := h y_4 ey_4
    refine aw_is (lv1 := [(9, .int y_4), (8, .int y_3), (0, .ref (sdX X o 0)), (1, .ref (sdX X o1 k1)), (2, .int v2), (3, .int v3), (4, .int v4), (5, .int v5), (6, .ref (E.2.2.1 t6)), (7, .int v7)]) F dX1_costOf_49 (by decide) rfl ?_
    refine aw_al_n F 2 dX1_costOf_51 rfl rfl ?_
    refine gr1_7 F (lo_s ho) (hP _ ho) hc w_185 (hP _ ho) dX1_costOf_52 ?_
    refine aw_ic F dX1_costOf_55 ic_0 ?_
    refine aw_ialdL F o 8 (lo_s ho) (hP _ ho) (al_of hc rfl) (vin_l rfl) tn_0 dX1_costOf_56 ?_
    refine aw_top (fun y_5 ey_5 => ?_)
    replace h := h y_5 ey_5
    refine aw_is (lv1 := [(10, .int y_5), (9, .int y_4), (8, .int y_3), (0, .ref (sdX X o 0)), (1, .ref (sdX X o1 k1)), (2, .int v2), (3, .int v3), (4, .int v4), (5, .int v5), (6, .ref (E.2.2.1 t6)), (7, .int v7)]) F dX1_costOf_57 (by decide) rfl ?_
    refine aw_il F 0 dX1_costOf_59 rfl ?_
    refine aw_ic F dX1_costOf_61 ic_2 ?_
    refine aw_iadd F dX1_costOf_62 ?_
    refine aw_top (fun y_6 ey_6 => ?_)
    replace h := h y_6 ey_6
    refine aw_is (lv1 := [(11, .int y_6), (10, .int y_5), (9, .int y_4), (8, .int y_3), (0, .ref (sdX X o 0)), (1, .ref (sdX X o1 k1)), (2, .int v2), (3, .int v3), (4, .int v4), (5, .int v5), (6, .ref (E.2.2.1 t6)), (7, .int v7)]) F dX1_costOf_63 (by decide) rfl ?_
    refine aw_al_n F 4 dX1_costOf_65 rfl rfl ?_
    refine gr1_7 F (lo_s ho) (hP _ ho) hc w_185 (hP _ ho) dX1_costOf_66 ?_
    refine aw_ic F dX1_costOf_69 ic_0 ?_
    refine aw_il F 0 dX1_costOf_70 rfl ?_
    refine aw_iastL F o 8 (lo_s ho) (hP _ ho) (al_of hc rfl) (vin_l rfl) tn_0 dX1_costOf_72 ?_
    refine aw_nG (fun G_7 eG_7 => ?_)
    replace h := h G_7 eG_7
    refine aw_ic F dX1_costOf_73 ic_0 ?_
    refine aw_is (lv1 := [(12, .int (0 : Int32)), (11, .int y_6), (10, .int y_5), (9, .int y_4), (8, .int y_3), (0, .ref (sdX X o 0)), (1, .ref (sdX X o1 k1)), (2, .int v2), (3, .int v3), (4, .int v4), (5, .int v5), (6, .ref (E.2.2.1 t6)), (7, .int v7)]) F dX1_costOf_74 (by decide) rfl ?_
    refine aw_sub [5, 6, 7, 8, 9, 10, 11, 12, 4, 3, 2, 1, 0] rfl ?_
    exact kl_X1_costOf_76 F T ho hc hs1 ha1 hi6 K30 h
set_option maxRecDepth 100000 in
set_option maxHeartbeats 4000000 in
theorem kl_X1_costOf_3 {E : Ev} {X : Cx} {post : Int32 → GH → Prop} {o : Nat} {o1 k1 m1 : Nat} {t6 : Nat} {v2 v3 v4 v5 v7 : Int32} {G : GH} (F : Fx E X "MarkField$Likeness" cX1_costOf 17) (T : RT E X 0 0 0 (some .int) (pI post)) (ho : stt o = true) (hc : oc o = 1) (hs1 : stt o1 = true) (ha1 : al (oc o1) k1 = some (1, m1)) (hi6 : t6 < 5) (h : lp_X1_costOf_3 post o o1 k1 m1 t6 v2 v3 v4 v5 v7 G) : AW E X 17 3 [(0, .ref (sdX X o 0)), (1, .ref (sdX X o1 k1)), (2, .int v2), (3, .int v3), (4, .int v4), (5, .int v5), (6, .ref (E.2.2.1 t6)), (7, .int v7)] [] G 0 0 := by
  have hP := F.P
  have K3 : ∀ (v2 v3 v4 v5 v7 : Int32) (G : GH), AW E X 17 3 [(0, .ref (sdX X o 0)), (1, .ref (sdX X o1 k1)), (2, .int v2), (3, .int v3), (4, .int v4), (5, .int v5), (6, .ref (E.2.2.1 t6)), (7, .int v7)] [] G 0 0 → AW E X 17 3 [(0, .ref (sdX X o 0)), (1, .ref (sdX X o1 k1)), (2, .int v2), (3, .int v3), (4, .int v4), (5, .int v5), (6, .ref (E.2.2.1 t6)), (7, .int v7)] [] G 0 0 := fun _ _ _ _ _ _ q => q
  refine h (fun (v2 v3 v4 v5 v7 : Int32) (G : GH) => AW E X 17 3 [(0, .ref (sdX X o 0)), (1, .ref (sdX X o1 k1)), (2, .int v2), (3, .int v3), (4, .int v4), (5, .int v5), (6, .ref (E.2.2.1 t6)), (7, .int v7)] [] G 0 0) (fun (v2 v3 v4 v5 v7 : Int32) (G : GH) h => ?_)
  refine aw_il F 7 dX1_costOf_3 rfl ?_
  refine aw_il F 5 dX1_costOf_5 rfl ?_
  refine aw_icmp_gt (tgt := 27) F dX1_costOf_7 (by decide) (fun c_1 => ?_) (fun c_1 => ?_)
  · replace h := h.1 c_1
    refine aw_ic F dX1_costOf_27 ic_0 ?_
    refine aw_is (lv1 := [(7, .int (0 : Int32)), (0, .ref (sdX X o 0)), (1, .ref (sdX X o1 k1)), (2, .int v2), (3, .int v3), (4, .int v4), (5, .int v5), (6, .ref (E.2.2.1 t6))]) F dX1_costOf_28 (by decide) rfl ?_
    refine aw_sub [1, 2, 3, 4, 5, 6, 7, 0] rfl ?_
    exact kl_X1_costOf_30 F T ho hc hs1 ha1 hi6 h
  · replace h := h.2 c_1
    refine aw_al_n F 0 dX1_costOf_10 rfl rfl ?_
    refine gr1_7 F (lo_s ho) (hP _ ho) hc w_185 (hP _ ho) dX1_costOf_11 ?_
    refine aw_il F 7 dX1_costOf_14 rfl ?_
    refine aw_ic F dX1_costOf_16 ic_2 ?_
    refine aw_il F 7 dX1_costOf_17 rfl ?_
    refine aw_imul F dX1_costOf_19 ?_
    refine aw_iast F o 8 (lo_s ho) (hP _ ho) (al_of hc rfl) h.1 dX1_costOf_20 ?_
    refine aw_nG (fun G_18 eG_18 => ?_)
    replace h := h.2 G_18 eG_18
    refine aw_inc (lv1 := [(7, .int (v7 + (1 : Int32))), (0, .ref (sdX X o 0)), (1, .ref (sdX X o1 k1)), (2, .int v2), (3, .int v3), (4, .int v4), (5, .int v5), (6, .ref (E.2.2.1 t6))]) F 7 dX1_costOf_21 rfl (in_1 _) (by decide) rfl ?_
    refine aw_go (tgt := 3) F dX1_costOf_24 (by decide) ?_
    refine aw_sub [1, 2, 3, 4, 5, 6, 7, 0] rfl ?_
    exact K3 _ _ _ _ _ _ h
set_option maxRecDepth 100000 in
set_option maxHeartbeats 4000000 in
theorem k_X1_costOf {l : Launch} {E : Ev} {P : Nat → Prop} {sd : Nat → Nat → Nat} {G : GH} {post : Int32 → GH → Prop} {o : Nat} {o1 k1 m1 : Nat} {t6 : Nat} {x2 x3 x4 x5 : Int32} (hPP : ∀ o, stt o = true → P o) (ho : stt o = true) (hc : oc o = 1) (hs1 : stt o1 = true) (ha1 : al (oc o1) k1 = some (1, m1)) (hi6 : t6 < 5) (h : wp_X1_costOf post o o1 k1 m1 t6 x2 x3 x4 x5 G) : Ct l yX1_costOf cX1_costOf 17 (some .int) 0 0 0 E P sd G [.ref (sd o 0), .ref (sd o1 k1), .int x2, .int x3, .int x4, .int x5, .ref (E.2.2.1 t6)] (pI post) := by
  refine ct_of (own := "MarkField$Likeness") (by decide) rfl (Nat.le_of_ble_eq_true rfl) hPP (fun X F T el eP es => ?_)
  subst el; subst eP; subst es
  have hP := F.P
  change AW E X 17 0 [(0, .ref (sdX X o 0)), (1, .ref (sdX X o1 k1)), (2, .int x2), (3, .int x3), (4, .int x4), (5, .int x5), (6, .ref (E.2.2.1 t6))] [] G 0 0
  refine aw_ic F dX1_costOf_0 ic_0 ?_
  refine aw_is (lv1 := [(7, .int (0 : Int32)), (0, .ref (sdX X o 0)), (1, .ref (sdX X o1 k1)), (2, .int x2), (3, .int x3), (4, .int x4), (5, .int x5), (6, .ref (E.2.2.1 t6))]) F dX1_costOf_1 (by decide) rfl ?_
  refine aw_sub [1, 2, 3, 4, 5, 6, 7, 0] rfl ?_
  exact kl_X1_costOf_3 F T ho hc hs1 ha1 hi6 h
-- X1_farOf (height 1)
def j_X1_farOf_84 (post : Int32 → GH → Prop) (o : Nat) (o1 k1 m1 : Nat) (t6 : Nat) (v2 v3 v4 v5 v8 v9 : Int32) (G : GH) : Prop :=
  (∀ y_4 : Int32, y_4 = (v8 + v9) → wp_X1_costOf (fun (r_6 : Int32) (G_5 : GH) => post r_6 G_5) o o1 k1 m1 t6 (v2 + v8) (v3 - y_4) (v4 + v8) (v5 - y_4) G)
def lb_X1_farOf_43 (post : Int32 → GH → Prop) (o : Nat) (o1 k1 m1 : Nat) (t6 : Nat) (P43 : Int32 → Int32 → Int32 → Int32 → Int32 → Int32 → Int32 → GH → Prop) (v2 v3 v4 v5 v7 v8 v9 : Int32) (G : GH) : Prop :=
  (((v7 - v8) ≤ v9 → j_X1_farOf_84 post o o1 k1 m1 t6 v2 v3 v4 v5 v8 v9 G) ∧ (¬ (v7 - v8) ≤ v9 → (vp_in (((v2 + v3) - (1 : Int32)) - v9) m1 ∧ (vp_in (((v4 + v5) - (1 : Int32)) - v9) m1 ∧ (((nb (G o1 k1 (((v2 + v3) - (1 : Int32)) - v9).toNatClampNeg)) = (nb (G o1 k1 (((v4 + v5) - (1 : Int32)) - v9).toNatClampNeg)) → P43 v2 v3 v4 v5 v7 v8 (v9 + (1 : Int32)) G) ∧ (¬ (nb (G o1 k1 (((v2 + v3) - (1 : Int32)) - v9).toNatClampNeg)) = (nb (G o1 k1 (((v4 + v5) - (1 : Int32)) - v9).toNatClampNeg)) → j_X1_farOf_84 post o o1 k1 m1 t6 v2 v3 v4 v5 v8 v9 G))))))
def lp_X1_farOf_43 (post : Int32 → GH → Prop) (o : Nat) (o1 k1 m1 : Nat) (t6 : Nat) (v2 v3 v4 v5 v7 v8 v9 : Int32) (G : GH) : Prop := ∀ P43 : Int32 → Int32 → Int32 → Int32 → Int32 → Int32 → Int32 → GH → Prop, (∀ (v2 v3 v4 v5 v7 v8 v9 : Int32) (G : GH), lb_X1_farOf_43 post o o1 k1 m1 t6 P43 v2 v3 v4 v5 v7 v8 v9 G → P43 v2 v3 v4 v5 v7 v8 v9 G) → P43 v2 v3 v4 v5 v7 v8 v9 G
def j_X1_farOf_40 (post : Int32 → GH → Prop) (o : Nat) (o1 k1 m1 : Nat) (t6 : Nat) (v2 v3 v4 v5 v7 v8 : Int32) (G : GH) : Prop :=
  lp_X1_farOf_43 post o o1 k1 m1 t6 v2 v3 v4 v5 v7 v8 (0 : Int32) G
def lb_X1_farOf_11 (post : Int32 → GH → Prop) (o : Nat) (o1 k1 m1 : Nat) (t6 : Nat) (P11 : Int32 → Int32 → Int32 → Int32 → Int32 → Int32 → GH → Prop) (v2 v3 v4 v5 v7 v8 : Int32) (G : GH) : Prop :=
  ((v7 ≤ v8 → j_X1_farOf_40 post o o1 k1 m1 t6 v2 v3 v4 v5 v7 v8 G) ∧ (¬ v7 ≤ v8 → (vp_in (v2 + v8) m1 ∧ (vp_in (v4 + v8) m1 ∧ (((nb (G o1 k1 (v2 + v8).toNatClampNeg)) = (nb (G o1 k1 (v4 + v8).toNatClampNeg)) → P11 v2 v3 v4 v5 v7 (v8 + (1 : Int32)) G) ∧ (¬ (nb (G o1 k1 (v2 + v8).toNatClampNeg)) = (nb (G o1 k1 (v4 + v8).toNatClampNeg)) → j_X1_farOf_40 post o o1 k1 m1 t6 v2 v3 v4 v5 v7 v8 G))))))
def lp_X1_farOf_11 (post : Int32 → GH → Prop) (o : Nat) (o1 k1 m1 : Nat) (t6 : Nat) (v2 v3 v4 v5 v7 v8 : Int32) (G : GH) : Prop := ∀ P11 : Int32 → Int32 → Int32 → Int32 → Int32 → Int32 → GH → Prop, (∀ (v2 v3 v4 v5 v7 v8 : Int32) (G : GH), lb_X1_farOf_11 post o o1 k1 m1 t6 P11 v2 v3 v4 v5 v7 v8 G → P11 v2 v3 v4 v5 v7 v8 G) → P11 v2 v3 v4 v5 v7 v8 G
def wp_X1_farOf (post : Int32 → GH → Prop) (o : Nat) (o1 k1 m1 : Nat) (t6 : Nat) (x2 x3 x4 x5 : Int32) (G : GH) : Prop :=
  (∀ y_1 : Int32, y_1 = (imin x3 x5) → lp_X1_farOf_11 post o o1 k1 m1 t6 x2 x3 x4 x5 y_1 (0 : Int32) G)
set_option maxRecDepth 100000 in
set_option maxHeartbeats 4000000 in
theorem kj_X1_farOf_84 {E : Ev} {X : Cx} {post : Int32 → GH → Prop} {o : Nat} {o1 k1 m1 : Nat} {t6 : Nat} {v2 v3 v4 v5 v8 v9 : Int32} {G : GH} (F : Fx E X "MarkField$Likeness" cX1_farOf 11) (T : RT E X 1 0 0 (some .int) (pI post)) (ho : stt o = true) (hc : oc o = 1) (hs1 : stt o1 = true) (ha1 : al (oc o1) k1 = some (1, m1)) (hi6 : t6 < 5) (h : j_X1_farOf_84 post o o1 k1 m1 t6 v2 v3 v4 v5 v8 v9 G) : AW E X 11 84 [(0, .ref (sdX X o 0)), (1, .ref (sdX X o1 k1)), (2, .int v2), (3, .int v3), (4, .int v4), (5, .int v5), (6, .ref (E.2.2.1 t6)), (8, .int v8), (9, .int v9)] [] G 0 0 := by
  have hP := F.P
  refine aw_il F 7 dX1_farOf_84 rfl ?_
  refine aw_il F 8 dX1_farOf_86 rfl ?_
  refine aw_iadd F dX1_farOf_88 ?_
  refine aw_top (fun y_4 ey_4 => ?_)
  replace h := h y_4 ey_4
  refine aw_is (lv1 := [(10, .int y_4), (0, .ref (sdX X o 0)), (1, .ref (sdX X o1 k1)), (2, .int v2), (3, .int v3), (4, .int v4), (5, .int v5), (6, .ref (E.2.2.1 t6)), (8, .int v8), (9, .int v9)]) F dX1_farOf_89 (by decide) rfl ?_
  refine aw_al_n F 1 dX1_farOf_91 rfl rfl ?_
  refine aw_al_n F 2 dX1_farOf_92 rfl rfl ?_
  refine aw_il_n F 3 dX1_farOf_93 rfl rfl ?_
  refine aw_il F 8 dX1_farOf_94 rfl ?_
  refine aw_iadd F dX1_farOf_96 ?_
  refine aw_il_n F 4 dX1_farOf_97 rfl rfl ?_
  refine aw_il F 0 dX1_farOf_98 rfl ?_
  refine aw_isub F dX1_farOf_100 ?_
  refine aw_il F 5 dX1_farOf_101 rfl ?_
  refine aw_il F 8 dX1_farOf_103 rfl ?_
  refine aw_iadd F dX1_farOf_105 ?_
  refine aw_il F 6 dX1_farOf_106 rfl ?_
  refine aw_il F 0 dX1_farOf_108 rfl ?_
  refine aw_isub F dX1_farOf_110 ?_
  refine aw_al F 7 dX1_farOf_111 rfl ?_
  refine aw_cVi (stk := []) F T.room [.ref (sdX X o1 k1), .int (v2 + v8), .int (v3 - y_4), .int (v4 + v8), .int (v5 - y_4), .ref (E.2.2.1 t6)] (k_X1_costOf hP ho hc hs1 ha1 hi6 h) mv_X1_costOf w_677 cf1 (lo_s ho) (hP _ ho) hc (by decide) rfl rfl (Nat.le_of_ble_eq_true rfl) ⟨(Nat.le_of_ble_eq_true rfl), (Nat.le_of_ble_eq_true rfl)⟩ ⟨(Nat.le_of_ble_eq_true rfl), (Nat.le_of_ble_eq_true rfl)⟩ dX1_farOf_113 (fun r_6 G_5 h => ?_)
  exact aw_iret F T (Nat.le_of_ble_eq_true rfl) (Nat.le_of_ble_eq_true rfl) ⟨_, rfl, h⟩ dX1_farOf_116
set_option maxRecDepth 100000 in
set_option maxHeartbeats 4000000 in
theorem kl_X1_farOf_43 {E : Ev} {X : Cx} {post : Int32 → GH → Prop} {o : Nat} {o1 k1 m1 : Nat} {t6 : Nat} {v2 v3 v4 v5 v7 v8 v9 : Int32} {G : GH} (F : Fx E X "MarkField$Likeness" cX1_farOf 11) (T : RT E X 1 0 0 (some .int) (pI post)) (ho : stt o = true) (hc : oc o = 1) (hs1 : stt o1 = true) (ha1 : al (oc o1) k1 = some (1, m1)) (hi6 : t6 < 5) (h : lp_X1_farOf_43 post o o1 k1 m1 t6 v2 v3 v4 v5 v7 v8 v9 G) : AW E X 11 43 [(0, .ref (sdX X o 0)), (1, .ref (sdX X o1 k1)), (2, .int v2), (3, .int v3), (4, .int v4), (5, .int v5), (6, .ref (E.2.2.1 t6)), (7, .int v7), (8, .int v8), (9, .int v9)] [] G 0 0 := by
  have hP := F.P
  have K43 : ∀ (v2 v3 v4 v5 v7 v8 v9 : Int32) (G : GH), AW E X 11 43 [(0, .ref (sdX X o 0)), (1, .ref (sdX X o1 k1)), (2, .int v2), (3, .int v3), (4, .int v4), (5, .int v5), (6, .ref (E.2.2.1 t6)), (7, .int v7), (8, .int v8), (9, .int v9)] [] G 0 0 → AW E X 11 43 [(0, .ref (sdX X o 0)), (1, .ref (sdX X o1 k1)), (2, .int v2), (3, .int v3), (4, .int v4), (5, .int v5), (6, .ref (E.2.2.1 t6)), (7, .int v7), (8, .int v8), (9, .int v9)] [] G 0 0 := fun _ _ _ _ _ _ _ _ q => q
  refine h (fun (v2 v3 v4 v5 v7 v8 v9 : Int32) (G : GH) => AW E X 11 43 [(0, .ref (sdX X o 0)), (1, .ref (sdX X o1 k1)), (2, .int v2), (3, .int v3), (4, .int v4), (5, .int v5), (6, .ref (E.2.2.1 t6)), (7, .int v7), (8, .int v8), (9, .int v9)] [] G 0 0) (fun (v2 v3 v4 v5 v7 v8 v9 : Int32) (G : GH) h => ?_)
  refine aw_il F 9 dX1_farOf_43 rfl ?_
  refine aw_il F 7 dX1_farOf_45 rfl ?_
  refine aw_il F 8 dX1_farOf_47 rfl ?_
  refine aw_isub F dX1_farOf_49 ?_
  refine aw_icmp_ge (tgt := 84) F dX1_farOf_50 (by decide) (fun c_3 => ?_) (fun c_3 => ?_)
  · replace h := h.1 c_3
    refine aw_sub [0, 1, 2, 3, 4, 5, 6, 8, 9] rfl ?_
    exact kj_X1_farOf_84 F T ho hc hs1 ha1 hi6 h
  · replace h := h.2 c_3
    refine aw_al_n F 1 dX1_farOf_53 rfl rfl ?_
    refine aw_il_n F 2 dX1_farOf_54 rfl rfl ?_
    refine aw_il_n F 3 dX1_farOf_55 rfl rfl ?_
    refine aw_iadd F dX1_farOf_56 ?_
    refine aw_ic F dX1_farOf_57 ic_1 ?_
    refine aw_isub F dX1_farOf_58 ?_
    refine aw_il F 9 dX1_farOf_59 rfl ?_
    refine aw_isub F dX1_farOf_61 ?_
    refine aw_bald F o1 k1 (lo_s hs1) (hP _ hs1) ha1 h.1 dX1_farOf_62 ?_
    replace h := h.2
    refine aw_al_n F 1 dX1_farOf_63 rfl rfl ?_
    refine aw_il F 4 dX1_farOf_64 rfl ?_
    refine aw_il F 5 dX1_farOf_66 rfl ?_
    refine aw_iadd F dX1_farOf_68 ?_
    refine aw_ic F dX1_farOf_69 ic_1 ?_
    refine aw_isub F dX1_farOf_70 ?_
    refine aw_il F 9 dX1_farOf_71 rfl ?_
    refine aw_isub F dX1_farOf_73 ?_
    refine aw_bald F o1 k1 (lo_s hs1) (hP _ hs1) ha1 h.1 dX1_farOf_74 ?_
    replace h := h.2
    refine aw_icmp_ne (tgt := 84) F dX1_farOf_75 (by decide) (fun c_7 => ?_) (fun c_7 => ?_)
    · replace h := h.2 c_7
      refine aw_sub [0, 1, 2, 3, 4, 5, 6, 8, 9] rfl ?_
      exact kj_X1_farOf_84 F T ho hc hs1 ha1 hi6 h
    · replace h := h.1 c_7
      refine aw_inc (lv1 := [(9, .int (v9 + (1 : Int32))), (0, .ref (sdX X o 0)), (1, .ref (sdX X o1 k1)), (2, .int v2), (3, .int v3), (4, .int v4), (5, .int v5), (6, .ref (E.2.2.1 t6)), (7, .int v7), (8, .int v8)]) F 9 dX1_farOf_78 rfl (in_1 _) (by decide) rfl ?_
      refine aw_go (tgt := 43) F dX1_farOf_81 (by decide) ?_
      refine aw_sub [1, 2, 3, 4, 5, 6, 7, 8, 9, 0] rfl ?_
      exact K43 _ _ _ _ _ _ _ _ h
set_option maxRecDepth 100000 in
set_option maxHeartbeats 4000000 in
theorem kj_X1_farOf_40 {E : Ev} {X : Cx} {post : Int32 → GH → Prop} {o : Nat} {o1 k1 m1 : Nat} {t6 : Nat} {v2 v3 v4 v5 v7 v8 : Int32} {G : GH} (F : Fx E X "MarkField$Likeness" cX1_farOf 11) (T : RT E X 1 0 0 (some .int) (pI post)) (ho : stt o = true) (hc : oc o = 1) (hs1 : stt o1 = true) (ha1 : al (oc o1) k1 = some (1, m1)) (hi6 : t6 < 5) (h : j_X1_farOf_40 post o o1 k1 m1 t6 v2 v3 v4 v5 v7 v8 G) : AW E X 11 40 [(0, .ref (sdX X o 0)), (1, .ref (sdX X o1 k1)), (2, .int v2), (3, .int v3), (4, .int v4), (5, .int v5), (6, .ref (E.2.2.1 t6)), (7, .int v7), (8, .int v8)] [] G 0 0 := by
  have hP := F.P
  refine aw_ic F dX1_farOf_40 ic_0 ?_
  refine aw_is (lv1 := [(9, .int (0 : Int32)), (0, .ref (sdX X o 0)), (1, .ref (sdX X o1 k1)), (2, .int v2), (3, .int v3), (4, .int v4), (5, .int v5), (6, .ref (E.2.2.1 t6)), (7, .int v7), (8, .int v8)]) F dX1_farOf_41 (by decide) rfl ?_
  refine aw_sub [1, 2, 3, 4, 5, 6, 7, 8, 9, 0] rfl ?_
  exact kl_X1_farOf_43 F T ho hc hs1 ha1 hi6 h
set_option maxRecDepth 100000 in
set_option maxHeartbeats 4000000 in
theorem kl_X1_farOf_11 {E : Ev} {X : Cx} {post : Int32 → GH → Prop} {o : Nat} {o1 k1 m1 : Nat} {t6 : Nat} {v2 v3 v4 v5 v7 v8 : Int32} {G : GH} (F : Fx E X "MarkField$Likeness" cX1_farOf 11) (T : RT E X 1 0 0 (some .int) (pI post)) (ho : stt o = true) (hc : oc o = 1) (hs1 : stt o1 = true) (ha1 : al (oc o1) k1 = some (1, m1)) (hi6 : t6 < 5) (h : lp_X1_farOf_11 post o o1 k1 m1 t6 v2 v3 v4 v5 v7 v8 G) : AW E X 11 11 [(0, .ref (sdX X o 0)), (1, .ref (sdX X o1 k1)), (2, .int v2), (3, .int v3), (4, .int v4), (5, .int v5), (6, .ref (E.2.2.1 t6)), (7, .int v7), (8, .int v8)] [] G 0 0 := by
  have hP := F.P
  have K11 : ∀ (v2 v3 v4 v5 v7 v8 : Int32) (G : GH), AW E X 11 11 [(0, .ref (sdX X o 0)), (1, .ref (sdX X o1 k1)), (2, .int v2), (3, .int v3), (4, .int v4), (5, .int v5), (6, .ref (E.2.2.1 t6)), (7, .int v7), (8, .int v8)] [] G 0 0 → AW E X 11 11 [(0, .ref (sdX X o 0)), (1, .ref (sdX X o1 k1)), (2, .int v2), (3, .int v3), (4, .int v4), (5, .int v5), (6, .ref (E.2.2.1 t6)), (7, .int v7), (8, .int v8)] [] G 0 0 := fun _ _ _ _ _ _ _ q => q
  refine h (fun (v2 v3 v4 v5 v7 v8 : Int32) (G : GH) => AW E X 11 11 [(0, .ref (sdX X o 0)), (1, .ref (sdX X o1 k1)), (2, .int v2), (3, .int v3), (4, .int v4), (5, .int v5), (6, .ref (E.2.2.1 t6)), (7, .int v7), (8, .int v8)] [] G 0 0) (fun (v2 v3 v4 v5 v7 v8 : Int32) (G : GH) h => ?_)
  refine aw_il F 8 dX1_farOf_11 rfl ?_
  refine aw_il F 7 dX1_farOf_13 rfl ?_
  refine aw_icmp_ge (tgt := 40) F dX1_farOf_15 (by decide) (fun c_2 => ?_) (fun c_2 => ?_)
  · replace h := h.1 c_2
    exact kj_X1_farOf_40 F T ho hc hs1 ha1 hi6 h
  · replace h := h.2 c_2
    refine aw_al_n F 1 dX1_farOf_18 rfl rfl ?_
    refine aw_il_n F 2 dX1_farOf_19 rfl rfl ?_
    refine aw_il F 8 dX1_farOf_20 rfl ?_
    refine aw_iadd F dX1_farOf_22 ?_
    refine aw_bald F o1 k1 (lo_s hs1) (hP _ hs1) ha1 h.1 dX1_farOf_23 ?_
    replace h := h.2
    refine aw_al_n F 1 dX1_farOf_24 rfl rfl ?_
    refine aw_il F 4 dX1_farOf_25 rfl ?_
    refine aw_il F 8 dX1_farOf_27 rfl ?_
    refine aw_iadd F dX1_farOf_29 ?_
    refine aw_bald F o1 k1 (lo_s hs1) (hP _ hs1) ha1 h.1 dX1_farOf_30 ?_
    replace h := h.2
    refine aw_icmp_ne (tgt := 40) F dX1_farOf_31 (by decide) (fun c_8 => ?_) (fun c_8 => ?_)
    · replace h := h.2 c_8
      exact kj_X1_farOf_40 F T ho hc hs1 ha1 hi6 h
    · replace h := h.1 c_8
      refine aw_inc (lv1 := [(8, .int (v8 + (1 : Int32))), (0, .ref (sdX X o 0)), (1, .ref (sdX X o1 k1)), (2, .int v2), (3, .int v3), (4, .int v4), (5, .int v5), (6, .ref (E.2.2.1 t6)), (7, .int v7)]) F 8 dX1_farOf_34 rfl (in_1 _) (by decide) rfl ?_
      refine aw_go (tgt := 11) F dX1_farOf_37 (by decide) ?_
      refine aw_sub [1, 2, 3, 4, 5, 6, 7, 8, 0] rfl ?_
      exact K11 _ _ _ _ _ _ _ h
set_option maxRecDepth 100000 in
set_option maxHeartbeats 4000000 in
theorem k_X1_farOf {l : Launch} {E : Ev} {P : Nat → Prop} {sd : Nat → Nat → Nat} {G : GH} {post : Int32 → GH → Prop} {o : Nat} {o1 k1 m1 : Nat} {t6 : Nat} {x2 x3 x4 x5 : Int32} (hPP : ∀ o, stt o = true → P o) (ho : stt o = true) (hc : oc o = 1) (hs1 : stt o1 = true) (ha1 : al (oc o1) k1 = some (1, m1)) (hi6 : t6 < 5) (h : wp_X1_farOf post o o1 k1 m1 t6 x2 x3 x4 x5 G) : Ct l yX1_farOf cX1_farOf 11 (some .int) 1 0 0 E P sd G [.ref (sd o 0), .ref (sd o1 k1), .int x2, .int x3, .int x4, .int x5, .ref (E.2.2.1 t6)] (pI post) := by
  refine ct_of (own := "MarkField$Likeness") (by decide) rfl (Nat.le_of_ble_eq_true rfl) hPP (fun X F T el eP es => ?_)
  subst el; subst eP; subst es
  have hP := F.P
  change AW E X 11 0 [(0, .ref (sdX X o 0)), (1, .ref (sdX X o1 k1)), (2, .int x2), (3, .int x3), (4, .int x4), (5, .int x5), (6, .ref (E.2.2.1 t6))] [] G 0 0
  refine aw_il_n F 3 dX1_farOf_0 rfl rfl ?_
  refine aw_il F 5 dX1_farOf_1 rfl ?_
  refine aw_min F T.room w_676 w_479 w_16 w_480 (Nat.le_of_ble_eq_true rfl) (Nat.le_of_ble_eq_true rfl) ⟨(Nat.le_of_ble_eq_true rfl), (Nat.le_of_ble_eq_true rfl)⟩ dX1_farOf_3 ?_
  refine aw_top (fun y_1 ey_1 => ?_)
  replace h := h y_1 ey_1
  refine aw_is (lv1 := [(7, .int y_1), (0, .ref (sdX X o 0)), (1, .ref (sdX X o1 k1)), (2, .int x2), (3, .int x3), (4, .int x4), (5, .int x5), (6, .ref (E.2.2.1 t6))]) F dX1_farOf_6 (by decide) rfl ?_
  refine aw_ic F dX1_farOf_8 ic_0 ?_
  refine aw_is (lv1 := [(8, .int (0 : Int32)), (7, .int y_1), (0, .ref (sdX X o 0)), (1, .ref (sdX X o1 k1)), (2, .int x2), (3, .int x3), (4, .int x4), (5, .int x5), (6, .ref (E.2.2.1 t6))]) F dX1_farOf_9 (by decide) rfl ?_
  refine aw_sub [2, 3, 4, 5, 6, 7, 8, 1, 0] rfl ?_
  exact kl_X1_farOf_11 F T ho hc hs1 ha1 hi6 h
-- X1_likenessOf (height 2)
def wp_X1_likenessOf (post : Int32 → GH → Prop) (o : Nat) (o1 k1 m1 : Nat) (t6 : Nat) (x2 x3 x4 x5 : Int32) (G : GH) : Prop :=
  (∀ y_1 : Int32, y_1 = (imax x3 x5) → ((y_1 = 0 → post (100 : Int32) G) ∧ (¬ y_1 = 0 → wp_X1_farOf (fun (r_4 : Int32) (G_3 : GH) => (¬ y_1 = 0 ∧ post ((100 : Int32) - (((((50 : Int32) * r_4) + y_1) - (1 : Int32)) / y_1)) G_3)) o o1 k1 m1 t6 x2 x3 x4 x5 G)))
set_option maxRecDepth 100000 in
set_option maxHeartbeats 4000000 in
theorem k_X1_likenessOf {l : Launch} {E : Ev} {P : Nat → Prop} {sd : Nat → Nat → Nat} {G : GH} {post : Int32 → GH → Prop} {o : Nat} {o1 k1 m1 : Nat} {t6 : Nat} {x2 x3 x4 x5 : Int32} (hPP : ∀ o, stt o = true → P o) (ho : stt o = true) (hc : oc o = 1) (hs1 : stt o1 = true) (ha1 : al (oc o1) k1 = some (1, m1)) (hi6 : t6 < 5) (h : wp_X1_likenessOf post o o1 k1 m1 t6 x2 x3 x4 x5 G) : Ct l yX1_likenessOf cX1_likenessOf 9 (some .int) 2 0 0 E P sd G [.ref (sd o 0), .ref (sd o1 k1), .int x2, .int x3, .int x4, .int x5, .ref (E.2.2.1 t6)] (pI post) := by
  refine ct_of (own := "MarkField$Likeness") (by decide) rfl (Nat.le_of_ble_eq_true rfl) hPP (fun X F T el eP es => ?_)
  subst el; subst eP; subst es
  have hP := F.P
  change AW E X 9 0 [(0, .ref (sdX X o 0)), (1, .ref (sdX X o1 k1)), (2, .int x2), (3, .int x3), (4, .int x4), (5, .int x5), (6, .ref (E.2.2.1 t6))] [] G 0 0
  refine aw_il_n F 3 dX1_likenessOf_0 rfl rfl ?_
  refine aw_il F 5 dX1_likenessOf_1 rfl ?_
  refine aw_max F T.room w_669 w_670 w_16 w_671 (Nat.le_of_ble_eq_true rfl) (Nat.le_of_ble_eq_true rfl) ⟨(Nat.le_of_ble_eq_true rfl), (Nat.le_of_ble_eq_true rfl)⟩ dX1_likenessOf_3 ?_
  refine aw_top (fun y_1 ey_1 => ?_)
  replace h := h y_1 ey_1
  refine aw_is (lv1 := [(7, .int y_1), (0, .ref (sdX X o 0)), (1, .ref (sdX X o1 k1)), (2, .int x2), (3, .int x3), (4, .int x4), (5, .int x5), (6, .ref (E.2.2.1 t6))]) F dX1_likenessOf_6 (by decide) rfl ?_
  refine aw_il F 0 dX1_likenessOf_8 rfl ?_
  refine aw_if_ne (tgt := 16) F dX1_likenessOf_10 (by decide) (fun c_2 => ?_) (fun c_2 => ?_)
  · replace h := h.2 c_2
    refine aw_al_n F 1 dX1_likenessOf_16 rfl rfl ?_
    refine aw_al_n F 2 dX1_likenessOf_17 rfl rfl ?_
    refine aw_il_n F 3 dX1_likenessOf_18 rfl rfl ?_
    refine aw_il_n F 4 dX1_likenessOf_19 rfl rfl ?_
    refine aw_il F 5 dX1_likenessOf_20 rfl ?_
    refine aw_il F 6 dX1_likenessOf_22 rfl ?_
    refine aw_al F 7 dX1_likenessOf_24 rfl ?_
    refine aw_cVi (stk := []) F T.room [.ref (sdX X o1 k1), .int x2, .int x3, .int x4, .int x5, .ref (E.2.2.1 t6)] (k_X1_farOf hP ho hc hs1 ha1 hi6 h) mv_X1_farOf w_672 cf1 (lo_s ho) (hP _ ho) hc (by decide) rfl rfl (Nat.le_of_ble_eq_true rfl) ⟨(Nat.le_of_ble_eq_true rfl), (Nat.le_of_ble_eq_true rfl)⟩ ⟨(Nat.le_of_ble_eq_true rfl), (Nat.le_of_ble_eq_true rfl)⟩ dX1_likenessOf_26 (fun r_4 G_3 h => ?_)
    refine aw_is (lv1 := [(8, .int r_4), (7, .int y_1), (0, .ref (sdX X o 0)), (1, .ref (sdX X o1 k1)), (2, .int x2), (3, .int x3), (4, .int x4), (5, .int x5), (6, .ref (E.2.2.1 t6))]) F dX1_likenessOf_29 (by decide) rfl ?_
    refine aw_bi F dX1_likenessOf_31 bi_100 ?_
    refine aw_bi F dX1_likenessOf_33 bi_50 ?_
    refine aw_il F 0 dX1_likenessOf_35 rfl ?_
    refine aw_imul F dX1_likenessOf_37 ?_
    refine aw_il F 1 dX1_likenessOf_38 rfl ?_
    refine aw_iadd F dX1_likenessOf_40 ?_
    refine aw_ic F dX1_likenessOf_41 ic_1 ?_
    refine aw_isub F dX1_likenessOf_42 ?_
    refine aw_il F 1 dX1_likenessOf_43 rfl ?_
    refine aw_idiv F dX1_likenessOf_45 h.1 ?_
    replace h := h.2
    refine aw_isub F dX1_likenessOf_46 ?_
    exact aw_iret F T (Nat.le_of_ble_eq_true rfl) (Nat.le_of_ble_eq_true rfl) ⟨_, rfl, h⟩ dX1_likenessOf_47
  · replace h := h.1 c_2
    refine aw_bi F dX1_likenessOf_13 bi_100 ?_
    exact aw_iret F T (Nat.le_of_ble_eq_true rfl) (Nat.le_of_ble_eq_true rfl) ⟨_, rfl, h⟩ dX1_likenessOf_15
-- X1_compareNames (height 3)
def wp_X1_compareNames (post : GH → Prop) (o : Nat) (o1 : Nat) (x2 x3 : Int32) (G : GH) : Prop :=
  (vp_in x2 13 ∧ (vp_in x3 13 ∧ wp_X1_likenessOf (fun (r_2 : Int32) (G_1 : GH) => wp_X1_setPair (fun (G_3 : GH) => (vp_in x2 13 ∧ (vp_in x3 13 ∧ wp_X1_likenessOf (fun (r_6 : Int32) (G_5 : GH) => wp_X1_setPair (fun (G_7 : GH) => post G_7) o 4 169 x2 x3 r_6 G_5) o o 1 260 4 (x2 * (20 : Int32)) (G_3 o 2 x2.toNatClampNeg) (x3 * (20 : Int32)) (G_3 o 2 x3.toNatClampNeg) G_3))) o 3 169 x2 x3 r_2 G_1) o o1 6 130 3 (x2 * (10 : Int32)) (G o1 5 x2.toNatClampNeg) (x3 * (10 : Int32)) (G o1 5 x3.toNatClampNeg) G))
set_option maxRecDepth 100000 in
set_option maxHeartbeats 4000000 in
theorem k_X1_compareNames {l : Launch} {E : Ev} {P : Nat → Prop} {sd : Nat → Nat → Nat} {G : GH} {post : GH → Prop} {o : Nat} {o1 : Nat} {x2 x3 : Int32} (hPP : ∀ o, stt o = true → P o) (ho : stt o = true) (hc : oc o = 1) (ho1 : stt o1 = true) (hc1 : oc o1 = 4) (h : wp_X1_compareNames post o o1 x2 x3 G) : Ct l yX1_compareNames cX1_compareNames 6 none 3 0 0 E P sd G [.ref (sd o 0), .ref (sd o1 0), .int x2, .int x3] (pV post) := by
  refine ct_of (own := "MarkField$Likeness") (by decide) rfl (Nat.le_of_ble_eq_true rfl) hPP (fun X F T el eP es => ?_)
  subst el; subst eP; subst es
  have hP := F.P
  change AW E X 6 0 [(0, .ref (sdX X o 0)), (1, .ref (sdX X o1 0)), (2, .int x2), (3, .int x3)] [] G 0 0
  refine aw_al_n F 0 dX1_compareNames_0 rfl rfl ?_
  refine aw_al_n F 1 dX1_compareNames_1 rfl rfl ?_
  refine gr4_5 F (lo_s ho1) (hP _ ho1) hc1 w_102 (hP _ ho1) dX1_compareNames_2 ?_
  refine aw_il_n F 2 dX1_compareNames_5 rfl rfl ?_
  refine aw_bi F dX1_compareNames_6 bi_10 ?_
  refine aw_imul F dX1_compareNames_8 ?_
  refine aw_al_n F 1 dX1_compareNames_9 rfl rfl ?_
  refine gr4_4 F (lo_s ho1) (hP _ ho1) hc1 w_99 (hP _ ho1) dX1_compareNames_10 ?_
  refine aw_il_n F 2 dX1_compareNames_13 rfl rfl ?_
  refine aw_iald F o1 5 (lo_s ho1) (hP _ ho1) (al_of hc1 rfl) h.1 dX1_compareNames_14 ?_
  replace h := h.2
  refine aw_il_n F 3 dX1_compareNames_15 rfl rfl ?_
  refine aw_bi F dX1_compareNames_16 bi_10 ?_
  refine aw_imul F dX1_compareNames_18 ?_
  refine aw_al_n F 1 dX1_compareNames_19 rfl rfl ?_
  refine gr4_4 F (lo_s ho1) (hP _ ho1) hc1 w_99 (hP _ ho1) dX1_compareNames_20 ?_
  refine aw_il_n F 3 dX1_compareNames_23 rfl rfl ?_
  refine aw_iald F o1 5 (lo_s ho1) (hP _ ho1) (al_of hc1 rfl) h.1 dX1_compareNames_24 ?_
  replace h := h.2
  refine aw_gstN F 3 (by decide) (by decide) dX1_compareNames_25 ?_
  refine aw_cVi (stk := []) F T.room [.ref (sdX X o1 6), .int (x2 * (10 : Int32)), .int (G o1 5 x2.toNatClampNeg), .int (x3 * (10 : Int32)), .int (G o1 5 x3.toNatClampNeg), .ref (E.2.2.1 3)] (k_X1_likenessOf hP ho hc ho1 (al_of hc1 rfl) (by decide) h) mv_X1_likenessOf w_665 cf1 (lo_s ho) (hP _ ho) hc (by decide) rfl rfl (Nat.le_of_ble_eq_true rfl) ⟨(Nat.le_of_ble_eq_true rfl), (Nat.le_of_ble_eq_true rfl)⟩ ⟨(Nat.le_of_ble_eq_true rfl), (Nat.le_of_ble_eq_true rfl)⟩ dX1_compareNames_28 (fun r_2 G_1 h => ?_)
  refine aw_is (lv1 := [(4, .int r_2), (0, .ref (sdX X o 0)), (1, .ref (sdX X o1 0)), (2, .int x2), (3, .int x3)]) F dX1_compareNames_31 (by decide) rfl ?_
  refine aw_al_n F 1 dX1_compareNames_33 rfl rfl ?_
  refine gr1_2 F (lo_s ho) (hP _ ho) hc w_175 (hP _ ho) dX1_compareNames_34 ?_
  refine aw_il_n F 3 dX1_compareNames_37 rfl rfl ?_
  refine aw_il_n F 4 dX1_compareNames_38 rfl rfl ?_
  refine aw_il F 0 dX1_compareNames_39 rfl ?_
  refine aw_cSv (stk := []) F T.room [.ref (sdX X o 3), .int x2, .int x3, .int r_2] (k_X1_setPair hP ho (al_of hc rfl) h) ms_X1_setPair w_681 rfl rfl (Nat.le_of_ble_eq_true rfl) ⟨(Nat.le_of_ble_eq_true rfl), (Nat.le_of_ble_eq_true rfl)⟩ ⟨(Nat.le_of_ble_eq_true rfl), (Nat.le_of_ble_eq_true rfl)⟩ dX1_compareNames_41 (fun G_3 h => ?_)
  refine aw_al_n F 1 dX1_compareNames_44 rfl rfl ?_
  refine aw_al_n F 1 dX1_compareNames_45 rfl rfl ?_
  refine gr1_0 F (lo_s ho) (hP _ ho) hc w_170 (hP _ ho) dX1_compareNames_46 ?_
  refine aw_il_n F 3 dX1_compareNames_49 rfl rfl ?_
  refine aw_bi F dX1_compareNames_50 bi_20 ?_
  refine aw_imul F dX1_compareNames_52 ?_
  refine aw_al_n F 1 dX1_compareNames_53 rfl rfl ?_
  refine gr1_1 F (lo_s ho) (hP _ ho) hc w_172 (hP _ ho) dX1_compareNames_54 ?_
  refine aw_il_n F 3 dX1_compareNames_57 rfl rfl ?_
  refine aw_iald F o 2 (lo_s ho) (hP _ ho) (al_of hc rfl) h.1 dX1_compareNames_58 ?_
  replace h := h.2
  refine aw_il_n F 4 dX1_compareNames_59 rfl rfl ?_
  refine aw_bi F dX1_compareNames_60 bi_20 ?_
  refine aw_imul F dX1_compareNames_62 ?_
  refine aw_al_n F 1 dX1_compareNames_63 rfl rfl ?_
  refine gr1_1 F (lo_s ho) (hP _ ho) hc w_172 (hP _ ho) dX1_compareNames_64 ?_
  refine aw_il_n F 4 dX1_compareNames_67 rfl rfl ?_
  refine aw_iald F o 2 (lo_s ho) (hP _ ho) (al_of hc rfl) h.1 dX1_compareNames_68 ?_
  replace h := h.2
  refine aw_gstN F 4 (by decide) (by decide) dX1_compareNames_69 ?_
  refine aw_cVi (stk := []) F T.room [.ref (sdX X o 1), .int (x2 * (20 : Int32)), .int (G_3 o 2 x2.toNatClampNeg), .int (x3 * (20 : Int32)), .int (G_3 o 2 x3.toNatClampNeg), .ref (E.2.2.1 4)] (k_X1_likenessOf hP ho hc ho (al_of hc rfl) (by decide) h) mv_X1_likenessOf w_665 cf1 (lo_s ho) (hP _ ho) hc (by decide) rfl rfl (Nat.le_of_ble_eq_true rfl) ⟨(Nat.le_of_ble_eq_true rfl), (Nat.le_of_ble_eq_true rfl)⟩ ⟨(Nat.le_of_ble_eq_true rfl), (Nat.le_of_ble_eq_true rfl)⟩ dX1_compareNames_72 (fun r_6 G_5 h => ?_)
  refine aw_is (lv1 := [(5, .int r_6), (4, .int r_2), (0, .ref (sdX X o 0)), (1, .ref (sdX X o1 0)), (2, .int x2), (3, .int x3)]) F dX1_compareNames_75 (by decide) rfl ?_
  refine aw_al_n F 2 dX1_compareNames_77 rfl rfl ?_
  refine gr1_3 F (lo_s ho) (hP _ ho) hc w_177 (hP _ ho) dX1_compareNames_78 ?_
  refine aw_il_n F 4 dX1_compareNames_81 rfl rfl ?_
  refine aw_il_n F 5 dX1_compareNames_82 rfl rfl ?_
  refine aw_il F 0 dX1_compareNames_83 rfl ?_
  refine aw_cSv (stk := []) F T.room [.ref (sdX X o 4), .int x2, .int x3, .int r_6] (k_X1_setPair hP ho (al_of hc rfl) h) ms_X1_setPair w_681 rfl rfl (Nat.le_of_ble_eq_true rfl) ⟨(Nat.le_of_ble_eq_true rfl), (Nat.le_of_ble_eq_true rfl)⟩ ⟨(Nat.le_of_ble_eq_true rfl), (Nat.le_of_ble_eq_true rfl)⟩ dX1_compareNames_85 (fun G_7 h => ?_)
  exact aw_vret F T (Nat.le_of_ble_eq_true rfl) (Nat.le_of_ble_eq_true rfl) ⟨rfl, h⟩ dX1_compareNames_88
-- X1_learnNames (height 4)
def lb_X1_learnNames_18 (post : GH → Prop) (P2 : Int32 → GH → Prop) (o : Nat) (o1 : Nat) (P18 : Int32 → Int32 → GH → Prop) (v2 v3 : Int32) (G : GH) : Prop :=
  ((v2 ≤ v3 → P2 (v2 + (1 : Int32)) G) ∧ (¬ v2 ≤ v3 → wp_X1_compareNames (fun (G_5 : GH) => P18 v2 (v3 + (1 : Int32)) G_5) o o1 v2 v3 G))
def lp_X1_learnNames_18 (post : GH → Prop) (P2 : Int32 → GH → Prop) (o : Nat) (o1 : Nat) (v2 v3 : Int32) (G : GH) : Prop := ∀ P18 : Int32 → Int32 → GH → Prop, (∀ (v2 v3 : Int32) (G : GH), lb_X1_learnNames_18 post P2 o o1 P18 v2 v3 G → P18 v2 v3 G) → P18 v2 v3 G
def lb_X1_learnNames_2 (post : GH → Prop) (o : Nat) (o1 : Nat) (P2 : Int32 → GH → Prop) (v2 : Int32) (G : GH) : Prop :=
  (((G o1 0 1) ≤ v2 → post G) ∧ (¬ (G o1 0 1) ≤ v2 → wp_X1_hear (fun (G_2 : GH) => lp_X1_learnNames_18 post P2 o o1 v2 (0 : Int32) G_2) o o1 v2 G))
def lp_X1_learnNames_2 (post : GH → Prop) (o : Nat) (o1 : Nat) (v2 : Int32) (G : GH) : Prop := ∀ P2 : Int32 → GH → Prop, (∀ (v2 : Int32) (G : GH), lb_X1_learnNames_2 post o o1 P2 v2 G → P2 v2 G) → P2 v2 G
def wp_X1_learnNames (post : GH → Prop) (o : Nat) (o1 : Nat) (G : GH) : Prop :=
  lp_X1_learnNames_2 post o o1 (0 : Int32) G
set_option maxRecDepth 100000 in
set_option maxHeartbeats 4000000 in
theorem kl_X1_learnNames_18 {E : Ev} {X : Cx} {post : GH → Prop} {P2 : Int32 → GH → Prop} {o : Nat} {o1 : Nat} {v2 v3 : Int32} {G : GH} (F : Fx E X "MarkField$Likeness" cX1_learnNames 4) (T : RT E X 4 0 0 none (pV post)) (ho : stt o = true) (hc : oc o = 1) (ho1 : stt o1 = true) (hc1 : oc o1 = 4) (K2 : ∀ (v2 : Int32) (G : GH), P2 v2 G → AW E X 4 2 [(0, .ref (sdX X o 0)), (1, .ref (sdX X o1 0)), (2, .int v2)] [] G 0 0) (h : lp_X1_learnNames_18 post P2 o o1 v2 v3 G) : AW E X 4 18 [(0, .ref (sdX X o 0)), (1, .ref (sdX X o1 0)), (2, .int v2), (3, .int v3)] [] G 0 0 := by
  have hP := F.P
  have K18 : ∀ (v2 v3 : Int32) (G : GH), AW E X 4 18 [(0, .ref (sdX X o 0)), (1, .ref (sdX X o1 0)), (2, .int v2), (3, .int v3)] [] G 0 0 → AW E X 4 18 [(0, .ref (sdX X o 0)), (1, .ref (sdX X o1 0)), (2, .int v2), (3, .int v3)] [] G 0 0 := fun _ _ _ q => q
  refine h (fun (v2 v3 : Int32) (G : GH) => AW E X 4 18 [(0, .ref (sdX X o 0)), (1, .ref (sdX X o1 0)), (2, .int v2), (3, .int v3)] [] G 0 0) (fun (v2 v3 : Int32) (G : GH) h => ?_)
  refine aw_il_n F 3 dX1_learnNames_18 rfl rfl ?_
  refine aw_il_n F 2 dX1_learnNames_19 rfl rfl ?_
  refine aw_icmp_ge (tgt := 36) F dX1_learnNames_20 (by decide) (fun c_4 => ?_) (fun c_4 => ?_)
  · replace h := h.1 c_4
    refine aw_inc (lv1 := [(2, .int (v2 + (1 : Int32))), (0, .ref (sdX X o 0)), (1, .ref (sdX X o1 0)), (3, .int v3)]) F 2 dX1_learnNames_36 rfl (in_1 _) (by decide) rfl ?_
    refine aw_go (tgt := 2) F dX1_learnNames_39 (by decide) ?_
    refine aw_sub [1, 2, 0] rfl ?_
    exact K2 _ _ h
  · replace h := h.2 c_4
    refine aw_al_n F 0 dX1_learnNames_23 rfl rfl ?_
    refine aw_al_n F 1 dX1_learnNames_24 rfl rfl ?_
    refine aw_il_n F 2 dX1_learnNames_25 rfl rfl ?_
    refine aw_il_n F 3 dX1_learnNames_26 rfl rfl ?_
    refine aw_cVv (stk := []) F T.room [.ref (sdX X o1 0), .int v2, .int v3] (k_X1_compareNames hP ho hc ho1 hc1 h) mv_X1_compareNames w_659 cf1 (lo_s ho) (hP _ ho) hc (by decide) rfl rfl (Nat.le_of_ble_eq_true rfl) ⟨(Nat.le_of_ble_eq_true rfl), (Nat.le_of_ble_eq_true rfl)⟩ ⟨(Nat.le_of_ble_eq_true rfl), (Nat.le_of_ble_eq_true rfl)⟩ dX1_learnNames_27 (fun G_5 h => ?_)
    refine aw_inc (lv1 := [(3, .int (v3 + (1 : Int32))), (0, .ref (sdX X o 0)), (1, .ref (sdX X o1 0)), (2, .int v2)]) F 3 dX1_learnNames_30 rfl (in_1 _) (by decide) rfl ?_
    refine aw_go (tgt := 18) F dX1_learnNames_33 (by decide) ?_
    refine aw_sub [1, 2, 3, 0] rfl ?_
    exact K18 _ _ _ h
set_option maxRecDepth 100000 in
set_option maxHeartbeats 4000000 in
theorem kl_X1_learnNames_2 {E : Ev} {X : Cx} {post : GH → Prop} {o : Nat} {o1 : Nat} {v2 : Int32} {G : GH} (F : Fx E X "MarkField$Likeness" cX1_learnNames 4) (T : RT E X 4 0 0 none (pV post)) (ho : stt o = true) (hc : oc o = 1) (ho1 : stt o1 = true) (hc1 : oc o1 = 4) (h : lp_X1_learnNames_2 post o o1 v2 G) : AW E X 4 2 [(0, .ref (sdX X o 0)), (1, .ref (sdX X o1 0)), (2, .int v2)] [] G 0 0 := by
  have hP := F.P
  have K2 : ∀ (v2 : Int32) (G : GH), AW E X 4 2 [(0, .ref (sdX X o 0)), (1, .ref (sdX X o1 0)), (2, .int v2)] [] G 0 0 → AW E X 4 2 [(0, .ref (sdX X o 0)), (1, .ref (sdX X o1 0)), (2, .int v2)] [] G 0 0 := fun _ _ q => q
  refine h (fun (v2 : Int32) (G : GH) => AW E X 4 2 [(0, .ref (sdX X o 0)), (1, .ref (sdX X o1 0)), (2, .int v2)] [] G 0 0) (fun (v2 : Int32) (G : GH) h => ?_)
  refine aw_il_n F 2 dX1_learnNames_2 rfl rfl ?_
  refine aw_al_n F 1 dX1_learnNames_3 rfl rfl ?_
  refine gf4_1 F (lo_s ho1) (hP _ ho1) hc1 w_87 dX1_learnNames_4 ?_
  refine aw_icmp_ge (tgt := 42) F dX1_learnNames_7 (by decide) (fun c_1 => ?_) (fun c_1 => ?_)
  · replace h := h.1 c_1
    exact aw_vret F T (Nat.le_of_ble_eq_true rfl) (Nat.le_of_ble_eq_true rfl) ⟨rfl, h⟩ dX1_learnNames_42
  · replace h := h.2 c_1
    refine aw_al_n F 0 dX1_learnNames_10 rfl rfl ?_
    refine aw_al_n F 1 dX1_learnNames_11 rfl rfl ?_
    refine aw_il_n F 2 dX1_learnNames_12 rfl rfl ?_
    refine aw_cVv (stk := []) F T.room [.ref (sdX X o1 0), .int v2] (k_X1_hear hP ho hc ho1 hc1 h) mv_X1_hear w_643 cf1 (lo_s ho) (hP _ ho) hc (by decide) rfl rfl (Nat.le_of_ble_eq_true rfl) ⟨(Nat.le_of_ble_eq_true rfl), (Nat.le_of_ble_eq_true rfl)⟩ ⟨(Nat.le_of_ble_eq_true rfl), (Nat.le_of_ble_eq_true rfl)⟩ dX1_learnNames_13 (fun G_2 h => ?_)
    refine aw_ic F dX1_learnNames_16 ic_0 ?_
    refine aw_is_n (lv1 := [(3, .int (0 : Int32)), (0, .ref (sdX X o 0)), (1, .ref (sdX X o1 0)), (2, .int v2)]) F dX1_learnNames_17 rfl (by decide) rfl ?_
    refine aw_sub [1, 2, 3, 0] rfl ?_
    exact kl_X1_learnNames_18 F T ho hc ho1 hc1 K2 h
set_option maxRecDepth 100000 in
set_option maxHeartbeats 4000000 in
theorem k_X1_learnNames {l : Launch} {E : Ev} {P : Nat → Prop} {sd : Nat → Nat → Nat} {G : GH} {post : GH → Prop} {o : Nat} {o1 : Nat} (hPP : ∀ o, stt o = true → P o) (ho : stt o = true) (hc : oc o = 1) (ho1 : stt o1 = true) (hc1 : oc o1 = 4) (h : wp_X1_learnNames post o o1 G) : Ct l yX1_learnNames cX1_learnNames 4 none 4 0 0 E P sd G [.ref (sd o 0), .ref (sd o1 0)] (pV post) := by
  refine ct_of (own := "MarkField$Likeness") (by decide) rfl (Nat.le_of_ble_eq_true rfl) hPP (fun X F T el eP es => ?_)
  subst el; subst eP; subst es
  have hP := F.P
  change AW E X 4 0 [(0, .ref (sdX X o 0)), (1, .ref (sdX X o1 0))] [] G 0 0
  refine aw_ic F dX1_learnNames_0 ic_0 ?_
  refine aw_is_n (lv1 := [(2, .int (0 : Int32)), (0, .ref (sdX X o 0)), (1, .ref (sdX X o1 0))]) F dX1_learnNames_1 rfl (by decide) rfl ?_
  refine aw_sub [1, 2, 0] rfl ?_
  exact kl_X1_learnNames_2 F T ho hc ho1 hc1 h
-- X1_compareGoods (height 2)
def lb_X1_compareGoods_2 (post : GH → Prop) (o : Nat) (o1 : Nat) (P2 : Int32 → Int32 → GH → Prop) (v2 v3 : Int32) (G : GH) : Prop :=
  (((G o1 0 1) ≤ v3 → post G) ∧ (¬ (G o1 0 1) ≤ v3 → (vp_in v2 13 ∧ (vp_in v3 13 ∧ wp_X4_stepsApart (fun (r_3 : Int32) (G_2 : GH) => wp_X1_setPair (fun (G_4 : GH) => P2 v2 (v3 + (1 : Int32)) G_4) o 5 169 v2 v3 r_3 G_2) o1 (G o1 4 v2.toNatClampNeg) (G o1 4 v3.toNatClampNeg) G))))
def lp_X1_compareGoods_2 (post : GH → Prop) (o : Nat) (o1 : Nat) (v2 v3 : Int32) (G : GH) : Prop := ∀ P2 : Int32 → Int32 → GH → Prop, (∀ (v2 v3 : Int32) (G : GH), lb_X1_compareGoods_2 post o o1 P2 v2 v3 G → P2 v2 v3 G) → P2 v2 v3 G
def wp_X1_compareGoods (post : GH → Prop) (o : Nat) (o1 : Nat) (x2 : Int32) (G : GH) : Prop :=
  lp_X1_compareGoods_2 post o o1 x2 (0 : Int32) G
set_option maxRecDepth 100000 in
set_option maxHeartbeats 4000000 in
theorem kl_X1_compareGoods_2 {E : Ev} {X : Cx} {post : GH → Prop} {o : Nat} {o1 : Nat} {v2 v3 : Int32} {G : GH} (F : Fx E X "MarkField$Likeness" cX1_compareGoods 5) (T : RT E X 2 0 0 none (pV post)) (ho : stt o = true) (hc : oc o = 1) (ho1 : stt o1 = true) (hc1 : oc o1 = 4) (h : lp_X1_compareGoods_2 post o o1 v2 v3 G) : AW E X 5 2 [(0, .ref (sdX X o 0)), (1, .ref (sdX X o1 0)), (2, .int v2), (3, .int v3)] [] G 0 0 := by
  have hP := F.P
  have K2 : ∀ (v2 v3 : Int32) (G : GH), AW E X 5 2 [(0, .ref (sdX X o 0)), (1, .ref (sdX X o1 0)), (2, .int v2), (3, .int v3)] [] G 0 0 → AW E X 5 2 [(0, .ref (sdX X o 0)), (1, .ref (sdX X o1 0)), (2, .int v2), (3, .int v3)] [] G 0 0 := fun _ _ _ q => q
  refine h (fun (v2 v3 : Int32) (G : GH) => AW E X 5 2 [(0, .ref (sdX X o 0)), (1, .ref (sdX X o1 0)), (2, .int v2), (3, .int v3)] [] G 0 0) (fun (v2 v3 : Int32) (G : GH) h => ?_)
  refine aw_il_n F 3 dX1_compareGoods_2 rfl rfl ?_
  refine aw_al_n F 1 dX1_compareGoods_3 rfl rfl ?_
  refine gf4_1 F (lo_s ho1) (hP _ ho1) hc1 w_87 dX1_compareGoods_4 ?_
  refine aw_icmp_ge (tgt := 45) F dX1_compareGoods_7 (by decide) (fun c_1 => ?_) (fun c_1 => ?_)
  · replace h := h.1 c_1
    exact aw_vret F T (Nat.le_of_ble_eq_true rfl) (Nat.le_of_ble_eq_true rfl) ⟨rfl, h⟩ dX1_compareGoods_45
  · replace h := h.2 c_1
    refine aw_al_n F 1 dX1_compareGoods_10 rfl rfl ?_
    refine aw_al_n F 1 dX1_compareGoods_11 rfl rfl ?_
    refine gr4_3 F (lo_s ho1) (hP _ ho1) hc1 w_96 (hP _ ho1) dX1_compareGoods_12 ?_
    refine aw_il_n F 2 dX1_compareGoods_15 rfl rfl ?_
    refine aw_iald F o1 4 (lo_s ho1) (hP _ ho1) (al_of hc1 rfl) h.1 dX1_compareGoods_16 ?_
    replace h := h.2
    refine aw_al_n F 1 dX1_compareGoods_17 rfl rfl ?_
    refine gr4_3 F (lo_s ho1) (hP _ ho1) hc1 w_96 (hP _ ho1) dX1_compareGoods_18 ?_
    refine aw_il_n F 3 dX1_compareGoods_21 rfl rfl ?_
    refine aw_iald F o1 4 (lo_s ho1) (hP _ ho1) (al_of hc1 rfl) h.1 dX1_compareGoods_22 ?_
    replace h := h.2
    refine aw_cVi (stk := []) F T.room [.int (G o1 4 v2.toNatClampNeg), .int (G o1 4 v3.toNatClampNeg)] (k_X4_stepsApart hP ho1 hc1 h) mv_X4_stepsApart w_697 cf4 (lo_s ho1) (hP _ ho1) hc1 (by decide) rfl rfl (Nat.le_of_ble_eq_true rfl) ⟨(Nat.le_of_ble_eq_true rfl), (Nat.le_of_ble_eq_true rfl)⟩ ⟨(Nat.le_of_ble_eq_true rfl), (Nat.le_of_ble_eq_true rfl)⟩ dX1_compareGoods_23 (fun r_3 G_2 h => ?_)
    refine aw_is (lv1 := [(4, .int r_3), (0, .ref (sdX X o 0)), (1, .ref (sdX X o1 0)), (2, .int v2), (3, .int v3)]) F dX1_compareGoods_26 (by decide) rfl ?_
    refine aw_al_n F 1 dX1_compareGoods_28 rfl rfl ?_
    refine gr1_4 F (lo_s ho) (hP _ ho) hc w_179 (hP _ ho) dX1_compareGoods_29 ?_
    refine aw_il_n F 3 dX1_compareGoods_32 rfl rfl ?_
    refine aw_il_n F 4 dX1_compareGoods_33 rfl rfl ?_
    refine aw_il F 0 dX1_compareGoods_34 rfl ?_
    refine aw_cSv (stk := []) F T.room [.ref (sdX X o 5), .int v2, .int v3, .int r_3] (k_X1_setPair hP ho (al_of hc rfl) h) ms_X1_setPair w_681 rfl rfl (Nat.le_of_ble_eq_true rfl) ⟨(Nat.le_of_ble_eq_true rfl), (Nat.le_of_ble_eq_true rfl)⟩ ⟨(Nat.le_of_ble_eq_true rfl), (Nat.le_of_ble_eq_true rfl)⟩ dX1_compareGoods_36 (fun G_4 h => ?_)
    refine aw_inc (lv1 := [(3, .int (v3 + (1 : Int32))), (4, .int r_3), (0, .ref (sdX X o 0)), (1, .ref (sdX X o1 0)), (2, .int v2)]) F 4 dX1_compareGoods_39 rfl (in_1 _) (by decide) rfl ?_
    refine aw_go (tgt := 2) F dX1_compareGoods_42 (by decide) ?_
    refine aw_sub [2, 3, 4, 0] rfl ?_
    exact K2 _ _ _ h
set_option maxRecDepth 100000 in
set_option maxHeartbeats 4000000 in
theorem k_X1_compareGoods {l : Launch} {E : Ev} {P : Nat → Prop} {sd : Nat → Nat → Nat} {G : GH} {post : GH → Prop} {o : Nat} {o1 : Nat} {x2 : Int32} (hPP : ∀ o, stt o = true → P o) (ho : stt o = true) (hc : oc o = 1) (ho1 : stt o1 = true) (hc1 : oc o1 = 4) (h : wp_X1_compareGoods post o o1 x2 G) : Ct l yX1_compareGoods cX1_compareGoods 5 none 2 0 0 E P sd G [.ref (sd o 0), .ref (sd o1 0), .int x2] (pV post) := by
  refine ct_of (own := "MarkField$Likeness") (by decide) rfl (Nat.le_of_ble_eq_true rfl) hPP (fun X F T el eP es => ?_)
  subst el; subst eP; subst es
  have hP := F.P
  change AW E X 5 0 [(0, .ref (sdX X o 0)), (1, .ref (sdX X o1 0)), (2, .int x2)] [] G 0 0
  refine aw_ic F dX1_compareGoods_0 ic_0 ?_
  refine aw_is_n (lv1 := [(3, .int (0 : Int32)), (0, .ref (sdX X o 0)), (1, .ref (sdX X o1 0)), (2, .int x2)]) F dX1_compareGoods_1 rfl (by decide) rfl ?_
  refine aw_sub [1, 2, 3, 0] rfl ?_
  exact kl_X1_compareGoods_2 F T ho hc ho1 hc1 h
-- X1_learnGoods (height 3)
def lb_X1_learnGoods_2 (post : GH → Prop) (o : Nat) (o1 : Nat) (P2 : Int32 → GH → Prop) (v2 : Int32) (G : GH) : Prop :=
  (((G o1 0 1) ≤ v2 → post G) ∧ (¬ (G o1 0 1) ≤ v2 → wp_X1_compareGoods (fun (G_2 : GH) => P2 (v2 + (1 : Int32)) G_2) o o1 v2 G))
def lp_X1_learnGoods_2 (post : GH → Prop) (o : Nat) (o1 : Nat) (v2 : Int32) (G : GH) : Prop := ∀ P2 : Int32 → GH → Prop, (∀ (v2 : Int32) (G : GH), lb_X1_learnGoods_2 post o o1 P2 v2 G → P2 v2 G) → P2 v2 G
def wp_X1_learnGoods (post : GH → Prop) (o : Nat) (o1 : Nat) (G : GH) : Prop :=
  lp_X1_learnGoods_2 post o o1 (0 : Int32) G
set_option maxRecDepth 100000 in
set_option maxHeartbeats 4000000 in
theorem kl_X1_learnGoods_2 {E : Ev} {X : Cx} {post : GH → Prop} {o : Nat} {o1 : Nat} {v2 : Int32} {G : GH} (F : Fx E X "MarkField$Likeness" cX1_learnGoods 3) (T : RT E X 3 0 0 none (pV post)) (ho : stt o = true) (hc : oc o = 1) (ho1 : stt o1 = true) (hc1 : oc o1 = 4) (h : lp_X1_learnGoods_2 post o o1 v2 G) : AW E X 3 2 [(0, .ref (sdX X o 0)), (1, .ref (sdX X o1 0)), (2, .int v2)] [] G 0 0 := by
  have hP := F.P
  have K2 : ∀ (v2 : Int32) (G : GH), AW E X 3 2 [(0, .ref (sdX X o 0)), (1, .ref (sdX X o1 0)), (2, .int v2)] [] G 0 0 → AW E X 3 2 [(0, .ref (sdX X o 0)), (1, .ref (sdX X o1 0)), (2, .int v2)] [] G 0 0 := fun _ _ q => q
  refine h (fun (v2 : Int32) (G : GH) => AW E X 3 2 [(0, .ref (sdX X o 0)), (1, .ref (sdX X o1 0)), (2, .int v2)] [] G 0 0) (fun (v2 : Int32) (G : GH) h => ?_)
  refine aw_il_n F 2 dX1_learnGoods_2 rfl rfl ?_
  refine aw_al_n F 1 dX1_learnGoods_3 rfl rfl ?_
  refine gf4_1 F (lo_s ho1) (hP _ ho1) hc1 w_87 dX1_learnGoods_4 ?_
  refine aw_icmp_ge (tgt := 22) F dX1_learnGoods_7 (by decide) (fun c_1 => ?_) (fun c_1 => ?_)
  · replace h := h.1 c_1
    exact aw_vret F T (Nat.le_of_ble_eq_true rfl) (Nat.le_of_ble_eq_true rfl) ⟨rfl, h⟩ dX1_learnGoods_22
  · replace h := h.2 c_1
    refine aw_al_n F 0 dX1_learnGoods_10 rfl rfl ?_
    refine aw_al_n F 1 dX1_learnGoods_11 rfl rfl ?_
    refine aw_il_n F 2 dX1_learnGoods_12 rfl rfl ?_
    refine aw_cVv (stk := []) F T.room [.ref (sdX X o1 0), .int v2] (k_X1_compareGoods hP ho hc ho1 hc1 h) mv_X1_compareGoods w_693 cf1 (lo_s ho) (hP _ ho) hc (by decide) rfl rfl (Nat.le_of_ble_eq_true rfl) ⟨(Nat.le_of_ble_eq_true rfl), (Nat.le_of_ble_eq_true rfl)⟩ ⟨(Nat.le_of_ble_eq_true rfl), (Nat.le_of_ble_eq_true rfl)⟩ dX1_learnGoods_13 (fun G_2 h => ?_)
    refine aw_inc (lv1 := [(2, .int (v2 + (1 : Int32))), (0, .ref (sdX X o 0)), (1, .ref (sdX X o1 0))]) F 2 dX1_learnGoods_16 rfl (in_1 _) (by decide) rfl ?_
    refine aw_go (tgt := 2) F dX1_learnGoods_19 (by decide) ?_
    refine aw_sub [1, 2, 0] rfl ?_
    exact K2 _ _ h
set_option maxRecDepth 100000 in
set_option maxHeartbeats 4000000 in
theorem k_X1_learnGoods {l : Launch} {E : Ev} {P : Nat → Prop} {sd : Nat → Nat → Nat} {G : GH} {post : GH → Prop} {o : Nat} {o1 : Nat} (hPP : ∀ o, stt o = true → P o) (ho : stt o = true) (hc : oc o = 1) (ho1 : stt o1 = true) (hc1 : oc o1 = 4) (h : wp_X1_learnGoods post o o1 G) : Ct l yX1_learnGoods cX1_learnGoods 3 none 3 0 0 E P sd G [.ref (sd o 0), .ref (sd o1 0)] (pV post) := by
  refine ct_of (own := "MarkField$Likeness") (by decide) rfl (Nat.le_of_ble_eq_true rfl) hPP (fun X F T el eP es => ?_)
  subst el; subst eP; subst es
  have hP := F.P
  change AW E X 3 0 [(0, .ref (sdX X o 0)), (1, .ref (sdX X o1 0))] [] G 0 0
  refine aw_ic F dX1_learnGoods_0 ic_0 ?_
  refine aw_is_n (lv1 := [(2, .int (0 : Int32)), (0, .ref (sdX X o 0)), (1, .ref (sdX X o1 0))]) F dX1_learnGoods_1 rfl (by decide) rfl ?_
  refine aw_sub [1, 2, 0] rfl ?_
  exact kl_X1_learnGoods_2 F T ho hc ho1 hc1 h
-- X1_ofNames (height 1)
def wp_X1_ofNames (post : Int32 → GH → Prop) (o : Nat) (o1 : Nat) (x2 x3 : Int32) (G : GH) : Prop :=
  (∀ y_1 : Int32, y_1 = (G o1 11 5) → wp_X1_pair (fun (r_3 : Int32) (G_2 : GH) => (vp_in r_3 169 ∧ (vp_in r_3 169 ∧ post (((y_1 * (G_2 o 4 r_3.toNatClampNeg)) + (((100 : Int32) - y_1) * (G_2 o 3 r_3.toNatClampNeg))) / (100 : Int32)) G_2))) x2 x3 G)
set_option maxRecDepth 100000 in
set_option maxHeartbeats 4000000 in
theorem k_X1_ofNames {l : Launch} {E : Ev} {P : Nat → Prop} {sd : Nat → Nat → Nat} {G : GH} {post : Int32 → GH → Prop} {o : Nat} {o1 : Nat} {x2 x3 : Int32} (hPP : ∀ o, stt o = true → P o) (ho : stt o = true) (hc : oc o = 1) (ho1 : stt o1 = true) (hc1 : oc o1 = 4) (h : wp_X1_ofNames post o o1 x2 x3 G) : Ct l yX1_ofNames cX1_ofNames 6 (some .int) 1 0 0 E P sd G [.ref (sd o 0), .ref (sd o1 0), .int x2, .int x3] (pI post) := by
  refine ct_of (own := "MarkField$Likeness") (by decide) rfl (Nat.le_of_ble_eq_true rfl) hPP (fun X F T el eP es => ?_)
  subst el; subst eP; subst es
  have hP := F.P
  change AW E X 6 0 [(0, .ref (sdX X o 0)), (1, .ref (sdX X o1 0)), (2, .int x2), (3, .int x3)] [] G 0 0
  refine aw_al_n F 1 dX1_ofNames_0 rfl rfl ?_
  refine gr4_10 F (lo_s ho1) (hP _ ho1) hc1 w_120 (hP _ ho1) dX1_ofNames_1 ?_
  refine aw_ic F dX1_ofNames_4 ic_5 ?_
  refine aw_ialdL F o1 11 (lo_s ho1) (hP _ ho1) (al_of hc1 rfl) (vin_l rfl) tn_5 dX1_ofNames_5 ?_
  refine aw_top (fun y_1 ey_1 => ?_)
  replace h := h y_1 ey_1
  refine aw_is (lv1 := [(4, .int y_1), (0, .ref (sdX X o 0)), (1, .ref (sdX X o1 0)), (2, .int x2), (3, .int x3)]) F dX1_ofNames_6 (by decide) rfl ?_
  refine aw_il_n F 3 dX1_ofNames_8 rfl rfl ?_
  refine aw_il_n F 4 dX1_ofNames_9 rfl rfl ?_
  refine aw_cSi (stk := []) F T.room [.int x2, .int x3] (k_X1_pair hP h) ms_X1_pair w_684 rfl rfl (Nat.le_of_ble_eq_true rfl) ⟨(Nat.le_of_ble_eq_true rfl), (Nat.le_of_ble_eq_true rfl)⟩ ⟨(Nat.le_of_ble_eq_true rfl), (Nat.le_of_ble_eq_true rfl)⟩ dX1_ofNames_10 (fun r_3 G_2 h => ?_)
  refine aw_is (lv1 := [(5, .int r_3), (4, .int y_1), (0, .ref (sdX X o 0)), (1, .ref (sdX X o1 0)), (2, .int x2), (3, .int x3)]) F dX1_ofNames_13 (by decide) rfl ?_
  refine aw_il F 1 dX1_ofNames_15 rfl ?_
  refine aw_al_n F 2 dX1_ofNames_17 rfl rfl ?_
  refine gr1_3 F (lo_s ho) (hP _ ho) hc w_177 (hP _ ho) dX1_ofNames_18 ?_
  refine aw_il F 0 dX1_ofNames_21 rfl ?_
  refine aw_iald F o 4 (lo_s ho) (hP _ ho) (al_of hc rfl) h.1 dX1_ofNames_23 ?_
  replace h := h.2
  refine aw_imul F dX1_ofNames_24 ?_
  refine aw_bi F dX1_ofNames_25 bi_100 ?_
  refine aw_il F 1 dX1_ofNames_27 rfl ?_
  refine aw_isub F dX1_ofNames_29 ?_
  refine aw_al_n F 2 dX1_ofNames_30 rfl rfl ?_
  refine gr1_2 F (lo_s ho) (hP _ ho) hc w_175 (hP _ ho) dX1_ofNames_31 ?_
  refine aw_il F 0 dX1_ofNames_34 rfl ?_
  refine aw_iald F o 3 (lo_s ho) (hP _ ho) (al_of hc rfl) h.1 dX1_ofNames_36 ?_
  replace h := h.2
  refine aw_imul F dX1_ofNames_37 ?_
  refine aw_iadd F dX1_ofNames_38 ?_
  refine aw_bi F dX1_ofNames_39 bi_100 ?_
  refine aw_idiv F dX1_ofNames_41 (by decide) ?_
  exact aw_iret F T (Nat.le_of_ble_eq_true rfl) (Nat.le_of_ble_eq_true rfl) ⟨_, rfl, h⟩ dX1_ofNames_42
-- X1_isNear (height 1)
def wp_X1_isNear (post : Bool → GH → Prop) (o : Nat) (o1 : Nat) (x2 x3 : Int32) (G : GH) : Prop :=
  wp_X1_pair (fun (r_2 : Int32) (G_1 : GH) => (vp_in r_2 169 ∧ (∀ y_3 : Int32, y_3 = (G_1 o 5 r_2.toNatClampNeg) → ((y_3 = (-1 : Int32) → post false G_1) ∧ (¬ y_3 = (-1 : Int32) → (((G_1 o1 11 3) < y_3 → post false G_1) ∧ (¬ (G_1 o1 11 3) < y_3 → post true G_1))))))) x2 x3 G
set_option maxRecDepth 100000 in
set_option maxHeartbeats 4000000 in
theorem k_X1_isNear {l : Launch} {E : Ev} {P : Nat → Prop} {sd : Nat → Nat → Nat} {G : GH} {post : Bool → GH → Prop} {o : Nat} {o1 : Nat} {x2 x3 : Int32} (hPP : ∀ o, stt o = true → P o) (ho : stt o = true) (hc : oc o = 1) (ho1 : stt o1 = true) (hc1 : oc o1 = 4) (h : wp_X1_isNear post o o1 x2 x3 G) : Ct l yX1_isNear cX1_isNear 5 (some .boolean) 1 0 0 E P sd G [.ref (sd o 0), .ref (sd o1 0), .int x2, .int x3] (pB post) := by
  refine ct_of (own := "MarkField$Likeness") (by decide) rfl (Nat.le_of_ble_eq_true rfl) hPP (fun X F T el eP es => ?_)
  subst el; subst eP; subst es
  have hP := F.P
  change AW E X 5 0 [(0, .ref (sdX X o 0)), (1, .ref (sdX X o1 0)), (2, .int x2), (3, .int x3)] [] G 0 0
  refine aw_al_n F 0 dX1_isNear_0 rfl rfl ?_
  refine gr1_4 F (lo_s ho) (hP _ ho) hc w_179 (hP _ ho) dX1_isNear_1 ?_
  refine aw_il_n F 2 dX1_isNear_4 rfl rfl ?_
  refine aw_il_n F 3 dX1_isNear_5 rfl rfl ?_
  refine aw_cSi (stk := [.ref (sdX X o 5)]) F T.room [.int x2, .int x3] (k_X1_pair hP h) ms_X1_pair w_684 rfl rfl (Nat.le_of_ble_eq_true rfl) ⟨(Nat.le_of_ble_eq_true rfl), (Nat.le_of_ble_eq_true rfl)⟩ ⟨(Nat.le_of_ble_eq_true rfl), (Nat.le_of_ble_eq_true rfl)⟩ dX1_isNear_6 (fun r_2 G_1 h => ?_)
  refine aw_iald F o 5 (lo_s ho) (hP _ ho) (al_of hc rfl) h.1 dX1_isNear_9 ?_
  replace h := h.2
  refine aw_top (fun y_3 ey_3 => ?_)
  replace h := h y_3 ey_3
  refine aw_is (lv1 := [(4, .int y_3), (0, .ref (sdX X o 0)), (1, .ref (sdX X o1 0)), (2, .int x2), (3, .int x3)]) F dX1_isNear_10 (by decide) rfl ?_
  refine aw_il F 0 dX1_isNear_12 rfl ?_
  refine aw_ic F dX1_isNear_14 ic_m1 ?_
  refine aw_icmp_eq (tgt := 33) F dX1_isNear_15 (by decide) (fun c_4 => ?_) (fun c_4 => ?_)
  · replace h := h.1 c_4
    refine aw_ic F dX1_isNear_33 ic_0 ?_
    exact aw_zret F T false rfl (Nat.le_of_ble_eq_true rfl) (Nat.le_of_ble_eq_true rfl) ⟨_, rfl, h⟩ dX1_isNear_34
  · replace h := h.2 c_4
    refine aw_il F 0 dX1_isNear_18 rfl ?_
    refine aw_al_n F 2 dX1_isNear_20 rfl rfl ?_
    refine gr4_10 F (lo_s ho1) (hP _ ho1) hc1 w_120 (hP _ ho1) dX1_isNear_21 ?_
    refine aw_ic F dX1_isNear_24 ic_3 ?_
    refine aw_ialdL F o1 11 (lo_s ho1) (hP _ ho1) (al_of hc1 rfl) (vin_l rfl) tn_3 dX1_isNear_25 ?_
    refine aw_icmp_gt (tgt := 33) F dX1_isNear_26 (by decide) (fun c_5 => ?_) (fun c_5 => ?_)
    · replace h := h.1 c_5
      refine aw_ic F dX1_isNear_33 ic_0 ?_
      exact aw_zret F T false rfl (Nat.le_of_ble_eq_true rfl) (Nat.le_of_ble_eq_true rfl) ⟨_, rfl, h⟩ dX1_isNear_34
    · replace h := h.2 c_5
      refine aw_ic F dX1_isNear_29 ic_1 ?_
      refine aw_go (tgt := 34) F dX1_isNear_30 (by decide) ?_
      exact aw_zret F T true rfl (Nat.le_of_ble_eq_true rfl) (Nat.le_of_ble_eq_true rfl) ⟨_, rfl, h⟩ dX1_isNear_34
-- X1_fieldOf (height 1)
def wp_X1_fieldOf (post : Int32 → GH → Prop) (o : Nat) (x1 : Int32) (G : GH) : Prop :=
  (vp_in x1 13 ∧ wp_J6_bitCount_0f7a4 (fun (r_2 : Int32) (G_1 : GH) => post r_2 G_1) (G o 6 x1.toNatClampNeg) G)
set_option maxRecDepth 100000 in
set_option maxHeartbeats 4000000 in
theorem k_X1_fieldOf {l : Launch} {E : Ev} {P : Nat → Prop} {sd : Nat → Nat → Nat} {G : GH} {post : Int32 → GH → Prop} {o : Nat} {x1 : Int32} (hPP : ∀ o, stt o = true → P o) (ho : stt o = true) (hc : oc o = 1) (h : wp_X1_fieldOf post o x1 G) : Ct l yX1_fieldOf cX1_fieldOf 2 (some .int) 1 0 0 E P sd G [.ref (sd o 0), .int x1] (pI post) := by
  refine ct_of (own := "MarkField$Likeness") (by decide) rfl (Nat.le_of_ble_eq_true rfl) hPP (fun X F T el eP es => ?_)
  subst el; subst eP; subst es
  have hP := F.P
  change AW E X 2 0 [(0, .ref (sdX X o 0)), (1, .int x1)] [] G 0 0
  refine aw_al_n F 0 dX1_fieldOf_0 rfl rfl ?_
  refine gr1_5 F (lo_s ho) (hP _ ho) hc w_181 (hP _ ho) dX1_fieldOf_1 ?_
  refine aw_il_n F 1 dX1_fieldOf_4 rfl rfl ?_
  refine aw_iald F o 6 (lo_s ho) (hP _ ho) (al_of hc rfl) h.1 dX1_fieldOf_5 ?_
  replace h := h.2
  refine aw_cSi (stk := []) F T.room [.int (G o 6 x1.toNatClampNeg)] (k_J6_bitCount_0f7a4 hP h) ms_J6_bitCount_0f7a4 w_728 rfl rfl (Nat.le_of_ble_eq_true rfl) ⟨(Nat.le_of_ble_eq_true rfl), (Nat.le_of_ble_eq_true rfl)⟩ ⟨(Nat.le_of_ble_eq_true rfl), (Nat.le_of_ble_eq_true rfl)⟩ dX1_fieldOf_6 (fun r_2 G_1 h => ?_)
  exact aw_iret F T (Nat.le_of_ble_eq_true rfl) (Nat.le_of_ble_eq_true rfl) ⟨_, rfl, h⟩ dX1_fieldOf_9
-- X1_crowdedBy (height 2)
def wp_X1_crowdedBy (post : Int32 → GH → Prop) (o : Nat) (o1 : Nat) (x2 : Int32) (G : GH) : Prop :=
  wp_X1_fieldOf (fun (r_2 : Int32) (G_1 : GH) => post (imax (0 : Int32) (r_2 - (G_1 o1 11 2))) G_1) o x2 G
set_option maxRecDepth 100000 in
set_option maxHeartbeats 4000000 in
theorem k_X1_crowdedBy {l : Launch} {E : Ev} {P : Nat → Prop} {sd : Nat → Nat → Nat} {G : GH} {post : Int32 → GH → Prop} {o : Nat} {o1 : Nat} {x2 : Int32} (hPP : ∀ o, stt o = true → P o) (ho : stt o = true) (hc : oc o = 1) (ho1 : stt o1 = true) (hc1 : oc o1 = 4) (h : wp_X1_crowdedBy post o o1 x2 G) : Ct l yX1_crowdedBy cX1_crowdedBy 3 (some .int) 2 0 0 E P sd G [.ref (sd o 0), .ref (sd o1 0), .int x2] (pI post) := by
  refine ct_of (own := "MarkField$Likeness") (by decide) rfl (Nat.le_of_ble_eq_true rfl) hPP (fun X F T el eP es => ?_)
  subst el; subst eP; subst es
  have hP := F.P
  change AW E X 3 0 [(0, .ref (sdX X o 0)), (1, .ref (sdX X o1 0)), (2, .int x2)] [] G 0 0
  refine aw_ic F dX1_crowdedBy_0 ic_0 ?_
  refine aw_al_n F 0 dX1_crowdedBy_1 rfl rfl ?_
  refine aw_il_n F 2 dX1_crowdedBy_2 rfl rfl ?_
  refine aw_cVi (stk := [.int (0 : Int32)]) F T.room [.int x2] (k_X1_fieldOf hP ho hc h) mv_X1_fieldOf w_724 cf1 (lo_s ho) (hP _ ho) hc (by decide) rfl rfl (Nat.le_of_ble_eq_true rfl) ⟨(Nat.le_of_ble_eq_true rfl), (Nat.le_of_ble_eq_true rfl)⟩ ⟨(Nat.le_of_ble_eq_true rfl), (Nat.le_of_ble_eq_true rfl)⟩ dX1_crowdedBy_3 (fun r_2 G_1 h => ?_)
  refine aw_al_n F 1 dX1_crowdedBy_6 rfl rfl ?_
  refine gr4_10 F (lo_s ho1) (hP _ ho1) hc1 w_120 (hP _ ho1) dX1_crowdedBy_7 ?_
  refine aw_ic F dX1_crowdedBy_10 ic_2 ?_
  refine aw_ialdL F o1 11 (lo_s ho1) (hP _ ho1) (al_of hc1 rfl) (vin_l rfl) tn_2 dX1_crowdedBy_11 ?_
  refine aw_isub F dX1_crowdedBy_12 ?_
  refine aw_max F T.room w_669 w_670 w_16 w_671 (Nat.le_of_ble_eq_true rfl) (Nat.le_of_ble_eq_true rfl) ⟨(Nat.le_of_ble_eq_true rfl), (Nat.le_of_ble_eq_true rfl)⟩ dX1_crowdedBy_13 ?_
  exact aw_iret F T (Nat.le_of_ble_eq_true rfl) (Nat.le_of_ble_eq_true rfl) ⟨_, rfl, h⟩ dX1_crowdedBy_16
-- X1_likenessBorne (height 3)
def wp_X1_likenessBorne (post : Int32 → GH → Prop) (o : Nat) (o1 : Nat) (x2 x3 : Int32) (G : GH) : Prop :=
  wp_X1_crowdedBy (fun (r_2 : Int32) (G_1 : GH) => wp_X1_crowdedBy (fun (r_4 : Int32) (G_3 : GH) => (∀ y_5 : Int32, y_5 = (imax r_2 r_4) → post (imin (100 : Int32) ((G_3 o1 11 0) + ((G_3 o1 11 1) * y_5))) G_3)) o o1 x3 G_1) o o1 x2 G
set_option maxRecDepth 100000 in
set_option maxHeartbeats 4000000 in
theorem k_X1_likenessBorne {l : Launch} {E : Ev} {P : Nat → Prop} {sd : Nat → Nat → Nat} {G : GH} {post : Int32 → GH → Prop} {o : Nat} {o1 : Nat} {x2 x3 : Int32} (hPP : ∀ o, stt o = true → P o) (ho : stt o = true) (hc : oc o = 1) (ho1 : stt o1 = true) (hc1 : oc o1 = 4) (h : wp_X1_likenessBorne post o o1 x2 x3 G) : Ct l yX1_likenessBorne cX1_likenessBorne 5 (some .int) 3 0 0 E P sd G [.ref (sd o 0), .ref (sd o1 0), .int x2, .int x3] (pI post) := by
  refine ct_of (own := "MarkField$Likeness") (by decide) rfl (Nat.le_of_ble_eq_true rfl) hPP (fun X F T el eP es => ?_)
  subst el; subst eP; subst es
  have hP := F.P
  change AW E X 5 0 [(0, .ref (sdX X o 0)), (1, .ref (sdX X o1 0)), (2, .int x2), (3, .int x3)] [] G 0 0
  refine aw_al_n F 0 dX1_likenessBorne_0 rfl rfl ?_
  refine aw_al_n F 1 dX1_likenessBorne_1 rfl rfl ?_
  refine aw_il_n F 2 dX1_likenessBorne_2 rfl rfl ?_
  refine aw_cVi (stk := []) F T.room [.ref (sdX X o1 0), .int x2] (k_X1_crowdedBy hP ho hc ho1 hc1 h) mv_X1_crowdedBy w_720 cf1 (lo_s ho) (hP _ ho) hc (by decide) rfl rfl (Nat.le_of_ble_eq_true rfl) ⟨(Nat.le_of_ble_eq_true rfl), (Nat.le_of_ble_eq_true rfl)⟩ ⟨(Nat.le_of_ble_eq_true rfl), (Nat.le_of_ble_eq_true rfl)⟩ dX1_likenessBorne_3 (fun r_2 G_1 h => ?_)
  refine aw_al_n F 0 dX1_likenessBorne_6 rfl rfl ?_
  refine aw_al_n F 1 dX1_likenessBorne_7 rfl rfl ?_
  refine aw_il_n F 3 dX1_likenessBorne_8 rfl rfl ?_
  refine aw_cVi (stk := [.int r_2]) F T.room [.ref (sdX X o1 0), .int x3] (k_X1_crowdedBy hP ho hc ho1 hc1 h) mv_X1_crowdedBy w_720 cf1 (lo_s ho) (hP _ ho) hc (by decide) rfl rfl (Nat.le_of_ble_eq_true rfl) ⟨(Nat.le_of_ble_eq_true rfl), (Nat.le_of_ble_eq_true rfl)⟩ ⟨(Nat.le_of_ble_eq_true rfl), (Nat.le_of_ble_eq_true rfl)⟩ dX1_likenessBorne_9 (fun r_4 G_3 h => ?_)
  refine aw_max F T.room w_669 w_670 w_16 w_671 (Nat.le_of_ble_eq_true rfl) (Nat.le_of_ble_eq_true rfl) ⟨(Nat.le_of_ble_eq_true rfl), (Nat.le_of_ble_eq_true rfl)⟩ dX1_likenessBorne_12 ?_
  refine aw_top (fun y_5 ey_5 => ?_)
  replace h := h y_5 ey_5
  refine aw_is (lv1 := [(4, .int y_5), (0, .ref (sdX X o 0)), (1, .ref (sdX X o1 0)), (2, .int x2), (3, .int x3)]) F dX1_likenessBorne_15 (by decide) rfl ?_
  refine aw_bi F dX1_likenessBorne_17 bi_100 ?_
  refine aw_al_n F 2 dX1_likenessBorne_19 rfl rfl ?_
  refine gr4_10 F (lo_s ho1) (hP _ ho1) hc1 w_120 (hP _ ho1) dX1_likenessBorne_20 ?_
  refine aw_ic F dX1_likenessBorne_23 ic_0 ?_
  refine aw_ialdL F o1 11 (lo_s ho1) (hP _ ho1) (al_of hc1 rfl) (vin_l rfl) tn_0 dX1_likenessBorne_24 ?_
  refine aw_al_n F 2 dX1_likenessBorne_25 rfl rfl ?_
  refine gr4_10 F (lo_s ho1) (hP _ ho1) hc1 w_120 (hP _ ho1) dX1_likenessBorne_26 ?_
  refine aw_ic F dX1_likenessBorne_29 ic_1 ?_
  refine aw_ialdL F o1 11 (lo_s ho1) (hP _ ho1) (al_of hc1 rfl) (vin_l rfl) tn_1 dX1_likenessBorne_30 ?_
  refine aw_il F 0 dX1_likenessBorne_31 rfl ?_
  refine aw_imul F dX1_likenessBorne_33 ?_
  refine aw_iadd F dX1_likenessBorne_34 ?_
  refine aw_min F T.room w_676 w_479 w_16 w_480 (Nat.le_of_ble_eq_true rfl) (Nat.le_of_ble_eq_true rfl) ⟨(Nat.le_of_ble_eq_true rfl), (Nat.le_of_ble_eq_true rfl)⟩ dX1_likenessBorne_35 ?_
  exact aw_iret F T (Nat.le_of_ble_eq_true rfl) (Nat.le_of_ble_eq_true rfl) ⟨_, rfl, h⟩ dX1_likenessBorne_38
-- X1_judge (height 4)
def lb_X1_judge_92 (post : GH → Prop) (P82 : Int32 → GH → Prop) (o : Nat) (o1 : Nat) (P92 : Int32 → Int32 → GH → Prop) (v2 v3 : Int32) (G : GH) : Prop :=
  ((v2 ≤ v3 → P82 (v2 + (1 : Int32)) G) ∧ (¬ v2 ≤ v3 → (vp_in v2 13 ∧ wp_X7_isIn (fun (b_5 : Bool) (G_4 : GH) => ((b_5 = false → P92 v2 (v3 + (1 : Int32)) G_4) ∧ (b_5 = true → wp_X1_ofNames (fun (r_8 : Int32) (G_7 : GH) => wp_X1_likenessBorne (fun (r_10 : Int32) (G_9 : GH) => ((r_8 < r_10 → P92 v2 (v3 + (1 : Int32)) G_9) ∧ (¬ r_8 < r_10 → wp_X7_setCouple (fun (b_13 : Bool) (G_12 : GH) => P92 v2 (v3 + (1 : Int32)) G_12) o 7 13 v2 v3 (1 : Int32) G_9))) o o1 v2 v3 G_7) o o1 v2 v3 G_4))) v3 (G o 6 v2.toNatClampNeg) G)))
def lp_X1_judge_92 (post : GH → Prop) (P82 : Int32 → GH → Prop) (o : Nat) (o1 : Nat) (v2 v3 : Int32) (G : GH) : Prop := ∀ P92 : Int32 → Int32 → GH → Prop, (∀ (v2 v3 : Int32) (G : GH), lb_X1_judge_92 post P82 o o1 P92 v2 v3 G → P92 v2 v3 G) → P92 v2 v3 G
def lb_X1_judge_82 (post : GH → Prop) (o : Nat) (o1 : Nat) (P82 : Int32 → GH → Prop) (v2 : Int32) (G : GH) : Prop :=
  (((G o1 0 1) ≤ v2 → post G) ∧ (¬ (G o1 0 1) ≤ v2 → lp_X1_judge_92 post P82 o o1 v2 (0 : Int32) G))
def lp_X1_judge_82 (post : GH → Prop) (o : Nat) (o1 : Nat) (v2 : Int32) (G : GH) : Prop := ∀ P82 : Int32 → GH → Prop, (∀ (v2 : Int32) (G : GH), lb_X1_judge_82 post o o1 P82 v2 G → P82 v2 G) → P82 v2 G
def lb_X1_judge_26 (post : GH → Prop) (P2 : Int32 → GH → Prop) (o : Nat) (o1 : Nat) (P26 : Int32 → Int32 → GH → Prop) (v2 v3 : Int32) (G : GH) : Prop :=
  ((v2 ≤ v3 → P2 (v2 + (1 : Int32)) G) ∧ (¬ v2 ≤ v3 → wp_X1_isNear (fun (b_18 : Bool) (G_17 : GH) => ((b_18 = false → P26 v2 (v3 + (1 : Int32)) G_17) ∧ (b_18 = true → wp_X1_ofNames (fun (r_21 : Int32) (G_20 : GH) => ((r_21 < (G_20 o1 11 0) → P26 v2 (v3 + (1 : Int32)) G_20) ∧ (¬ r_21 < (G_20 o1 11 0) → wp_X7_setCouple (fun (b_24 : Bool) (G_23 : GH) => P26 v2 (v3 + (1 : Int32)) G_23) o 6 13 v2 v3 (1 : Int32) G_20))) o o1 v2 v3 G_17))) o o1 v2 v3 G))
def lp_X1_judge_26 (post : GH → Prop) (P2 : Int32 → GH → Prop) (o : Nat) (o1 : Nat) (v2 v3 : Int32) (G : GH) : Prop := ∀ P26 : Int32 → Int32 → GH → Prop, (∀ (v2 v3 : Int32) (G : GH), lb_X1_judge_26 post P2 o o1 P26 v2 v3 G → P26 v2 v3 G) → P26 v2 v3 G
def lb_X1_judge_2 (post : GH → Prop) (o : Nat) (o1 : Nat) (P2 : Int32 → GH → Prop) (v2 : Int32) (G : GH) : Prop :=
  (((G o1 0 1) ≤ v2 → lp_X1_judge_82 post o o1 (0 : Int32) G) ∧ (¬ (G o1 0 1) ≤ v2 → (vp_in v2 13 ∧ (∀ G_14 : GH, G_14 = gs G o 6 (upd (G o 6) v2.toNatClampNeg (0 : Int32)) → (vp_in v2 13 ∧ (∀ G_15 : GH, G_15 = gs G_14 o 7 (upd (G_14 o 7) v2.toNatClampNeg (0 : Int32)) → lp_X1_judge_26 post P2 o o1 v2 (0 : Int32) G_15))))))
def lp_X1_judge_2 (post : GH → Prop) (o : Nat) (o1 : Nat) (v2 : Int32) (G : GH) : Prop := ∀ P2 : Int32 → GH → Prop, (∀ (v2 : Int32) (G : GH), lb_X1_judge_2 post o o1 P2 v2 G → P2 v2 G) → P2 v2 G
def wp_X1_judge (post : GH → Prop) (o : Nat) (o1 : Nat) (G : GH) : Prop :=
  lp_X1_judge_2 post o o1 (0 : Int32) G
set_option maxRecDepth 100000 in
set_option maxHeartbeats 4000000 in
theorem kl_X1_judge_92 {E : Ev} {X : Cx} {post : GH → Prop} {P82 : Int32 → GH → Prop} {o : Nat} {o1 : Nat} {v2 v3 : Int32} {G : GH} (F : Fx E X "MarkField$Likeness" cX1_judge 4) (T : RT E X 4 0 0 none (pV post)) (ho : stt o = true) (hc : oc o = 1) (ho1 : stt o1 = true) (hc1 : oc o1 = 4) (K82 : ∀ (v2 : Int32) (G : GH), P82 v2 G → AW E X 4 82 [(0, .ref (sdX X o 0)), (1, .ref (sdX X o1 0)), (2, .int v2)] [] G 0 0) (h : lp_X1_judge_92 post P82 o o1 v2 v3 G) : AW E X 4 92 [(0, .ref (sdX X o 0)), (1, .ref (sdX X o1 0)), (2, .int v2), (3, .int v3)] [] G 0 0 := by
  have hP := F.P
  have K92 : ∀ (v2 v3 : Int32) (G : GH), AW E X 4 92 [(0, .ref (sdX X o 0)), (1, .ref (sdX X o1 0)), (2, .int v2), (3, .int v3)] [] G 0 0 → AW E X 4 92 [(0, .ref (sdX X o 0)), (1, .ref (sdX X o1 0)), (2, .int v2), (3, .int v3)] [] G 0 0 := fun _ _ _ q => q
  refine h (fun (v2 v3 : Int32) (G : GH) => AW E X 4 92 [(0, .ref (sdX X o 0)), (1, .ref (sdX X o1 0)), (2, .int v2), (3, .int v3)] [] G 0 0) (fun (v2 v3 : Int32) (G : GH) h => ?_)
  refine aw_il_n F 3 dX1_judge_92 rfl rfl ?_
  refine aw_il_n F 2 dX1_judge_93 rfl rfl ?_
  refine aw_icmp_ge (tgt := 144) F dX1_judge_94 (by decide) (fun c_3 => ?_) (fun c_3 => ?_)
  · replace h := h.1 c_3
    refine aw_inc (lv1 := [(2, .int (v2 + (1 : Int32))), (0, .ref (sdX X o 0)), (1, .ref (sdX X o1 0)), (3, .int v3)]) F 2 dX1_judge_144 rfl (in_1 _) (by decide) rfl ?_
    refine aw_go (tgt := 82) F dX1_judge_147 (by decide) ?_
    refine aw_sub [1, 2, 0] rfl ?_
    exact K82 _ _ h
  · replace h := h.2 c_3
    refine aw_il_n F 3 dX1_judge_97 rfl rfl ?_
    refine aw_al_n F 0 dX1_judge_98 rfl rfl ?_
    refine gr1_5 F (lo_s ho) (hP _ ho) hc w_181 (hP _ ho) dX1_judge_99 ?_
    refine aw_il_n F 2 dX1_judge_102 rfl rfl ?_
    refine aw_iald F o 6 (lo_s ho) (hP _ ho) (al_of hc rfl) h.1 dX1_judge_103 ?_
    replace h := h.2
    refine aw_cSNb (stk := []) F T.room [.int v3, .int (G o 6 v2.toNatClampNeg)] (k_X7_isIn hP h) ms_X7_isIn (by decide) rfl rfl (Nat.le_of_ble_eq_true rfl) ⟨(Nat.le_of_ble_eq_true rfl), (Nat.le_of_ble_eq_true rfl)⟩ ⟨(Nat.le_of_ble_eq_true rfl), (Nat.le_of_ble_eq_true rfl)⟩ dX1_judge_104 (fun b_5 G_4 h => ?_)
    refine aw_if_eq (tgt := 138) F dX1_judge_107 (by decide) (fun c_6 => ?_) (fun c_6 => ?_)
    · replace h := h.1 (bI_2 c_6)
      refine aw_inc (lv1 := [(3, .int (v3 + (1 : Int32))), (0, .ref (sdX X o 0)), (1, .ref (sdX X o1 0)), (2, .int v2)]) F 3 dX1_judge_138 rfl (in_1 _) (by decide) rfl ?_
      refine aw_go (tgt := 92) F dX1_judge_141 (by decide) ?_
      refine aw_sub [1, 2, 3, 0] rfl ?_
      exact K92 _ _ _ h
    · replace h := h.2 (bI_1 c_6)
      refine aw_al_n F 0 dX1_judge_110 rfl rfl ?_
      refine aw_al_n F 1 dX1_judge_111 rfl rfl ?_
      refine aw_il_n F 2 dX1_judge_112 rfl rfl ?_
      refine aw_il_n F 3 dX1_judge_113 rfl rfl ?_
      refine aw_cVi (stk := []) F T.room [.ref (sdX X o1 0), .int v2, .int v3] (k_X1_ofNames hP ho hc ho1 hc1 h) mv_X1_ofNames w_710 cf1 (lo_s ho) (hP _ ho) hc (by decide) rfl rfl (Nat.le_of_ble_eq_true rfl) ⟨(Nat.le_of_ble_eq_true rfl), (Nat.le_of_ble_eq_true rfl)⟩ ⟨(Nat.le_of_ble_eq_true rfl), (Nat.le_of_ble_eq_true rfl)⟩ dX1_judge_114 (fun r_8 G_7 h => ?_)
      refine aw_al_n F 0 dX1_judge_117 rfl rfl ?_
      refine aw_al_n F 1 dX1_judge_118 rfl rfl ?_
      refine aw_il_n F 2 dX1_judge_119 rfl rfl ?_
      refine aw_il_n F 3 dX1_judge_120 rfl rfl ?_
      refine aw_cVi (stk := [.int r_8]) F T.room [.ref (sdX X o1 0), .int v2, .int v3] (k_X1_likenessBorne hP ho hc ho1 hc1 h) mv_X1_likenessBorne w_716 cf1 (lo_s ho) (hP _ ho) hc (by decide) rfl rfl (Nat.le_of_ble_eq_true rfl) ⟨(Nat.le_of_ble_eq_true rfl), (Nat.le_of_ble_eq_true rfl)⟩ ⟨(Nat.le_of_ble_eq_true rfl), (Nat.le_of_ble_eq_true rfl)⟩ dX1_judge_121 (fun r_10 G_9 h => ?_)
      refine aw_icmp_lt (tgt := 138) F dX1_judge_124 (by decide) (fun c_11 => ?_) (fun c_11 => ?_)
      · replace h := h.1 c_11
        refine aw_inc (lv1 := [(3, .int (v3 + (1 : Int32))), (0, .ref (sdX X o 0)), (1, .ref (sdX X o1 0)), (2, .int v2)]) F 3 dX1_judge_138 rfl (in_1 _) (by decide) rfl ?_
        refine aw_go (tgt := 92) F dX1_judge_141 (by decide) ?_
        refine aw_sub [1, 2, 3, 0] rfl ?_
        exact K92 _ _ _ h
      · replace h := h.2 c_11
        refine aw_al_n F 0 dX1_judge_127 rfl rfl ?_
        refine gr1_6 F (lo_s ho) (hP _ ho) hc w_182 (hP _ ho) dX1_judge_128 ?_
        refine aw_il_n F 2 dX1_judge_131 rfl rfl ?_
        refine aw_il_n F 3 dX1_judge_132 rfl rfl ?_
        refine aw_ic F dX1_judge_133 ic_1 ?_
        refine aw_cSNb (stk := []) F T.room [.ref (sdX X o 7), .int v2, .int v3, .int (1 : Int32)] (k_X7_setCouple hP ho (al_of hc rfl) h) ms_X7_setCouple (by decide) rfl rfl (Nat.le_of_ble_eq_true rfl) ⟨(Nat.le_of_ble_eq_true rfl), (Nat.le_of_ble_eq_true rfl)⟩ ⟨(Nat.le_of_ble_eq_true rfl), (Nat.le_of_ble_eq_true rfl)⟩ dX1_judge_134 (fun b_13 G_12 h => ?_)
        refine aw_pop F dX1_judge_137 rfl ?_
        refine aw_inc (lv1 := [(3, .int (v3 + (1 : Int32))), (0, .ref (sdX X o 0)), (1, .ref (sdX X o1 0)), (2, .int v2)]) F 3 dX1_judge_138 rfl (in_1 _) (by decide) rfl ?_
        refine aw_go (tgt := 92) F dX1_judge_141 (by decide) ?_
        refine aw_sub [1, 2, 3, 0] rfl ?_
        exact K92 _ _ _ h
set_option maxRecDepth 100000 in
set_option maxHeartbeats 4000000 in
theorem kl_X1_judge_82 {E : Ev} {X : Cx} {post : GH → Prop} {o : Nat} {o1 : Nat} {v2 : Int32} {G : GH} (F : Fx E X "MarkField$Likeness" cX1_judge 4) (T : RT E X 4 0 0 none (pV post)) (ho : stt o = true) (hc : oc o = 1) (ho1 : stt o1 = true) (hc1 : oc o1 = 4) (h : lp_X1_judge_82 post o o1 v2 G) : AW E X 4 82 [(0, .ref (sdX X o 0)), (1, .ref (sdX X o1 0)), (2, .int v2)] [] G 0 0 := by
  have hP := F.P
  have K82 : ∀ (v2 : Int32) (G : GH), AW E X 4 82 [(0, .ref (sdX X o 0)), (1, .ref (sdX X o1 0)), (2, .int v2)] [] G 0 0 → AW E X 4 82 [(0, .ref (sdX X o 0)), (1, .ref (sdX X o1 0)), (2, .int v2)] [] G 0 0 := fun _ _ q => q
  refine h (fun (v2 : Int32) (G : GH) => AW E X 4 82 [(0, .ref (sdX X o 0)), (1, .ref (sdX X o1 0)), (2, .int v2)] [] G 0 0) (fun (v2 : Int32) (G : GH) h => ?_)
  refine aw_il_n F 2 dX1_judge_82 rfl rfl ?_
  refine aw_al_n F 1 dX1_judge_83 rfl rfl ?_
  refine gf4_1 F (lo_s ho1) (hP _ ho1) hc1 w_87 dX1_judge_84 ?_
  refine aw_icmp_ge (tgt := 150) F dX1_judge_87 (by decide) (fun c_2 => ?_) (fun c_2 => ?_)
  · replace h := h.1 c_2
    exact aw_vret F T (Nat.le_of_ble_eq_true rfl) (Nat.le_of_ble_eq_true rfl) ⟨rfl, h⟩ dX1_judge_150
  · replace h := h.2 c_2
    refine aw_ic F dX1_judge_90 ic_0 ?_
    refine aw_is_n (lv1 := [(3, .int (0 : Int32)), (0, .ref (sdX X o 0)), (1, .ref (sdX X o1 0)), (2, .int v2)]) F dX1_judge_91 rfl (by decide) rfl ?_
    refine aw_sub [1, 2, 3, 0] rfl ?_
    exact kl_X1_judge_92 F T ho hc ho1 hc1 K82 h
set_option maxRecDepth 100000 in
set_option maxHeartbeats 4000000 in
theorem kl_X1_judge_26 {E : Ev} {X : Cx} {post : GH → Prop} {P2 : Int32 → GH → Prop} {o : Nat} {o1 : Nat} {v2 v3 : Int32} {G : GH} (F : Fx E X "MarkField$Likeness" cX1_judge 4) (T : RT E X 4 0 0 none (pV post)) (ho : stt o = true) (hc : oc o = 1) (ho1 : stt o1 = true) (hc1 : oc o1 = 4) (K2 : ∀ (v2 : Int32) (G : GH), P2 v2 G → AW E X 4 2 [(0, .ref (sdX X o 0)), (1, .ref (sdX X o1 0)), (2, .int v2)] [] G 0 0) (h : lp_X1_judge_26 post P2 o o1 v2 v3 G) : AW E X 4 26 [(0, .ref (sdX X o 0)), (1, .ref (sdX X o1 0)), (2, .int v2), (3, .int v3)] [] G 0 0 := by
  have hP := F.P
  have K26 : ∀ (v2 v3 : Int32) (G : GH), AW E X 4 26 [(0, .ref (sdX X o 0)), (1, .ref (sdX X o1 0)), (2, .int v2), (3, .int v3)] [] G 0 0 → AW E X 4 26 [(0, .ref (sdX X o 0)), (1, .ref (sdX X o1 0)), (2, .int v2), (3, .int v3)] [] G 0 0 := fun _ _ _ q => q
  refine h (fun (v2 v3 : Int32) (G : GH) => AW E X 4 26 [(0, .ref (sdX X o 0)), (1, .ref (sdX X o1 0)), (2, .int v2), (3, .int v3)] [] G 0 0) (fun (v2 v3 : Int32) (G : GH) h => ?_)
  refine aw_il_n F 3 dX1_judge_26 rfl rfl ?_
  refine aw_il_n F 2 dX1_judge_27 rfl rfl ?_
  refine aw_icmp_ge (tgt := 74) F dX1_judge_28 (by decide) (fun c_16 => ?_) (fun c_16 => ?_)
  · replace h := h.1 c_16
    refine aw_inc (lv1 := [(2, .int (v2 + (1 : Int32))), (0, .ref (sdX X o 0)), (1, .ref (sdX X o1 0)), (3, .int v3)]) F 2 dX1_judge_74 rfl (in_1 _) (by decide) rfl ?_
    refine aw_go (tgt := 2) F dX1_judge_77 (by decide) ?_
    refine aw_sub [1, 2, 0] rfl ?_
    exact K2 _ _ h
  · replace h := h.2 c_16
    refine aw_al_n F 0 dX1_judge_31 rfl rfl ?_
    refine aw_al_n F 1 dX1_judge_32 rfl rfl ?_
    refine aw_il_n F 2 dX1_judge_33 rfl rfl ?_
    refine aw_il_n F 3 dX1_judge_34 rfl rfl ?_
    refine aw_cVb (stk := []) F T.room [.ref (sdX X o1 0), .int v2, .int v3] (k_X1_isNear hP ho hc ho1 hc1 h) mv_X1_isNear w_706 cf1 (lo_s ho) (hP _ ho) hc (by decide) rfl rfl (Nat.le_of_ble_eq_true rfl) ⟨(Nat.le_of_ble_eq_true rfl), (Nat.le_of_ble_eq_true rfl)⟩ ⟨(Nat.le_of_ble_eq_true rfl), (Nat.le_of_ble_eq_true rfl)⟩ dX1_judge_35 (fun b_18 G_17 h => ?_)
    refine aw_if_eq (tgt := 68) F dX1_judge_38 (by decide) (fun c_19 => ?_) (fun c_19 => ?_)
    · replace h := h.1 (bI_2 c_19)
      refine aw_inc (lv1 := [(3, .int (v3 + (1 : Int32))), (0, .ref (sdX X o 0)), (1, .ref (sdX X o1 0)), (2, .int v2)]) F 3 dX1_judge_68 rfl (in_1 _) (by decide) rfl ?_
      refine aw_go (tgt := 26) F dX1_judge_71 (by decide) ?_
      refine aw_sub [1, 2, 3, 0] rfl ?_
      exact K26 _ _ _ h
    · replace h := h.2 (bI_1 c_19)
      refine aw_al_n F 0 dX1_judge_41 rfl rfl ?_
      refine aw_al_n F 1 dX1_judge_42 rfl rfl ?_
      refine aw_il_n F 2 dX1_judge_43 rfl rfl ?_
      refine aw_il_n F 3 dX1_judge_44 rfl rfl ?_
      refine aw_cVi (stk := []) F T.room [.ref (sdX X o1 0), .int v2, .int v3] (k_X1_ofNames hP ho hc ho1 hc1 h) mv_X1_ofNames w_710 cf1 (lo_s ho) (hP _ ho) hc (by decide) rfl rfl (Nat.le_of_ble_eq_true rfl) ⟨(Nat.le_of_ble_eq_true rfl), (Nat.le_of_ble_eq_true rfl)⟩ ⟨(Nat.le_of_ble_eq_true rfl), (Nat.le_of_ble_eq_true rfl)⟩ dX1_judge_45 (fun r_21 G_20 h => ?_)
      refine aw_al_n F 1 dX1_judge_48 rfl rfl ?_
      refine gr4_10 F (lo_s ho1) (hP _ ho1) hc1 w_120 (hP _ ho1) dX1_judge_49 ?_
      refine aw_ic F dX1_judge_52 ic_0 ?_
      refine aw_ialdL F o1 11 (lo_s ho1) (hP _ ho1) (al_of hc1 rfl) (vin_l rfl) tn_0 dX1_judge_53 ?_
      refine aw_icmp_lt (tgt := 68) F dX1_judge_54 (by decide) (fun c_22 => ?_) (fun c_22 => ?_)
      · replace h := h.1 c_22
        refine aw_inc (lv1 := [(3, .int (v3 + (1 : Int32))), (0, .ref (sdX X o 0)), (1, .ref (sdX X o1 0)), (2, .int v2)]) F 3 dX1_judge_68 rfl (in_1 _) (by decide) rfl ?_
        refine aw_go (tgt := 26) F dX1_judge_71 (by decide) ?_
        refine aw_sub [1, 2, 3, 0] rfl ?_
        exact K26 _ _ _ h
      · replace h := h.2 c_22
        refine aw_al_n F 0 dX1_judge_57 rfl rfl ?_
        refine gr1_5 F (lo_s ho) (hP _ ho) hc w_181 (hP _ ho) dX1_judge_58 ?_
        refine aw_il_n F 2 dX1_judge_61 rfl rfl ?_
        refine aw_il_n F 3 dX1_judge_62 rfl rfl ?_
        refine aw_ic F dX1_judge_63 ic_1 ?_
        refine aw_cSNb (stk := []) F T.room [.ref (sdX X o 6), .int v2, .int v3, .int (1 : Int32)] (k_X7_setCouple hP ho (al_of hc rfl) h) ms_X7_setCouple (by decide) rfl rfl (Nat.le_of_ble_eq_true rfl) ⟨(Nat.le_of_ble_eq_true rfl), (Nat.le_of_ble_eq_true rfl)⟩ ⟨(Nat.le_of_ble_eq_true rfl), (Nat.le_of_ble_eq_true rfl)⟩ dX1_judge_64 (fun b_24 G_23 h => ?_)
        refine aw_pop F dX1_judge_67 rfl ?_
        refine aw_inc (lv1 := [(3, .int (v3 + (1 : Int32))), (0, .ref (sdX X o 0)), (1, .ref (sdX X o1 0)), (2, .int v2)]) F 3 dX1_judge_68 rfl (in_1 _) (by decide) rfl ?_
        refine aw_go (tgt := 26) F dX1_judge_71 (by decide) ?_
        refine aw_sub [1, 2, 3, 0] rfl ?_
        exact K26 _ _ _ h
set_option maxRecDepth 100000 in
set_option maxHeartbeats 4000000 in
theorem kl_X1_judge_2 {E : Ev} {X : Cx} {post : GH → Prop} {o : Nat} {o1 : Nat} {v2 : Int32} {G : GH} (F : Fx E X "MarkField$Likeness" cX1_judge 4) (T : RT E X 4 0 0 none (pV post)) (ho : stt o = true) (hc : oc o = 1) (ho1 : stt o1 = true) (hc1 : oc o1 = 4) (h : lp_X1_judge_2 post o o1 v2 G) : AW E X 4 2 [(0, .ref (sdX X o 0)), (1, .ref (sdX X o1 0)), (2, .int v2)] [] G 0 0 := by
  have hP := F.P
  have K2 : ∀ (v2 : Int32) (G : GH), AW E X 4 2 [(0, .ref (sdX X o 0)), (1, .ref (sdX X o1 0)), (2, .int v2)] [] G 0 0 → AW E X 4 2 [(0, .ref (sdX X o 0)), (1, .ref (sdX X o1 0)), (2, .int v2)] [] G 0 0 := fun _ _ q => q
  refine h (fun (v2 : Int32) (G : GH) => AW E X 4 2 [(0, .ref (sdX X o 0)), (1, .ref (sdX X o1 0)), (2, .int v2)] [] G 0 0) (fun (v2 : Int32) (G : GH) h => ?_)
  refine aw_il_n F 2 dX1_judge_2 rfl rfl ?_
  refine aw_al_n F 1 dX1_judge_3 rfl rfl ?_
  refine gf4_1 F (lo_s ho1) (hP _ ho1) hc1 w_87 dX1_judge_4 ?_
  refine aw_icmp_ge (tgt := 80) F dX1_judge_7 (by decide) (fun c_1 => ?_) (fun c_1 => ?_)
  · replace h := h.1 c_1
    refine aw_ic F dX1_judge_80 ic_0 ?_
    refine aw_is_n (lv1 := [(2, .int (0 : Int32)), (0, .ref (sdX X o 0)), (1, .ref (sdX X o1 0))]) F dX1_judge_81 rfl (by decide) rfl ?_
    refine aw_sub [1, 2, 0] rfl ?_
    exact kl_X1_judge_82 F T ho hc ho1 hc1 h
  · replace h := h.2 c_1
    refine aw_al_n F 0 dX1_judge_10 rfl rfl ?_
    refine gr1_5 F (lo_s ho) (hP _ ho) hc w_181 (hP _ ho) dX1_judge_11 ?_
    refine aw_il_n F 2 dX1_judge_14 rfl rfl ?_
    refine aw_ic F dX1_judge_15 ic_0 ?_
    refine aw_iast F o 6 (lo_s ho) (hP _ ho) (al_of hc rfl) h.1 dX1_judge_16 ?_
    refine aw_nG (fun G_14 eG_14 => ?_)
    replace h := h.2 G_14 eG_14
    refine aw_al_n F 0 dX1_judge_17 rfl rfl ?_
    refine gr1_6 F (lo_s ho) (hP _ ho) hc w_182 (hP _ ho) dX1_judge_18 ?_
    refine aw_il_n F 2 dX1_judge_21 rfl rfl ?_
    refine aw_ic F dX1_judge_22 ic_0 ?_
    refine aw_iast F o 7 (lo_s ho) (hP _ ho) (al_of hc rfl) h.1 dX1_judge_23 ?_
    refine aw_nG (fun G_15 eG_15 => ?_)
    replace h := h.2 G_15 eG_15
    refine aw_ic F dX1_judge_24 ic_0 ?_
    refine aw_is_n (lv1 := [(3, .int (0 : Int32)), (0, .ref (sdX X o 0)), (1, .ref (sdX X o1 0)), (2, .int v2)]) F dX1_judge_25 rfl (by decide) rfl ?_
    refine aw_sub [1, 2, 3, 0] rfl ?_
    exact kl_X1_judge_26 F T ho hc ho1 hc1 K2 h
set_option maxRecDepth 100000 in
set_option maxHeartbeats 4000000 in
theorem k_X1_judge {l : Launch} {E : Ev} {P : Nat → Prop} {sd : Nat → Nat → Nat} {G : GH} {post : GH → Prop} {o : Nat} {o1 : Nat} (hPP : ∀ o, stt o = true → P o) (ho : stt o = true) (hc : oc o = 1) (ho1 : stt o1 = true) (hc1 : oc o1 = 4) (h : wp_X1_judge post o o1 G) : Ct l yX1_judge cX1_judge 4 none 4 0 0 E P sd G [.ref (sd o 0), .ref (sd o1 0)] (pV post) := by
  refine ct_of (own := "MarkField$Likeness") (by decide) rfl (Nat.le_of_ble_eq_true rfl) hPP (fun X F T el eP es => ?_)
  subst el; subst eP; subst es
  have hP := F.P
  change AW E X 4 0 [(0, .ref (sdX X o 0)), (1, .ref (sdX X o1 0))] [] G 0 0
  refine aw_ic F dX1_judge_0 ic_0 ?_
  refine aw_is_n (lv1 := [(2, .int (0 : Int32)), (0, .ref (sdX X o 0)), (1, .ref (sdX X o1 0))]) F dX1_judge_1 rfl (by decide) rfl ?_
  refine aw_sub [1, 2, 0] rfl ?_
  exact kl_X1_judge_2 F T ho hc ho1 hc1 h
-- X1_rename (height 5)
def lb_X1_rename_8 (post : GH → Prop) (o : Nat) (o1 : Nat) (P8 : Int32 → Int32 → GH → Prop) (v2 v3 : Int32) (G : GH) : Prop :=
  (((G o1 0 1) ≤ v3 → wp_X1_judge (fun (G_4 : GH) => post G_4) o o1 G) ∧ (¬ (G o1 0 1) ≤ v3 → ((v3 = v2 → P8 v2 (v3 + (1 : Int32)) G) ∧ (¬ v3 = v2 → wp_X1_isNear (fun (b_8 : Bool) (G_7 : GH) => ((b_8 = false → P8 v2 (v3 + (1 : Int32)) G_7) ∧ (b_8 = true → wp_X1_compareNames (fun (G_10 : GH) => P8 v2 (v3 + (1 : Int32)) G_10) o o1 v2 v3 G_7))) o o1 v2 v3 G))))
def lp_X1_rename_8 (post : GH → Prop) (o : Nat) (o1 : Nat) (v2 v3 : Int32) (G : GH) : Prop := ∀ P8 : Int32 → Int32 → GH → Prop, (∀ (v2 v3 : Int32) (G : GH), lb_X1_rename_8 post o o1 P8 v2 v3 G → P8 v2 v3 G) → P8 v2 v3 G
def wp_X1_rename (post : GH → Prop) (o : Nat) (o1 : Nat) (x2 : Int32) (G : GH) : Prop :=
  wp_X1_hear (fun (G_1 : GH) => lp_X1_rename_8 post o o1 x2 (0 : Int32) G_1) o o1 x2 G
set_option maxRecDepth 100000 in
set_option maxHeartbeats 4000000 in
theorem kl_X1_rename_8 {E : Ev} {X : Cx} {post : GH → Prop} {o : Nat} {o1 : Nat} {v2 v3 : Int32} {G : GH} (F : Fx E X "MarkField$Likeness" cX1_rename 4) (T : RT E X 5 0 0 none (pV post)) (ho : stt o = true) (hc : oc o = 1) (ho1 : stt o1 = true) (hc1 : oc o1 = 4) (h : lp_X1_rename_8 post o o1 v2 v3 G) : AW E X 4 8 [(0, .ref (sdX X o 0)), (1, .ref (sdX X o1 0)), (2, .int v2), (3, .int v3)] [] G 0 0 := by
  have hP := F.P
  have K8 : ∀ (v2 v3 : Int32) (G : GH), AW E X 4 8 [(0, .ref (sdX X o 0)), (1, .ref (sdX X o1 0)), (2, .int v2), (3, .int v3)] [] G 0 0 → AW E X 4 8 [(0, .ref (sdX X o 0)), (1, .ref (sdX X o1 0)), (2, .int v2), (3, .int v3)] [] G 0 0 := fun _ _ _ q => q
  refine h (fun (v2 v3 : Int32) (G : GH) => AW E X 4 8 [(0, .ref (sdX X o 0)), (1, .ref (sdX X o1 0)), (2, .int v2), (3, .int v3)] [] G 0 0) (fun (v2 v3 : Int32) (G : GH) h => ?_)
  refine aw_il_n F 3 dX1_rename_8 rfl rfl ?_
  refine aw_al_n F 1 dX1_rename_9 rfl rfl ?_
  refine gf4_1 F (lo_s ho1) (hP _ ho1) hc1 w_87 dX1_rename_10 ?_
  refine aw_icmp_ge (tgt := 44) F dX1_rename_13 (by decide) (fun c_3 => ?_) (fun c_3 => ?_)
  · replace h := h.1 c_3
    refine aw_al_n F 0 dX1_rename_44 rfl rfl ?_
    refine aw_al_n F 1 dX1_rename_45 rfl rfl ?_
    refine aw_cVv (stk := []) F T.room [.ref (sdX X o1 0)] (k_X1_judge hP ho hc ho1 hc1 h) mv_X1_judge w_1006 cf1 (lo_s ho) (hP _ ho) hc (by decide) rfl rfl (Nat.le_of_ble_eq_true rfl) ⟨(Nat.le_of_ble_eq_true rfl), (Nat.le_of_ble_eq_true rfl)⟩ ⟨(Nat.le_of_ble_eq_true rfl), (Nat.le_of_ble_eq_true rfl)⟩ dX1_rename_46 (fun G_4 h => ?_)
    exact aw_vret F T (Nat.le_of_ble_eq_true rfl) (Nat.le_of_ble_eq_true rfl) ⟨rfl, h⟩ dX1_rename_49
  · replace h := h.2 c_3
    refine aw_il_n F 3 dX1_rename_16 rfl rfl ?_
    refine aw_il_n F 2 dX1_rename_17 rfl rfl ?_
    refine aw_icmp_eq (tgt := 38) F dX1_rename_18 (by decide) (fun c_6 => ?_) (fun c_6 => ?_)
    · replace h := h.1 c_6
      refine aw_inc (lv1 := [(3, .int (v3 + (1 : Int32))), (0, .ref (sdX X o 0)), (1, .ref (sdX X o1 0)), (2, .int v2)]) F 3 dX1_rename_38 rfl (in_1 _) (by decide) rfl ?_
      refine aw_go (tgt := 8) F dX1_rename_41 (by decide) ?_
      refine aw_sub [1, 2, 3, 0] rfl ?_
      exact K8 _ _ _ h
    · replace h := h.2 c_6
      refine aw_al_n F 0 dX1_rename_21 rfl rfl ?_
      refine aw_al_n F 1 dX1_rename_22 rfl rfl ?_
      refine aw_il_n F 2 dX1_rename_23 rfl rfl ?_
      refine aw_il_n F 3 dX1_rename_24 rfl rfl ?_
      refine aw_cVb (stk := []) F T.room [.ref (sdX X o1 0), .int v2, .int v3] (k_X1_isNear hP ho hc ho1 hc1 h) mv_X1_isNear w_706 cf1 (lo_s ho) (hP _ ho) hc (by decide) rfl rfl (Nat.le_of_ble_eq_true rfl) ⟨(Nat.le_of_ble_eq_true rfl), (Nat.le_of_ble_eq_true rfl)⟩ ⟨(Nat.le_of_ble_eq_true rfl), (Nat.le_of_ble_eq_true rfl)⟩ dX1_rename_25 (fun b_8 G_7 h => ?_)
      refine aw_if_eq (tgt := 38) F dX1_rename_28 (by decide) (fun c_9 => ?_) (fun c_9 => ?_)
      · replace h := h.1 (bI_2 c_9)
        refine aw_inc (lv1 := [(3, .int (v3 + (1 : Int32))), (0, .ref (sdX X o 0)), (1, .ref (sdX X o1 0)), (2, .int v2)]) F 3 dX1_rename_38 rfl (in_1 _) (by decide) rfl ?_
        refine aw_go (tgt := 8) F dX1_rename_41 (by decide) ?_
        refine aw_sub [1, 2, 3, 0] rfl ?_
        exact K8 _ _ _ h
      · replace h := h.2 (bI_1 c_9)
        refine aw_al_n F 0 dX1_rename_31 rfl rfl ?_
        refine aw_al_n F 1 dX1_rename_32 rfl rfl ?_
        refine aw_il_n F 2 dX1_rename_33 rfl rfl ?_
        refine aw_il_n F 3 dX1_rename_34 rfl rfl ?_
        refine aw_cVv (stk := []) F T.room [.ref (sdX X o1 0), .int v2, .int v3] (k_X1_compareNames hP ho hc ho1 hc1 h) mv_X1_compareNames w_659 cf1 (lo_s ho) (hP _ ho) hc (by decide) rfl rfl (Nat.le_of_ble_eq_true rfl) ⟨(Nat.le_of_ble_eq_true rfl), (Nat.le_of_ble_eq_true rfl)⟩ ⟨(Nat.le_of_ble_eq_true rfl), (Nat.le_of_ble_eq_true rfl)⟩ dX1_rename_35 (fun G_10 h => ?_)
        refine aw_inc (lv1 := [(3, .int (v3 + (1 : Int32))), (0, .ref (sdX X o 0)), (1, .ref (sdX X o1 0)), (2, .int v2)]) F 3 dX1_rename_38 rfl (in_1 _) (by decide) rfl ?_
        refine aw_go (tgt := 8) F dX1_rename_41 (by decide) ?_
        refine aw_sub [1, 2, 3, 0] rfl ?_
        exact K8 _ _ _ h
set_option maxRecDepth 100000 in
set_option maxHeartbeats 4000000 in
theorem k_X1_rename {l : Launch} {E : Ev} {P : Nat → Prop} {sd : Nat → Nat → Nat} {G : GH} {post : GH → Prop} {o : Nat} {o1 : Nat} {x2 : Int32} (hPP : ∀ o, stt o = true → P o) (ho : stt o = true) (hc : oc o = 1) (ho1 : stt o1 = true) (hc1 : oc o1 = 4) (h : wp_X1_rename post o o1 x2 G) : Ct l yX1_rename cX1_rename 4 none 5 0 0 E P sd G [.ref (sd o 0), .ref (sd o1 0), .int x2] (pV post) := by
  refine ct_of (own := "MarkField$Likeness") (by decide) rfl (Nat.le_of_ble_eq_true rfl) hPP (fun X F T el eP es => ?_)
  subst el; subst eP; subst es
  have hP := F.P
  change AW E X 4 0 [(0, .ref (sdX X o 0)), (1, .ref (sdX X o1 0)), (2, .int x2)] [] G 0 0
  refine aw_al_n F 0 dX1_rename_0 rfl rfl ?_
  refine aw_al_n F 1 dX1_rename_1 rfl rfl ?_
  refine aw_il_n F 2 dX1_rename_2 rfl rfl ?_
  refine aw_cVv (stk := []) F T.room [.ref (sdX X o1 0), .int x2] (k_X1_hear hP ho hc ho1 hc1 h) mv_X1_hear w_643 cf1 (lo_s ho) (hP _ ho) hc (by decide) rfl rfl (Nat.le_of_ble_eq_true rfl) ⟨(Nat.le_of_ble_eq_true rfl), (Nat.le_of_ble_eq_true rfl)⟩ ⟨(Nat.le_of_ble_eq_true rfl), (Nat.le_of_ble_eq_true rfl)⟩ dX1_rename_3 (fun G_1 h => ?_)
  refine aw_ic F dX1_rename_6 ic_0 ?_
  refine aw_is_n (lv1 := [(3, .int (0 : Int32)), (0, .ref (sdX X o 0)), (1, .ref (sdX X o1 0)), (2, .int x2)]) F dX1_rename_7 rfl (by decide) rfl ?_
  refine aw_sub [1, 2, 3, 0] rfl ?_
  exact kl_X1_rename_8 F T ho hc ho1 hc1 h
-- X1_groupOf (height 1)
def lb_X1_groupOf_20 (post : Int32 → GH → Prop) (P7 : Int32 → Int32 → GH → Prop) (o : Nat) (o1 : Nat) (P20 : Int32 → Int32 → Int32 → Int32 → GH → Prop) (v3 v4 v5 v6 : Int32) (G : GH) : Prop :=
  (((G o1 0 1) ≤ v6 → ((v5 = v3 → post v3 G) ∧ (¬ v5 = v3 → P7 v5 (v4 + (1 : Int32)) G))) ∧ (¬ (G o1 0 1) ≤ v6 → wp_X7_isIn (fun (b_6 : Bool) (G_5 : GH) => ((b_6 = false → P20 v3 v4 v5 (v6 + (1 : Int32)) G_5) ∧ (b_6 = true → (vp_in v6 13 ∧ (∀ y_8 : Int32, y_8 = (v5 ||| (G_5 o 7 v6.toNatClampNeg)) → P20 v3 v4 y_8 (v6 + (1 : Int32)) G_5))))) v6 v3 G))
def lp_X1_groupOf_20 (post : Int32 → GH → Prop) (P7 : Int32 → Int32 → GH → Prop) (o : Nat) (o1 : Nat) (v3 v4 v5 v6 : Int32) (G : GH) : Prop := ∀ P20 : Int32 → Int32 → Int32 → Int32 → GH → Prop, (∀ (v3 v4 v5 v6 : Int32) (G : GH), lb_X1_groupOf_20 post P7 o o1 P20 v3 v4 v5 v6 G → P20 v3 v4 v5 v6 G) → P20 v3 v4 v5 v6 G
def lb_X1_groupOf_7 (post : Int32 → GH → Prop) (o : Nat) (o1 : Nat) (P7 : Int32 → Int32 → GH → Prop) (v3 v4 : Int32) (G : GH) : Prop :=
  (((13 : Int32) ≤ v4 → post v3 G) ∧ (¬ (13 : Int32) ≤ v4 → lp_X1_groupOf_20 post P7 o o1 v3 v4 v3 (0 : Int32) G))
def lp_X1_groupOf_7 (post : Int32 → GH → Prop) (o : Nat) (o1 : Nat) (v3 v4 : Int32) (G : GH) : Prop := ∀ P7 : Int32 → Int32 → GH → Prop, (∀ (v3 v4 : Int32) (G : GH), lb_X1_groupOf_7 post o o1 P7 v3 v4 G → P7 v3 v4 G) → P7 v3 v4 G
def wp_X1_groupOf (post : Int32 → GH → Prop) (o : Nat) (o1 : Nat) (x2 : Int32) (G : GH) : Prop :=
  (∀ y_1 : Int32, y_1 = ((1 : Int32) <<< (x2 &&& 31)) → lp_X1_groupOf_7 post o o1 y_1 (0 : Int32) G)
set_option maxRecDepth 100000 in
set_option maxHeartbeats 4000000 in
theorem kl_X1_groupOf_20 {E : Ev} {X : Cx} {post : Int32 → GH → Prop} {P7 : Int32 → Int32 → GH → Prop} {o : Nat} {o1 : Nat} {v3 v4 v5 v6 : Int32} {G : GH} (F : Fx E X "MarkField$Likeness" cX1_groupOf 7) (T : RT E X 1 0 0 (some .int) (pI post)) (ho : stt o = true) (hc : oc o = 1) (ho1 : stt o1 = true) (hc1 : oc o1 = 4) (K7 : ∀ (v3 v4 : Int32) (G : GH), P7 v3 v4 G → AW E X 7 7 [(0, .ref (sdX X o 0)), (1, .ref (sdX X o1 0)), (3, .int v3), (4, .int v4)] [] G 0 0) (h : lp_X1_groupOf_20 post P7 o o1 v3 v4 v5 v6 G) : AW E X 7 20 [(0, .ref (sdX X o 0)), (1, .ref (sdX X o1 0)), (3, .int v3), (4, .int v4), (5, .int v5), (6, .int v6)] [] G 0 0 := by
  have hP := F.P
  have K20 : ∀ (v3 v4 v5 v6 : Int32) (G : GH), AW E X 7 20 [(0, .ref (sdX X o 0)), (1, .ref (sdX X o1 0)), (3, .int v3), (4, .int v4), (5, .int v5), (6, .int v6)] [] G 0 0 → AW E X 7 20 [(0, .ref (sdX X o 0)), (1, .ref (sdX X o1 0)), (3, .int v3), (4, .int v4), (5, .int v5), (6, .int v6)] [] G 0 0 := fun _ _ _ _ _ q => q
  refine h (fun (v3 v4 v5 v6 : Int32) (G : GH) => AW E X 7 20 [(0, .ref (sdX X o 0)), (1, .ref (sdX X o1 0)), (3, .int v3), (4, .int v4), (5, .int v5), (6, .int v6)] [] G 0 0) (fun (v3 v4 v5 v6 : Int32) (G : GH) h => ?_)
  refine aw_il F 5 dX1_groupOf_20 rfl ?_
  refine aw_al_n F 1 dX1_groupOf_22 rfl rfl ?_
  refine gf4_1 F (lo_s ho1) (hP _ ho1) hc1 w_87 dX1_groupOf_23 ?_
  refine aw_icmp_ge (tgt := 56) F dX1_groupOf_26 (by decide) (fun c_3 => ?_) (fun c_3 => ?_)
  · replace h := h.1 c_3
    refine aw_il F 4 dX1_groupOf_56 rfl ?_
    refine aw_il_n F 2 dX1_groupOf_58 rfl rfl ?_
    refine aw_icmp_ne (tgt := 65) F dX1_groupOf_59 (by decide) (fun c_4 => ?_) (fun c_4 => ?_)
    · replace h := h.2 c_4
      refine aw_il F 4 dX1_groupOf_65 rfl ?_
      refine aw_is_n (lv1 := [(3, .int v5), (0, .ref (sdX X o 0)), (1, .ref (sdX X o1 0)), (4, .int v4), (5, .int v5), (6, .int v6)]) F dX1_groupOf_67 rfl (by decide) rfl ?_
      refine aw_inc (lv1 := [(4, .int (v4 + (1 : Int32))), (3, .int v5), (0, .ref (sdX X o 0)), (1, .ref (sdX X o1 0)), (5, .int v5), (6, .int v6)]) F 3 dX1_groupOf_68 rfl (in_1 _) (by decide) rfl ?_
      refine aw_go (tgt := 7) F dX1_groupOf_71 (by decide) ?_
      refine aw_sub [2, 3, 1, 0] rfl ?_
      exact K7 _ _ _ h
    · replace h := h.1 c_4
      refine aw_go (tgt := 74) F dX1_groupOf_62 (by decide) ?_
      refine aw_il_n F 2 dX1_groupOf_74 rfl rfl ?_
      exact aw_iret F T (Nat.le_of_ble_eq_true rfl) (Nat.le_of_ble_eq_true rfl) ⟨_, rfl, h⟩ dX1_groupOf_75
  · replace h := h.2 c_3
    refine aw_il F 5 dX1_groupOf_29 rfl ?_
    refine aw_il_n F 2 dX1_groupOf_31 rfl rfl ?_
    refine aw_cSNb (stk := []) F T.room [.int v6, .int v3] (k_X7_isIn hP h) ms_X7_isIn (by decide) rfl rfl (Nat.le_of_ble_eq_true rfl) ⟨(Nat.le_of_ble_eq_true rfl), (Nat.le_of_ble_eq_true rfl)⟩ ⟨(Nat.le_of_ble_eq_true rfl), (Nat.le_of_ble_eq_true rfl)⟩ dX1_groupOf_32 (fun b_6 G_5 h => ?_)
    refine aw_if_eq (tgt := 50) F dX1_groupOf_35 (by decide) (fun c_7 => ?_) (fun c_7 => ?_)
    · replace h := h.1 (bI_2 c_7)
      refine aw_inc (lv1 := [(6, .int (v6 + (1 : Int32))), (0, .ref (sdX X o 0)), (1, .ref (sdX X o1 0)), (3, .int v3), (4, .int v4), (5, .int v5)]) F 5 dX1_groupOf_50 rfl (in_1 _) (by decide) rfl ?_
      refine aw_go (tgt := 20) F dX1_groupOf_53 (by decide) ?_
      refine aw_sub [1, 2, 3, 4, 5, 0] rfl ?_
      exact K20 _ _ _ _ _ h
    · replace h := h.2 (bI_1 c_7)
      refine aw_il F 4 dX1_groupOf_38 rfl ?_
      refine aw_al_n F 0 dX1_groupOf_40 rfl rfl ?_
      refine gr1_6 F (lo_s ho) (hP _ ho) hc w_182 (hP _ ho) dX1_groupOf_41 ?_
      refine aw_il F 5 dX1_groupOf_44 rfl ?_
      refine aw_iald F o 7 (lo_s ho) (hP _ ho) (al_of hc rfl) h.1 dX1_groupOf_46 ?_
      replace h := h.2
      refine aw_ior F dX1_groupOf_47 ?_
      refine aw_top (fun y_8 ey_8 => ?_)
      replace h := h y_8 ey_8
      refine aw_is (lv1 := [(5, .int y_8), (0, .ref (sdX X o 0)), (1, .ref (sdX X o1 0)), (3, .int v3), (4, .int v4), (6, .int v6)]) F dX1_groupOf_48 (by decide) rfl ?_
      refine aw_inc (lv1 := [(6, .int (v6 + (1 : Int32))), (5, .int y_8), (0, .ref (sdX X o 0)), (1, .ref (sdX X o1 0)), (3, .int v3), (4, .int v4)]) F 5 dX1_groupOf_50 rfl (in_1 _) (by decide) rfl ?_
      refine aw_go (tgt := 20) F dX1_groupOf_53 (by decide) ?_
      refine aw_sub [2, 3, 4, 5, 1, 0] rfl ?_
      exact K20 _ _ _ _ _ h
set_option maxRecDepth 100000 in
set_option maxHeartbeats 4000000 in
theorem kl_X1_groupOf_7 {E : Ev} {X : Cx} {post : Int32 → GH → Prop} {o : Nat} {o1 : Nat} {v3 v4 : Int32} {G : GH} (F : Fx E X "MarkField$Likeness" cX1_groupOf 7) (T : RT E X 1 0 0 (some .int) (pI post)) (ho : stt o = true) (hc : oc o = 1) (ho1 : stt o1 = true) (hc1 : oc o1 = 4) (h : lp_X1_groupOf_7 post o o1 v3 v4 G) : AW E X 7 7 [(0, .ref (sdX X o 0)), (1, .ref (sdX X o1 0)), (3, .int v3), (4, .int v4)] [] G 0 0 := by
  have hP := F.P
  have K7 : ∀ (v3 v4 : Int32) (G : GH), AW E X 7 7 [(0, .ref (sdX X o 0)), (1, .ref (sdX X o1 0)), (3, .int v3), (4, .int v4)] [] G 0 0 → AW E X 7 7 [(0, .ref (sdX X o 0)), (1, .ref (sdX X o1 0)), (3, .int v3), (4, .int v4)] [] G 0 0 := fun _ _ _ q => q
  refine h (fun (v3 v4 : Int32) (G : GH) => AW E X 7 7 [(0, .ref (sdX X o 0)), (1, .ref (sdX X o1 0)), (3, .int v3), (4, .int v4)] [] G 0 0) (fun (v3 v4 : Int32) (G : GH) h => ?_)
  refine aw_il F 3 dX1_groupOf_7 rfl ?_
  refine aw_bi F dX1_groupOf_9 bi_13 ?_
  refine aw_icmp_ge (tgt := 74) F dX1_groupOf_11 (by decide) (fun c_2 => ?_) (fun c_2 => ?_)
  · replace h := h.1 c_2
    refine aw_il_n F 2 dX1_groupOf_74 rfl rfl ?_
    exact aw_iret F T (Nat.le_of_ble_eq_true rfl) (Nat.le_of_ble_eq_true rfl) ⟨_, rfl, h⟩ dX1_groupOf_75
  · replace h := h.2 c_2
    refine aw_il_n F 2 dX1_groupOf_14 rfl rfl ?_
    refine aw_is (lv1 := [(5, .int v3), (0, .ref (sdX X o 0)), (1, .ref (sdX X o1 0)), (3, .int v3), (4, .int v4)]) F dX1_groupOf_15 (by decide) rfl ?_
    refine aw_ic F dX1_groupOf_17 ic_0 ?_
    refine aw_is (lv1 := [(6, .int (0 : Int32)), (5, .int v3), (0, .ref (sdX X o 0)), (1, .ref (sdX X o1 0)), (3, .int v3), (4, .int v4)]) F dX1_groupOf_18 (by decide) rfl ?_
    refine aw_sub [2, 3, 4, 5, 1, 0] rfl ?_
    exact kl_X1_groupOf_20 F T ho hc ho1 hc1 K7 h
set_option maxRecDepth 100000 in
set_option maxHeartbeats 4000000 in
theorem k_X1_groupOf {l : Launch} {E : Ev} {P : Nat → Prop} {sd : Nat → Nat → Nat} {G : GH} {post : Int32 → GH → Prop} {o : Nat} {o1 : Nat} {x2 : Int32} (hPP : ∀ o, stt o = true → P o) (ho : stt o = true) (hc : oc o = 1) (ho1 : stt o1 = true) (hc1 : oc o1 = 4) (h : wp_X1_groupOf post o o1 x2 G) : Ct l yX1_groupOf cX1_groupOf 7 (some .int) 1 0 0 E P sd G [.ref (sd o 0), .ref (sd o1 0), .int x2] (pI post) := by
  refine ct_of (own := "MarkField$Likeness") (by decide) rfl (Nat.le_of_ble_eq_true rfl) hPP (fun X F T el eP es => ?_)
  subst el; subst eP; subst es
  have hP := F.P
  change AW E X 7 0 [(0, .ref (sdX X o 0)), (1, .ref (sdX X o1 0)), (2, .int x2)] [] G 0 0
  refine aw_ic F dX1_groupOf_0 ic_1 ?_
  refine aw_il_n F 2 dX1_groupOf_1 rfl rfl ?_
  refine aw_ishl F dX1_groupOf_2 ?_
  refine aw_top (fun y_1 ey_1 => ?_)
  replace h := h y_1 ey_1
  refine aw_is_n (lv1 := [(3, .int y_1), (0, .ref (sdX X o 0)), (1, .ref (sdX X o1 0)), (2, .int x2)]) F dX1_groupOf_3 rfl (by decide) rfl ?_
  refine aw_ic F dX1_groupOf_4 ic_0 ?_
  refine aw_is (lv1 := [(4, .int (0 : Int32)), (3, .int y_1), (0, .ref (sdX X o 0)), (1, .ref (sdX X o1 0)), (2, .int x2)]) F dX1_groupOf_5 (by decide) rfl ?_
  refine aw_sub [2, 3, 1, 0] rfl ?_
  exact kl_X1_groupOf_7 F T ho hc ho1 hc1 h
