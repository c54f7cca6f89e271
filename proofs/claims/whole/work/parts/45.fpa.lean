theorem w_295 : (Jvm.Cond.fieldLink "MarkField" (61 : Nat) "MarkField" "reader" "LMarkField$Reader;") ∈ tb := tb_of (List.mem_of_getElem? (i := 295) (by decide +kernel)) rfl
theorem w_452 : (Jvm.Cond.code ({ cls := "MarkField$Reader", name := "read", desc := "(I)I" } : Jvm.MethodName) prog_5_method_2_code (4 : Nat) (Option.some Jvm.ClassFile.FieldType.int)) ∈ tb := tb_of (List.mem_of_getElem? (i := 452) (by decide +kernel)) rfl
theorem w_450 : (Jvm.Cond.instanceMethod ({ cls := "MarkField$Reader", name := "read", desc := "(I)I" } : Jvm.MethodName)) ∈ tb := tb_of (List.mem_of_getElem? (i := 450) (by decide +kernel)) rfl
theorem w_451 : (Jvm.Cond.selects "MarkField$Reader" ({ cls := "MarkField$Reader", name := "read", desc := "(I)I" } : Jvm.MethodName) ({ cls := "MarkField$Reader", name := "read", desc := "(I)I" } : Jvm.MethodName)) ∈ tb := tb_of (List.mem_of_getElem? (i := 451) (by decide +kernel)) rfl
theorem w_449 : (Jvm.Cond.methodLink "MarkField" (91 : Nat) ({ cls := "MarkField$Reader", name := "read", desc := "(I)I" } : Jvm.MethodName)) ∈ tb := tb_of (List.mem_of_getElem? (i := 449) (by decide +kernel)) rfl
theorem w_252 : (Jvm.Cond.fieldLink "MarkField" (95 : Nat) "MarkField$Reader" "place" "I") ∈ tb := tb_of (List.mem_of_getElem? (i := 252) (by decide +kernel)) rfl
theorem w_303 : (Jvm.Cond.fieldLink "MarkField" (26 : Nat) "MarkField" "told" "LMarkField$Register;") ∈ tb := tb_of (List.mem_of_getElem? (i := 303) (by decide +kernel)) rfl
theorem w_297 : (Jvm.Cond.fieldLink "MarkField" (35 : Nat) "MarkField" "acts" "LMarkField$Acts;") ∈ tb := tb_of (List.mem_of_getElem? (i := 297) (by decide +kernel)) rfl
theorem w_370 : (Jvm.Cond.code ({ cls := "MarkField$Acts", name := "clear", desc := "()V" } : Jvm.MethodName) prog_2_method_2_code (1 : Nat) (Option.none : Option Jvm.ClassFile.FieldType)) ∈ tb := tb_of (List.mem_of_getElem? (i := 370) (by decide +kernel)) rfl
theorem w_5 : (Jvm.Cond.initialized "MarkField$Acts") ∈ tb := tb_of (List.mem_of_getElem? (i := 5) (by decide +kernel)) rfl
theorem w_368 : (Jvm.Cond.instanceMethod ({ cls := "MarkField$Acts", name := "clear", desc := "()V" } : Jvm.MethodName)) ∈ tb := tb_of (List.mem_of_getElem? (i := 368) (by decide +kernel)) rfl
theorem w_369 : (Jvm.Cond.selects "MarkField$Acts" ({ cls := "MarkField$Acts", name := "clear", desc := "()V" } : Jvm.MethodName) ({ cls := "MarkField$Acts", name := "clear", desc := "()V" } : Jvm.MethodName)) ∈ tb := tb_of (List.mem_of_getElem? (i := 369) (by decide +kernel)) rfl
theorem w_367 : (Jvm.Cond.methodLink "MarkField" (102 : Nat) ({ cls := "MarkField$Acts", name := "clear", desc := "()V" } : Jvm.MethodName)) ∈ tb := tb_of (List.mem_of_getElem? (i := 367) (by decide +kernel)) rfl
theorem w_81 : (Jvm.Cond.fieldLink "MarkField" (108 : Nat) "MarkField$Register" "lands" "I") ∈ tb := tb_of (List.mem_of_getElem? (i := 81) (by decide +kernel)) rfl
theorem w_115 : (Jvm.Cond.fieldLink "MarkField" (115 : Nat) "MarkField$Register" "neighbours" "[I") ∈ tb := tb_of (List.mem_of_getElem? (i := 115) (by decide +kernel)) rfl
theorem w_628 : (Jvm.Cond.code ({ cls := "MarkField", name := "bitsIn", desc := "([II)I" } : Jvm.MethodName) prog_1_method_35_code (4 : Nat) (Option.some Jvm.ClassFile.FieldType.int)) ∈ tb := tb_of (List.mem_of_getElem? (i := 628) (by decide +kernel)) rfl
theorem w_627 : (Jvm.Cond.static ({ cls := "MarkField", name := "bitsIn", desc := "([II)I" } : Jvm.MethodName)) ∈ tb := tb_of (List.mem_of_getElem? (i := 627) (by decide +kernel)) rfl
theorem w_626 : (Jvm.Cond.methodLink "MarkField" (119 : Nat) ({ cls := "MarkField", name := "bitsIn", desc := "([II)I" } : Jvm.MethodName)) ∈ tb := tb_of (List.mem_of_getElem? (i := 626) (by decide +kernel)) rfl
theorem w_112 : (Jvm.Cond.fieldLink "MarkField" (123 : Nat) "MarkField$Register" "consents" "[I") ∈ tb := tb_of (List.mem_of_getElem? (i := 112) (by decide +kernel)) rfl
theorem w_118 : (Jvm.Cond.fieldLink "MarkField" (126 : Nat) "MarkField$Register" "rules" "[I") ∈ tb := tb_of (List.mem_of_getElem? (i := 118) (by decide +kernel)) rfl
theorem w_156 : (Jvm.Cond.fieldLink "MarkField" (129 : Nat) "MarkField$Acts" "size" "I") ∈ tb := tb_of (List.mem_of_getElem? (i := 156) (by decide +kernel)) rfl
theorem w_638 : (Jvm.Cond.code ({ cls := "MarkField", name := "likeness", desc := "()LMarkField$Likeness;" } : Jvm.MethodName) prog_1_method_45_code (1 : Nat) (Option.some (Jvm.ClassFile.FieldType.object "MarkField$Likeness"))) ∈ tb := tb_of (List.mem_of_getElem? (i := 638) (by decide +kernel)) rfl
theorem w_637 : (Jvm.Cond.instanceMethod ({ cls := "MarkField", name := "likeness", desc := "()LMarkField$Likeness;" } : Jvm.MethodName)) ∈ tb := tb_of (List.mem_of_getElem? (i := 637) (by decide +kernel)) rfl
theorem ws_11 : (Jvm.Cond.selects "MarkField" ({ cls := "MarkField", name := "likeness", desc := "()LMarkField$Likeness;" } : Jvm.MethodName) ({ cls := "MarkField", name := "likeness", desc := "()LMarkField$Likeness;" } : Jvm.MethodName)) ∈ tb := tb_sel (List.mem_of_getElem? (i := 11) (by decide +kernel)) rfl
theorem w_635 : (Jvm.Cond.methodLink "MarkField" (130 : Nat) ({ cls := "MarkField", name := "likeness", desc := "()LMarkField$Likeness;" } : Jvm.MethodName)) ∈ tb := tb_of (List.mem_of_getElem? (i := 635) (by decide +kernel)) rfl
theorem w_755 : (Jvm.Cond.code ({ cls := "MarkField", name := "needMark", desc := "(I)V" } : Jvm.MethodName) prog_1_method_38_code (2 : Nat) (Option.none : Option Jvm.ClassFile.FieldType)) ∈ tb := tb_of (List.mem_of_getElem? (i := 755) (by decide +kernel)) rfl
theorem w_754 : (Jvm.Cond.instanceMethod ({ cls := "MarkField", name := "needMark", desc := "(I)V" } : Jvm.MethodName)) ∈ tb := tb_of (List.mem_of_getElem? (i := 754) (by decide +kernel)) rfl
theorem ws_17 : (Jvm.Cond.selects "MarkField" ({ cls := "MarkField", name := "needMark", desc := "(I)V" } : Jvm.MethodName) ({ cls := "MarkField", name := "needMark", desc := "(I)V" } : Jvm.MethodName)) ∈ tb := tb_sel (List.mem_of_getElem? (i := 17) (by decide +kernel)) rfl
theorem w_752 : (Jvm.Cond.methodLink "MarkField" (144 : Nat) ({ cls := "MarkField", name := "needMark", desc := "(I)V" } : Jvm.MethodName)) ∈ tb := tb_of (List.mem_of_getElem? (i := 752) (by decide +kernel)) rfl
theorem w_105 : (Jvm.Cond.fieldLink "MarkField" (153 : Nat) "MarkField$Register" "useCounts" "[I") ∈ tb := tb_of (List.mem_of_getElem? (i := 105) (by decide +kernel)) rfl
theorem w_98 : (Jvm.Cond.fieldLink "MarkField" (156 : Nat) "MarkField$Register" "lengths" "[I") ∈ tb := tb_of (List.mem_of_getElem? (i := 98) (by decide +kernel)) rfl
theorem w_173 : (Jvm.Cond.fieldLink "MarkField" (159 : Nat) "MarkField$Likeness" "soundCounts" "[I") ∈ tb := tb_of (List.mem_of_getElem? (i := 173) (by decide +kernel)) rfl
theorem w_761 : (Jvm.Cond.methodLink "MarkField" (162 : Nat) ({ cls := "MarkField$Likeness", name := "fieldOf", desc := "(I)I" } : Jvm.MethodName)) ∈ tb := tb_of (List.mem_of_getElem? (i := 761) (by decide +kernel)) rfl
theorem w_762 : (Jvm.Cond.methodLink "MarkField" (165 : Nat) ({ cls := "MarkField$Likeness", name := "crowdedBy", desc := "(LMarkField$Register;I)I" } : Jvm.MethodName)) ∈ tb := tb_of (List.mem_of_getElem? (i := 762) (by decide +kernel)) rfl
theorem w_171 : (Jvm.Cond.fieldLink "MarkField" (173 : Nat) "MarkField$Likeness" "sounds" "[B") ∈ tb := tb_of (List.mem_of_getElem? (i := 171) (by decide +kernel)) rfl
theorem w_782 : (Jvm.Cond.code ({ cls := "MarkField", name := "needWhat", desc := "(II)V" } : Jvm.MethodName) prog_1_method_41_code (2 : Nat) (Option.none : Option Jvm.ClassFile.FieldType)) ∈ tb := tb_of (List.mem_of_getElem? (i := 782) (by decide +kernel)) rfl
theorem w_781 : (Jvm.Cond.static ({ cls := "MarkField", name := "needWhat", desc := "(II)V" } : Jvm.MethodName)) ∈ tb := tb_of (List.mem_of_getElem? (i := 781) (by decide +kernel)) rfl
theorem w_780 : (Jvm.Cond.methodLink "MarkField" (182 : Nat) ({ cls := "MarkField", name := "needWhat", desc := "(II)V" } : Jvm.MethodName)) ∈ tb := tb_of (List.mem_of_getElem? (i := 780) (by decide +kernel)) rfl
theorem w_109 : (Jvm.Cond.fieldLink "MarkField" (186 : Nat) "MarkField$Register" "uses" "[I") ∈ tb := tb_of (List.mem_of_getElem? (i := 109) (by decide +kernel)) rfl
theorem w_784 : (Jvm.Cond.methodLink "MarkField" (189 : Nat) ({ cls := "MarkField$Register", name := "useAt", desc := "(II)I" } : Jvm.MethodName)) ∈ tb := tb_of (List.mem_of_getElem? (i := 784) (by decide +kernel)) rfl
theorem w_795 : (Jvm.Cond.code ({ cls := "MarkField", name := "needCouple", desc := "(II)V" } : Jvm.MethodName) prog_1_method_39_code (3 : Nat) (Option.none : Option Jvm.ClassFile.FieldType)) ∈ tb := tb_of (List.mem_of_getElem? (i := 795) (by decide +kernel)) rfl
theorem w_794 : (Jvm.Cond.instanceMethod ({ cls := "MarkField", name := "needCouple", desc := "(II)V" } : Jvm.MethodName)) ∈ tb := tb_of (List.mem_of_getElem? (i := 794) (by decide +kernel)) rfl
theorem ws_19 : (Jvm.Cond.selects "MarkField" ({ cls := "MarkField", name := "needCouple", desc := "(II)V" } : Jvm.MethodName) ({ cls := "MarkField", name := "needCouple", desc := "(II)V" } : Jvm.MethodName)) ∈ tb := tb_sel (List.mem_of_getElem? (i := 19) (by decide +kernel)) rfl
theorem w_792 : (Jvm.Cond.methodLink "MarkField" (193 : Nat) ({ cls := "MarkField", name := "needCouple", desc := "(II)V" } : Jvm.MethodName)) ∈ tb := tb_of (List.mem_of_getElem? (i := 792) (by decide +kernel)) rfl
theorem w_176 : (Jvm.Cond.fieldLink "MarkField" (196 : Nat) "MarkField$Likeness" "byLetters" "[I") ∈ tb := tb_of (List.mem_of_getElem? (i := 176) (by decide +kernel)) rfl
theorem w_797 : (Jvm.Cond.methodLink "MarkField" (199 : Nat) ({ cls := "MarkField$Likeness", name := "pair", desc := "(II)I" } : Jvm.MethodName)) ∈ tb := tb_of (List.mem_of_getElem? (i := 797) (by decide +kernel)) rfl
theorem w_178 : (Jvm.Cond.fieldLink "MarkField" (202 : Nat) "MarkField$Likeness" "bySounds" "[I") ∈ tb := tb_of (List.mem_of_getElem? (i := 178) (by decide +kernel)) rfl
theorem w_798 : (Jvm.Cond.methodLink "MarkField" (205 : Nat) ({ cls := "MarkField$Likeness", name := "ofNames", desc := "(LMarkField$Register;II)I" } : Jvm.MethodName)) ∈ tb := tb_of (List.mem_of_getElem? (i := 798) (by decide +kernel)) rfl
theorem w_180 : (Jvm.Cond.fieldLink "MarkField" (209 : Nat) "MarkField$Likeness" "apart" "[I") ∈ tb := tb_of (List.mem_of_getElem? (i := 180) (by decide +kernel)) rfl
theorem w_799 : (Jvm.Cond.methodLink "MarkField" (212 : Nat) ({ cls := "MarkField$Likeness", name := "isNear", desc := "(LMarkField$Register;II)Z" } : Jvm.MethodName)) ∈ tb := tb_of (List.mem_of_getElem? (i := 799) (by decide +kernel)) rfl
theorem w_807 : (Jvm.Cond.methodLink "MarkField" (216 : Nat) ({ cls := "MarkField", name := "isClass", desc := "(I)Z" } : Jvm.MethodName)) ∈ tb := tb_of (List.mem_of_getElem? (i := 807) (by decide +kernel)) rfl
theorem w_809 : (Jvm.Cond.methodLink "MarkField" (222 : Nat) ({ cls := "MarkField$Register", name := "stepsApart", desc := "(II)I" } : Jvm.MethodName)) ∈ tb := tb_of (List.mem_of_getElem? (i := 809) (by decide +kernel)) rfl
theorem w_820 : (Jvm.Cond.code ({ cls := "MarkField", name := "needHalf", desc := "(I)V" } : Jvm.MethodName) prog_1_method_40_code (2 : Nat) (Option.none : Option Jvm.ClassFile.FieldType)) ∈ tb := tb_of (List.mem_of_getElem? (i := 820) (by decide +kernel)) rfl
theorem w_819 : (Jvm.Cond.instanceMethod ({ cls := "MarkField", name := "needHalf", desc := "(I)V" } : Jvm.MethodName)) ∈ tb := tb_of (List.mem_of_getElem? (i := 819) (by decide +kernel)) rfl
theorem ws_20 : (Jvm.Cond.selects "MarkField" ({ cls := "MarkField", name := "needHalf", desc := "(I)V" } : Jvm.MethodName) ({ cls := "MarkField", name := "needHalf", desc := "(I)V" } : Jvm.MethodName)) ∈ tb := tb_sel (List.mem_of_getElem? (i := 20) (by decide +kernel)) rfl
theorem w_817 : (Jvm.Cond.methodLink "MarkField" (225 : Nat) ({ cls := "MarkField", name := "needHalf", desc := "(I)V" } : Jvm.MethodName)) ∈ tb := tb_of (List.mem_of_getElem? (i := 817) (by decide +kernel)) rfl
theorem w_213 : (Jvm.Cond.fieldLink "MarkField" (249 : Nat) "MarkField$Standing" "refusedFor" "[I") ∈ tb := tb_of (List.mem_of_getElem? (i := 213) (by decide +kernel)) rfl
theorem w_833 : (Jvm.Cond.methodLink "MarkField" (235 : Nat) ({ cls := "MarkField$Register", name := "priorityOf", desc := "(III)I" } : Jvm.MethodName)) ∈ tb := tb_of (List.mem_of_getElem? (i := 833) (by decide +kernel)) rfl
theorem w_829 : (Jvm.Cond.methodLink "MarkField" (231 : Nat) ({ cls := "MarkField$Register", name := "sinceOf", desc := "(III)I" } : Jvm.MethodName)) ∈ tb := tb_of (List.mem_of_getElem? (i := 829) (by decide +kernel)) rfl
theorem w_872 : (Jvm.Cond.code ({ cls := "MarkField$Standing", name := "settleAll", desc := "(LMarkField$Register;LMarkField$Likeness;II)V" } : Jvm.MethodName) prog_7_method_7_code (7 : Nat) (Option.none : Option Jvm.ClassFile.FieldType)) ∈ tb := tb_of (List.mem_of_getElem? (i := 872) (by decide +kernel)) rfl
theorem w_870 : (Jvm.Cond.instanceMethod ({ cls := "MarkField$Standing", name := "settleAll", desc := "(LMarkField$Register;LMarkField$Likeness;II)V" } : Jvm.MethodName)) ∈ tb := tb_of (List.mem_of_getElem? (i := 870) (by decide +kernel)) rfl
theorem w_871 : (Jvm.Cond.selects "MarkField$Standing" ({ cls := "MarkField$Standing", name := "settleAll", desc := "(LMarkField$Register;LMarkField$Likeness;II)V" } : Jvm.MethodName) ({ cls := "MarkField$Standing", name := "settleAll", desc := "(LMarkField$Register;LMarkField$Likeness;II)V" } : Jvm.MethodName)) ∈ tb := tb_of (List.mem_of_getElem? (i := 871) (by decide +kernel)) rfl
theorem w_869 : (Jvm.Cond.methodLink "MarkField" (255 : Nat) ({ cls := "MarkField$Standing", name := "settleAll", desc := "(LMarkField$Register;LMarkField$Likeness;II)V" } : Jvm.MethodName)) ∈ tb := tb_of (List.mem_of_getElem? (i := 869) (by decide +kernel)) rfl
theorem w_880 : (Jvm.Cond.methodLink "MarkField" (265 : Nat) ({ cls := "MarkField$Standing", name := "refusedHalves", desc := "(I)I" } : Jvm.MethodName)) ∈ tb := tb_of (List.mem_of_getElem? (i := 880) (by decide +kernel)) rfl
theorem w_215 : (Jvm.Cond.fieldLink "MarkField" (259 : Nat) "MarkField$Standing" "entitled" "[I") ∈ tb := tb_of (List.mem_of_getElem? (i := 215) (by decide +kernel)) rfl
theorem w_891 : (Jvm.Cond.methodLink "MarkField" (268 : Nat) ({ cls := "MarkField$Register", name := "allMarks", desc := "()I" } : Jvm.MethodName)) ∈ tb := tb_of (List.mem_of_getElem? (i := 891) (by decide +kernel)) rfl
theorem w_905 : (Jvm.Cond.code ({ cls := "MarkField", name := "isShared", desc := "(LMarkField$Likeness;I)Z" } : Jvm.MethodName) prog_1_method_46_code (5 : Nat) (Option.some Jvm.ClassFile.FieldType.boolean)) ∈ tb := tb_of (List.mem_of_getElem? (i := 905) (by decide +kernel)) rfl
theorem w_904 : (Jvm.Cond.instanceMethod ({ cls := "MarkField", name := "isShared", desc := "(LMarkField$Likeness;I)Z" } : Jvm.MethodName)) ∈ tb := tb_of (List.mem_of_getElem? (i := 904) (by decide +kernel)) rfl
theorem ws_23 : (Jvm.Cond.selects "MarkField" ({ cls := "MarkField", name := "isShared", desc := "(LMarkField$Likeness;I)Z" } : Jvm.MethodName) ({ cls := "MarkField", name := "isShared", desc := "(LMarkField$Likeness;I)Z" } : Jvm.MethodName)) ∈ tb := tb_sel (List.mem_of_getElem? (i := 23) (by decide +kernel)) rfl
theorem w_902 : (Jvm.Cond.methodLink "MarkField" (271 : Nat) ({ cls := "MarkField", name := "isShared", desc := "(LMarkField$Likeness;I)Z" } : Jvm.MethodName)) ∈ tb := tb_of (List.mem_of_getElem? (i := 902) (by decide +kernel)) rfl
theorem w_941 : (Jvm.Cond.code ({ cls := "MarkField", name := "needFiling", desc := "(III)V" } : Jvm.MethodName) prog_1_method_44_code (4 : Nat) (Option.none : Option Jvm.ClassFile.FieldType)) ∈ tb := tb_of (List.mem_of_getElem? (i := 941) (by decide +kernel)) rfl
theorem w_940 : (Jvm.Cond.instanceMethod ({ cls := "MarkField", name := "needFiling", desc := "(III)V" } : Jvm.MethodName)) ∈ tb := tb_of (List.mem_of_getElem? (i := 940) (by decide +kernel)) rfl
theorem ws_25 : (Jvm.Cond.selects "MarkField" ({ cls := "MarkField", name := "needFiling", desc := "(III)V" } : Jvm.MethodName) ({ cls := "MarkField", name := "needFiling", desc := "(III)V" } : Jvm.MethodName)) ∈ tb := tb_sel (List.mem_of_getElem? (i := 25) (by decide +kernel)) rfl
theorem w_938 : (Jvm.Cond.methodLink "MarkField" (282 : Nat) ({ cls := "MarkField", name := "needFiling", desc := "(III)V" } : Jvm.MethodName)) ∈ tb := tb_of (List.mem_of_getElem? (i := 938) (by decide +kernel)) rfl
theorem w_945 : (Jvm.Cond.code ({ cls := "MarkField$Tape", name := "takeName", desc := "(I)Z" } : Jvm.MethodName) prog_8_method_4_code (3 : Nat) (Option.some Jvm.ClassFile.FieldType.boolean)) ∈ tb := tb_of (List.mem_of_getElem? (i := 945) (by decide +kernel)) rfl
theorem w_943 : (Jvm.Cond.instanceMethod ({ cls := "MarkField$Tape", name := "takeName", desc := "(I)Z" } : Jvm.MethodName)) ∈ tb := tb_of (List.mem_of_getElem? (i := 943) (by decide +kernel)) rfl
theorem w_944 : (Jvm.Cond.selects "MarkField$Tape" ({ cls := "MarkField$Tape", name := "takeName", desc := "(I)Z" } : Jvm.MethodName) ({ cls := "MarkField$Tape", name := "takeName", desc := "(I)Z" } : Jvm.MethodName)) ∈ tb := tb_of (List.mem_of_getElem? (i := 944) (by decide +kernel)) rfl
theorem w_942 : (Jvm.Cond.methodLink "MarkField" (286 : Nat) ({ cls := "MarkField$Tape", name := "takeName", desc := "(I)Z" } : Jvm.MethodName)) ∈ tb := tb_of (List.mem_of_getElem? (i := 942) (by decide +kernel)) rfl
theorem w_950 : (Jvm.Cond.code ({ cls := "MarkField", name := "imagine", desc := "(LMarkField$Likeness;III)I" } : Jvm.MethodName) prog_1_method_48_code (7 : Nat) (Option.some Jvm.ClassFile.FieldType.int)) ∈ tb := tb_of (List.mem_of_getElem? (i := 950) (by decide +kernel)) rfl
theorem w_949 : (Jvm.Cond.instanceMethod ({ cls := "MarkField", name := "imagine", desc := "(LMarkField$Likeness;III)I" } : Jvm.MethodName)) ∈ tb := tb_of (List.mem_of_getElem? (i := 949) (by decide +kernel)) rfl
theorem ws_26 : (Jvm.Cond.selects "MarkField" ({ cls := "MarkField", name := "imagine", desc := "(LMarkField$Likeness;III)I" } : Jvm.MethodName) ({ cls := "MarkField", name := "imagine", desc := "(LMarkField$Likeness;III)I" } : Jvm.MethodName)) ∈ tb := tb_sel (List.mem_of_getElem? (i := 26) (by decide +kernel)) rfl
theorem w_947 : (Jvm.Cond.methodLink "MarkField" (290 : Nat) ({ cls := "MarkField", name := "imagine", desc := "(LMarkField$Likeness;III)I" } : Jvm.MethodName)) ∈ tb := tb_of (List.mem_of_getElem? (i := 947) (by decide +kernel)) rfl
theorem w_220 : (Jvm.Cond.fieldLink "MarkField" (297 : Nat) "MarkField$Standing" "leastRefusedFor" "[I") ∈ tb := tb_of (List.mem_of_getElem? (i := 220) (by decide +kernel)) rfl
theorem w_963 : (Jvm.Cond.code ({ cls := "MarkField", name := "firstFreeDay", desc := "(II)I" } : Jvm.MethodName) prog_1_method_50_code (8 : Nat) (Option.some Jvm.ClassFile.FieldType.int)) ∈ tb := tb_of (List.mem_of_getElem? (i := 963) (by decide +kernel)) rfl
theorem w_962 : (Jvm.Cond.instanceMethod ({ cls := "MarkField", name := "firstFreeDay", desc := "(II)I" } : Jvm.MethodName)) ∈ tb := tb_of (List.mem_of_getElem? (i := 962) (by decide +kernel)) rfl
theorem ws_27 : (Jvm.Cond.selects "MarkField" ({ cls := "MarkField", name := "firstFreeDay", desc := "(II)I" } : Jvm.MethodName) ({ cls := "MarkField", name := "firstFreeDay", desc := "(II)I" } : Jvm.MethodName)) ∈ tb := tb_sel (List.mem_of_getElem? (i := 27) (by decide +kernel)) rfl
theorem w_960 : (Jvm.Cond.methodLink "MarkField" (294 : Nat) ({ cls := "MarkField", name := "firstFreeDay", desc := "(II)I" } : Jvm.MethodName)) ∈ tb := tb_of (List.mem_of_getElem? (i := 960) (by decide +kernel)) rfl
theorem w_946 : (Jvm.Cond.constant "MarkField" (289 : Nat) (-1000000000 : Int32)) ∈ tb := tb_of (List.mem_of_getElem? (i := 946) (by decide +kernel)) rfl
theorem w_975 : (Jvm.Cond.code ({ cls := "MarkField$Standing", name := "rankAll", desc := "(LMarkField$Register;I)V" } : Jvm.MethodName) prog_7_method_4_code (4 : Nat) (Option.none : Option Jvm.ClassFile.FieldType)) ∈ tb := tb_of (List.mem_of_getElem? (i := 975) (by decide +kernel)) rfl
theorem w_973 : (Jvm.Cond.instanceMethod ({ cls := "MarkField$Standing", name := "rankAll", desc := "(LMarkField$Register;I)V" } : Jvm.MethodName)) ∈ tb := tb_of (List.mem_of_getElem? (i := 973) (by decide +kernel)) rfl
theorem w_974 : (Jvm.Cond.selects "MarkField$Standing" ({ cls := "MarkField$Standing", name := "rankAll", desc := "(LMarkField$Register;I)V" } : Jvm.MethodName) ({ cls := "MarkField$Standing", name := "rankAll", desc := "(LMarkField$Register;I)V" } : Jvm.MethodName)) ∈ tb := tb_of (List.mem_of_getElem? (i := 974) (by decide +kernel)) rfl
theorem w_972 : (Jvm.Cond.methodLink "MarkField" (300 : Nat) ({ cls := "MarkField$Standing", name := "rankAll", desc := "(LMarkField$Register;I)V" } : Jvm.MethodName)) ∈ tb := tb_of (List.mem_of_getElem? (i := 972) (by decide +kernel)) rfl
theorem w_980 : (Jvm.Cond.code ({ cls := "MarkField$Register", name := "allHalves", desc := "()I" } : Jvm.MethodName) prog_6_method_5_code (1 : Nat) (Option.some Jvm.ClassFile.FieldType.int)) ∈ tb := tb_of (List.mem_of_getElem? (i := 980) (by decide +kernel)) rfl
theorem w_978 : (Jvm.Cond.instanceMethod ({ cls := "MarkField$Register", name := "allHalves", desc := "()I" } : Jvm.MethodName)) ∈ tb := tb_of (List.mem_of_getElem? (i := 978) (by decide +kernel)) rfl
theorem w_979 : (Jvm.Cond.selects "MarkField$Register" ({ cls := "MarkField$Register", name := "allHalves", desc := "()I" } : Jvm.MethodName) ({ cls := "MarkField$Register", name := "allHalves", desc := "()I" } : Jvm.MethodName)) ∈ tb := tb_of (List.mem_of_getElem? (i := 979) (by decide +kernel)) rfl
theorem w_977 : (Jvm.Cond.methodLink "MarkField" (310 : Nat) ({ cls := "MarkField$Register", name := "allHalves", desc := "()I" } : Jvm.MethodName)) ∈ tb := tb_of (List.mem_of_getElem? (i := 977) (by decide +kernel)) rfl
theorem w_996 : (Jvm.Cond.code ({ cls := "MarkField$Register", name := "halvesWithPriority", desc := "(II)I" } : Jvm.MethodName) prog_6_method_15_code (5 : Nat) (Option.some Jvm.ClassFile.FieldType.int)) ∈ tb := tb_of (List.mem_of_getElem? (i := 996) (by decide +kernel)) rfl
theorem w_994 : (Jvm.Cond.instanceMethod ({ cls := "MarkField$Register", name := "halvesWithPriority", desc := "(II)I" } : Jvm.MethodName)) ∈ tb := tb_of (List.mem_of_getElem? (i := 994) (by decide +kernel)) rfl
theorem w_995 : (Jvm.Cond.selects "MarkField$Register" ({ cls := "MarkField$Register", name := "halvesWithPriority", desc := "(II)I" } : Jvm.MethodName) ({ cls := "MarkField$Register", name := "halvesWithPriority", desc := "(II)I" } : Jvm.MethodName)) ∈ tb := tb_of (List.mem_of_getElem? (i := 995) (by decide +kernel)) rfl
theorem w_993 : (Jvm.Cond.methodLink "MarkField" (319 : Nat) ({ cls := "MarkField$Register", name := "halvesWithPriority", desc := "(II)I" } : Jvm.MethodName)) ∈ tb := tb_of (List.mem_of_getElem? (i := 993) (by decide +kernel)) rfl
theorem w_1001 : (Jvm.Cond.code ({ cls := "MarkField", name := "letterAt", desc := "(III)I" } : Jvm.MethodName) prog_1_method_51_code (8 : Nat) (Option.some Jvm.ClassFile.FieldType.int)) ∈ tb := tb_of (List.mem_of_getElem? (i := 1001) (by decide +kernel)) rfl
theorem w_1000 : (Jvm.Cond.instanceMethod ({ cls := "MarkField", name := "letterAt", desc := "(III)I" } : Jvm.MethodName)) ∈ tb := tb_of (List.mem_of_getElem? (i := 1000) (by decide +kernel)) rfl
theorem ws_29 : (Jvm.Cond.selects "MarkField" ({ cls := "MarkField", name := "letterAt", desc := "(III)I" } : Jvm.MethodName) ({ cls := "MarkField", name := "letterAt", desc := "(III)I" } : Jvm.MethodName)) ∈ tb := tb_sel (List.mem_of_getElem? (i := 29) (by decide +kernel)) rfl
theorem w_998 : (Jvm.Cond.methodLink "MarkField" (322 : Nat) ({ cls := "MarkField", name := "letterAt", desc := "(III)I" } : Jvm.MethodName)) ∈ tb := tb_of (List.mem_of_getElem? (i := 998) (by decide +kernel)) rfl
theorem w_211 : (Jvm.Cond.fieldLink "MarkField" (325 : Nat) "MarkField$Standing" "ranks" "[I") ∈ tb := tb_of (List.mem_of_getElem? (i := 211) (by decide +kernel)) rfl
theorem w_1022 : (Jvm.Cond.methodLink "MarkField" (330 : Nat) ({ cls := "MarkField$Standing", name := "inOrder", desc := "(II)I" } : Jvm.MethodName)) ∈ tb := tb_of (List.mem_of_getElem? (i := 1022) (by decide +kernel)) rfl
theorem w_296 : (Jvm.Cond.fieldLink "MarkField" (70 : Nat) "MarkField" "question" "LMarkField$Question;") ∈ tb := tb_of (List.mem_of_getElem? (i := 296) (by decide +kernel)) rfl
theorem w_1095 : (Jvm.Cond.code ({ cls := "MarkField$Question", name := "read", desc := "(I)I" } : Jvm.MethodName) prog_4_method_2_code (4 : Nat) (Option.some Jvm.ClassFile.FieldType.int)) ∈ tb := tb_of (List.mem_of_getElem? (i := 1095) (by decide +kernel)) rfl
theorem w_1093 : (Jvm.Cond.instanceMethod ({ cls := "MarkField$Question", name := "read", desc := "(I)I" } : Jvm.MethodName)) ∈ tb := tb_of (List.mem_of_getElem? (i := 1093) (by decide +kernel)) rfl
theorem w_1094 : (Jvm.Cond.selects "MarkField$Question" ({ cls := "MarkField$Question", name := "read", desc := "(I)I" } : Jvm.MethodName) ({ cls := "MarkField$Question", name := "read", desc := "(I)I" } : Jvm.MethodName)) ∈ tb := tb_of (List.mem_of_getElem? (i := 1094) (by decide +kernel)) rfl
theorem w_1092 : (Jvm.Cond.methodLink "MarkField" (377 : Nat) ({ cls := "MarkField$Question", name := "read", desc := "(I)I" } : Jvm.MethodName)) ∈ tb := tb_of (List.mem_of_getElem? (i := 1092) (by decide +kernel)) rfl
theorem w_276 : (Jvm.Cond.fieldLink "MarkField" (378 : Nat) "MarkField$Question" "place" "I") ∈ tb := tb_of (List.mem_of_getElem? (i := 276) (by decide +kernel)) rfl
theorem w_278 : (Jvm.Cond.fieldLink "MarkField" (379 : Nat) "MarkField$Question" "answer" "I") ∈ tb := tb_of (List.mem_of_getElem? (i := 278) (by decide +kernel)) rfl
theorem mv_X3_read : MV yX3_read cX3_read 4 (some .int) 1 := ⟨⟨w_452, w_8, by decide, by decide, by decide +kernel⟩, w_450, w_451⟩
theorem mv_X0_clear : MV yX0_clear cX0_clear 1 none 0 := ⟨⟨w_370, w_5, by decide, by decide, by decide +kernel⟩, w_368, w_369⟩
theorem ms_X7_bitsIn : MS yX7_bitsIn cX7_bitsIn 4 (some .int) 2 := ⟨⟨w_628, w_1, by decide, by decide, by decide +kernel⟩, w_627⟩
theorem mv_X7_likeness : MV yX7_likeness cX7_likeness 1 (some (.object "MarkField$Likeness")) 0 := ⟨⟨w_638, w_1, by decide, by decide, by decide +kernel⟩, w_637, ws_11⟩
theorem mv_X7_needMark : MV yX7_needMark cX7_needMark 2 none 1 := ⟨⟨w_755, w_1, by decide, by decide, by decide +kernel⟩, w_754, ws_17⟩
theorem ms_X7_needWhat : MS yX7_needWhat cX7_needWhat 2 none 2 := ⟨⟨w_782, w_1, by decide, by decide, by decide +kernel⟩, w_781⟩
theorem mv_X7_needCouple : MV yX7_needCouple cX7_needCouple 3 none 2 := ⟨⟨w_795, w_1, by decide, by decide, by decide +kernel⟩, w_794, ws_19⟩
theorem mv_X7_needHalf : MV yX7_needHalf cX7_needHalf 2 none 1 := ⟨⟨w_820, w_1, by decide, by decide, by decide +kernel⟩, w_819, ws_20⟩
theorem mv_X5_settleAll : MV yX5_settleAll cX5_settleAll 7 none 4 := ⟨⟨w_872, w_7, by decide, by decide, by decide +kernel⟩, w_870, w_871⟩
theorem mv_X7_isShared : MV yX7_isShared cX7_isShared 5 (some .boolean) 2 := ⟨⟨w_905, w_1, by decide, by decide, by decide +kernel⟩, w_904, ws_23⟩
theorem mv_X7_needFiling : MV yX7_needFiling cX7_needFiling 4 none 3 := ⟨⟨w_941, w_1, by decide, by decide, by decide +kernel⟩, w_940, ws_25⟩
theorem mv_X6_takeName : MV yX6_takeName cX6_takeName 3 (some .boolean) 1 := ⟨⟨w_945, w_2, by decide, by decide, by decide +kernel⟩, w_943, w_944⟩
theorem mv_X7_imagine : MV yX7_imagine cX7_imagine 7 (some .int) 4 := ⟨⟨w_950, w_1, by decide, by decide, by decide +kernel⟩, w_949, ws_26⟩
theorem mv_X7_firstFreeDay : MV yX7_firstFreeDay cX7_firstFreeDay 8 (some .int) 2 := ⟨⟨w_963, w_1, by decide, by decide, by decide +kernel⟩, w_962, ws_27⟩
theorem mv_X5_rankAll : MV yX5_rankAll cX5_rankAll 4 none 2 := ⟨⟨w_975, w_7, by decide, by decide, by decide +kernel⟩, w_973, w_974⟩
theorem mv_X4_allHalves : MV yX4_allHalves cX4_allHalves 1 (some .int) 0 := ⟨⟨w_980, w_3, by decide, by decide, by decide +kernel⟩, w_978, w_979⟩
theorem mv_X4_halvesWithPriority : MV yX4_halvesWithPriority cX4_halvesWithPriority 5 (some .int) 2 := ⟨⟨w_996, w_3, by decide, by decide, by decide +kernel⟩, w_994, w_995⟩
theorem mv_X7_letterAt : MV yX7_letterAt cX7_letterAt 8 (some .int) 3 := ⟨⟨w_1001, w_1, by decide, by decide, by decide +kernel⟩, w_1000, ws_29⟩
theorem mv_X2_read : MV yX2_read cX2_read 4 (some .int) 1 := ⟨⟨w_1095, w_9, by decide, by decide, by decide +kernel⟩, w_1093, w_1094⟩
-- X7_register (height 11)
def wp_X7_register (post : Int32 → GH → Prop) (px : Nat → GH → Prop) (x1 : Int32) (G : GH) : Prop :=
  wp_X7_needBytes (fun (G_1 : GH) => wp_X3_read (fun (r_4 : Int32) (G_3 : GH) => (∀ G_5 : GH, G_5 = gs G_3 0 0 (upd (G_3 0 0) 11 (G_3 2 0 4)) → ((r_4 = 0 → wp_X4_copy (fun (G_7 : GH) => wp_X0_clear (fun (G_9 : GH) => (∀ G_11 : GH, G_11 = gs G_9 0 0 (upd (G_9 0 0) 12 (3 : Int32)) → post (G_11 8 0 1) G_11)) G_7) 8 10 G_5) ∧ (¬ r_4 = 0 → post ((-10 : Int32) - r_4) G_5)))) x1 G_1) px x1 G
set_option maxRecDepth 100000 in
set_option maxHeartbeats 4000000 in
theorem k_X7_register {l : Launch} {E : Ev} {P : Nat → Prop} {sd : Nat → Nat → Nat} {G : GH} {post : Int32 → GH → Prop} {px : Nat → GH → Prop} {x1 : Int32} (hl0 : l.stackTraces = false) (hPP : ∀ o, stt o = true → P o) (h : wp_X7_register post px x1 G) : CtX l yX7_register cX7_register 3 (some .int) 11 1 6 E P sd G [.ref (sd 0 0), .int x1] (pI post) px := by
  refine ctx_of hl0 (own := "MarkField") (by decide) rfl (Nat.le_of_ble_eq_true rfl) hPP (fun X F T el eP es => ?_)
  subst el; subst eP; subst es
  have hP := F.P
  change AW E X 3 0 [(0, .ref (sdX X 0 0)), (1, .int x1)] [] G 0 0
  refine aw_al_n F 0 dX7_register_0 rfl rfl ?_
  refine aw_il_n F 1 dX7_register_1 rfl rfl ?_
  refine aw_cVXv (stk := []) F T [.int x1] (k_X7_needBytes T.tr hP h) mv_X7_needBytes w_379 cf7 (lo_s rfl) (hP _ rfl) rfl (by decide) rfl rfl (Nat.le_of_ble_eq_true rfl) ⟨(Nat.le_of_ble_eq_true rfl), (Nat.le_of_ble_eq_true rfl)⟩ ⟨(Nat.le_of_ble_eq_true rfl), (Nat.le_of_ble_eq_true rfl)⟩ ⟨rfl, rfl⟩ dX7_register_2 (fun _ _ q => q) (fun G_1 h => ?_)
  refine aw_al_n F 0 dX7_register_5 rfl rfl ?_
  refine gr7_1 F (lo_s rfl) (hP _ rfl) rfl w_295 (hP 2 rfl) dX7_register_6 ?_
  refine aw_il_n F 1 dX7_register_9 rfl rfl ?_
  refine aw_cVi (stk := []) F T.room [.int x1] (k_X3_read hP h) mv_X3_read w_449 cf3 (lo_s rfl) (hP _ rfl) rfl (by decide) rfl rfl (Nat.le_of_ble_eq_true rfl) ⟨(Nat.le_of_ble_eq_true rfl), (Nat.le_of_ble_eq_true rfl)⟩ ⟨(Nat.le_of_ble_eq_true rfl), (Nat.le_of_ble_eq_true rfl)⟩ dX7_register_10 (fun r_4 G_3 h => ?_)
  refine aw_is_n (lv1 := [(2, .int r_4), (0, .ref (sdX X 0 0)), (1, .int x1)]) F dX7_register_13 rfl (by decide) rfl ?_
  refine aw_al_n F 1 dX7_register_14 rfl rfl ?_
  refine aw_al_n F 1 dX7_register_15 rfl rfl ?_
  refine gr7_1 F (lo_s rfl) (hP _ rfl) rfl w_295 (hP 2 rfl) dX7_register_16 ?_
  refine gf3_4 F (lo_s rfl) (hP _ rfl) rfl w_252 dX7_register_19 ?_
  refine pf7_11 F (lo_s rfl) (hP _ rfl) rfl w_305 dX7_register_22 (fun G_5 eG_5 => ?_)
  replace h := h G_5 eG_5
  refine aw_il_n F 0 dX7_register_25 rfl rfl ?_
  refine aw_if_eq (tgt := 34) F dX7_register_26 (by decide) (fun c_6 => ?_) (fun c_6 => ?_)
  · replace h := h.1 c_6
    refine aw_al_n F 1 dX7_register_34 rfl rfl ?_
    refine gr7_7 F (lo_s rfl) (hP _ rfl) rfl w_301 (hP 8 rfl) dX7_register_35 ?_
    refine aw_al_n F 1 dX7_register_38 rfl rfl ?_
    refine gr7_9 F (lo_s rfl) (hP _ rfl) rfl w_303 (hP 10 rfl) dX7_register_39 ?_
    refine aw_cVv (stk := []) F T.room [.ref (sdX X 10 0)] (k_X4_copy hP (hP _ rfl) (lo_s rfl) rfl (hP _ rfl) (lo_s rfl) rfl h) mv_X4_copy w_362 cf4 (lo_s rfl) (hP _ rfl) rfl (by decide) rfl rfl (Nat.le_of_ble_eq_true rfl) ⟨(Nat.le_of_ble_eq_true rfl), (Nat.le_of_ble_eq_true rfl)⟩ ⟨(Nat.le_of_ble_eq_true rfl), (Nat.le_of_ble_eq_true rfl)⟩ dX7_register_42 (fun G_7 h => ?_)
    refine aw_al_n F 1 dX7_register_45 rfl rfl ?_
    refine gr7_3 F (lo_s rfl) (hP _ rfl) rfl w_297 (hP 4 rfl) dX7_register_46 ?_
    refine aw_cVv (stk := []) F T.room [] (k_X0_clear hP h) mv_X0_clear w_367 cf0 (lo_s rfl) (hP _ rfl) rfl (by decide) rfl rfl (Nat.le_of_ble_eq_true rfl) ⟨(Nat.le_of_ble_eq_true rfl), (Nat.le_of_ble_eq_true rfl)⟩ ⟨(Nat.le_of_ble_eq_true rfl), (Nat.le_of_ble_eq_true rfl)⟩ dX7_register_49 (fun G_9 h => ?_)
    refine aw_al_n F 1 dX7_register_52 rfl rfl ?_
    refine aw_ic F dX7_register_53 ic_3 ?_
    refine pf7_12 F (lo_s rfl) (hP _ rfl) rfl w_306 dX7_register_54 (fun G_11 eG_11 => ?_)
    replace h := h G_11 eG_11
    refine aw_al_n F 1 dX7_register_57 rfl rfl ?_
    refine gr7_7 F (lo_s rfl) (hP _ rfl) rfl w_301 (hP 8 rfl) dX7_register_58 ?_
    refine gf4_1 F (lo_s rfl) (hP _ rfl) rfl w_86 dX7_register_61 ?_
    exact aw_iretX F T (Nat.le_of_ble_eq_true rfl) (Nat.le_of_ble_eq_true rfl) ⟨_, rfl, h⟩ dX7_register_64
  · replace h := h.2 c_6
    refine aw_bi F dX7_register_29 bi_m10 ?_
    refine aw_il_n F 0 dX7_register_31 rfl rfl ?_
    refine aw_isub F dX7_register_32 ?_
    exact aw_iretX F T (Nat.le_of_ble_eq_true rfl) (Nat.le_of_ble_eq_true rfl) ⟨_, rfl, h⟩ dX7_register_33
-- X7_count (height 6)
def wp_X7_count (post : Int32 → GH → Prop) (px : Nat → GH → Prop) (x1 : Int32) (G : GH) : Prop :=
  (((x1.toInt < 0 ∨ 13 < x1.toInt) → px 0 G) ∧ (x1 = (0 : Int32) → post (G 8 0 0) G) ∧ (x1 = (1 : Int32) → wp_X4_halfCount (fun (r_5 : Int32) (G_4 : GH) => post r_5 G_4) 8 G) ∧ (x1 = (2 : Int32) → post (G 8 0 1) G) ∧ (x1 = (3 : Int32) → wp_X7_bitsIn (fun (r_9 : Int32) (G_8 : GH) => post (r_9 / (2 : Int32)) G_8) 8 10 10 (10 : Int32) G) ∧ (x1 = (4 : Int32) → wp_X7_bitsIn (fun (r_12 : Int32) (G_11 : GH) => post (r_12 / (2 : Int32)) G_11) 8 9 13 (G 8 0 1) G) ∧ (x1 = (5 : Int32) → (vp_in (x1 - (5 : Int32)) 6 ∧ post (G 8 11 (x1 - (5 : Int32)).toNatClampNeg) G)) ∧ (x1 = (6 : Int32) → (vp_in (x1 - (5 : Int32)) 6 ∧ post (G 8 11 (x1 - (5 : Int32)).toNatClampNeg) G)) ∧ (x1 = (7 : Int32) → (vp_in (x1 - (5 : Int32)) 6 ∧ post (G 8 11 (x1 - (5 : Int32)).toNatClampNeg) G)) ∧ (x1 = (8 : Int32) → (vp_in (x1 - (5 : Int32)) 6 ∧ post (G 8 11 (x1 - (5 : Int32)).toNatClampNeg) G)) ∧ (x1 = (9 : Int32) → (vp_in (x1 - (5 : Int32)) 6 ∧ post (G 8 11 (x1 - (5 : Int32)).toNatClampNeg) G)) ∧ (x1 = (10 : Int32) → (vp_in (x1 - (5 : Int32)) 6 ∧ post (G 8 11 (x1 - (5 : Int32)).toNatClampNeg) G)) ∧ (x1 = (11 : Int32) → post (G 4 0 2) G) ∧ (x1 = (12 : Int32) → post (G 1 0 1) G) ∧ (x1 = (13 : Int32) → wp_X7_likeness (fun (G_22 : GH) => wp_X7_bitsIn (fun (r_25 : Int32) (G_24 : GH) => post (r_25 / (2 : Int32)) G_24) 6 7 13 (G_22 8 0 1) G_22) G))
set_option maxRecDepth 100000 in
set_option maxHeartbeats 4000000 in
theorem k_X7_count {l : Launch} {E : Ev} {P : Nat → Prop} {sd : Nat → Nat → Nat} {G : GH} {post : Int32 → GH → Prop} {px : Nat → GH → Prop} {x1 : Int32} (hl0 : l.stackTraces = false) (hPP : ∀ o, stt o = true → P o) (h : wp_X7_count post px x1 G) : CtX l yX7_count cX7_count 2 (some .int) 6 1 6 E P sd G [.ref (sd 0 0), .int x1] (pI post) px := by
  refine ctx_of hl0 (own := "MarkField") (by decide) rfl (Nat.le_of_ble_eq_true rfl) hPP (fun X F T el eP es => ?_)
  subst el; subst eP; subst es
  have hP := F.P
  change AW E X 2 0 [(0, .ref (sdX X 0 0)), (1, .int x1)] [] G 0 0
  refine aw_il_n F 1 dX7_count_0 rfl rfl ?_
  by_cases c_1 : x1.toInt < 0 ∨ 13 < x1.toInt
  · replace h := h.1 c_1
    refine aw_tabO (tgt := 179) F dX7_count_1 c_1 (by decide) ?_
    exact aw_thr F T 0 (by decide) 0 (by decide) rfl false (Nat.le_of_ble_eq_true rfl) (Nat.le_of_ble_eq_true rfl) (Nat.le_of_ble_eq_true rfl) (Nat.le_of_ble_eq_true rfl) h dX7_count_179 dX7_count_182 dX7_count_183 dX7_count_185 dX7_count_188
  · replace h := h.2
    by_cases c_2 : x1 = (0 : Int32)
    · replace h := h.1 c_2
      refine aw_tabI (tgt := 72) F dX7_count_1 (by rw [c_2]; decide) (by rw [c_2]; decide) (by rw [c_2]; rfl) (by decide) ?_
      refine aw_al_n F 0 dX7_count_72 rfl rfl ?_
      refine gr7_7 F (lo_s rfl) (hP _ rfl) rfl w_301 (hP 8 rfl) dX7_count_73 ?_
      refine gf4_0 F (lo_s rfl) (hP _ rfl) rfl w_81 dX7_count_76 ?_
      exact aw_iretX F T (Nat.le_of_ble_eq_true rfl) (Nat.le_of_ble_eq_true rfl) ⟨_, rfl, h⟩ dX7_count_79
    replace h := h.2
    by_cases c_3 : x1 = (1 : Int32)
    · replace h := h.1 c_3
      refine aw_tabI (tgt := 80) F dX7_count_1 (by rw [c_3]; decide) (by rw [c_3]; decide) (by rw [c_3]; rfl) (by decide) ?_
      refine aw_al_n F 0 dX7_count_80 rfl rfl ?_
      refine gr7_7 F (lo_s rfl) (hP _ rfl) rfl w_301 (hP 8 rfl) dX7_count_81 ?_
      refine aw_cVi (stk := []) F T.room [] (k_X4_halfCount hP rfl rfl h) mv_X4_halfCount w_625 cf4 (lo_s rfl) (hP _ rfl) rfl (by decide) rfl rfl (Nat.le_of_ble_eq_true rfl) ⟨(Nat.le_of_ble_eq_true rfl), (Nat.le_of_ble_eq_true rfl)⟩ ⟨(Nat.le_of_ble_eq_true rfl), (Nat.le_of_ble_eq_true rfl)⟩ dX7_count_84 (fun r_5 G_4 h => ?_)
      exact aw_iretX F T (Nat.le_of_ble_eq_true rfl) (Nat.le_of_ble_eq_true rfl) ⟨_, rfl, h⟩ dX7_count_87
    replace h := h.2
    by_cases c_6 : x1 = (2 : Int32)
    · replace h := h.1 c_6
      refine aw_tabI (tgt := 88) F dX7_count_1 (by rw [c_6]; decide) (by rw [c_6]; decide) (by rw [c_6]; rfl) (by decide) ?_
      refine aw_al_n F 0 dX7_count_88 rfl rfl ?_
      refine gr7_7 F (lo_s rfl) (hP _ rfl) rfl w_301 (hP 8 rfl) dX7_count_89 ?_
      refine gf4_1 F (lo_s rfl) (hP _ rfl) rfl w_86 dX7_count_92 ?_
      exact aw_iretX F T (Nat.le_of_ble_eq_true rfl) (Nat.le_of_ble_eq_true rfl) ⟨_, rfl, h⟩ dX7_count_95
    replace h := h.2
    by_cases c_7 : x1 = (3 : Int32)
    · replace h := h.1 c_7
      refine aw_tabI (tgt := 96) F dX7_count_1 (by rw [c_7]; decide) (by rw [c_7]; decide) (by rw [c_7]; rfl) (by decide) ?_
      refine aw_al_n F 0 dX7_count_96 rfl rfl ?_
      refine gr7_7 F (lo_s rfl) (hP _ rfl) rfl w_301 (hP 8 rfl) dX7_count_97 ?_
      refine gr4_9 F (lo_s rfl) (hP _ rfl) rfl w_115 (hP _ rfl) dX7_count_100 ?_
      refine aw_bi F dX7_count_103 bi_10 ?_
      refine aw_cSi (stk := []) F T.room [.ref (sdX X 8 10), .int (10 : Int32)] (k_X7_bitsIn hP rfl rfl h) ms_X7_bitsIn w_626 rfl rfl (Nat.le_of_ble_eq_true rfl) ⟨(Nat.le_of_ble_eq_true rfl), (Nat.le_of_ble_eq_true rfl)⟩ ⟨(Nat.le_of_ble_eq_true rfl), (Nat.le_of_ble_eq_true rfl)⟩ dX7_count_105 (fun r_9 G_8 h => ?_)
      refine aw_ic F dX7_count_108 ic_2 ?_
      refine aw_idiv F dX7_count_109 (by decide) ?_
      exact aw_iretX F T (Nat.le_of_ble_eq_true rfl) (Nat.le_of_ble_eq_true rfl) ⟨_, rfl, h⟩ dX7_count_110
    replace h := h.2
    by_cases c_10 : x1 = (4 : Int32)
    · replace h := h.1 c_10
      refine aw_tabI (tgt := 111) F dX7_count_1 (by rw [c_10]; decide) (by rw [c_10]; decide) (by rw [c_10]; rfl) (by decide) ?_
      refine aw_al_n F 0 dX7_count_111 rfl rfl ?_
      refine gr7_7 F (lo_s rfl) (hP _ rfl) rfl w_301 (hP 8 rfl) dX7_count_112 ?_
      refine gr4_8 F (lo_s rfl) (hP _ rfl) rfl w_112 (hP _ rfl) dX7_count_115 ?_
      refine aw_al_n F 0 dX7_count_118 rfl rfl ?_
      refine gr7_7 F (lo_s rfl) (hP _ rfl) rfl w_301 (hP 8 rfl) dX7_count_119 ?_
      refine gf4_1 F (lo_s rfl) (hP _ rfl) rfl w_86 dX7_count_122 ?_
      refine aw_cSi (stk := []) F T.room [.ref (sdX X 8 9), .int (G 8 0 1)] (k_X7_bitsIn hP rfl rfl h) ms_X7_bitsIn w_626 rfl rfl (Nat.le_of_ble_eq_true rfl) ⟨(Nat.le_of_ble_eq_true rfl), (Nat.le_of_ble_eq_true rfl)⟩ ⟨(Nat.le_of_ble_eq_true rfl), (Nat.le_of_ble_eq_true rfl)⟩ dX7_count_125 (fun r_12 G_11 h => ?_)
      refine aw_ic F dX7_count_128 ic_2 ?_
      refine aw_idiv F dX7_count_129 (by decide) ?_
      exact aw_iretX F T (Nat.le_of_ble_eq_true rfl) (Nat.le_of_ble_eq_true rfl) ⟨_, rfl, h⟩ dX7_count_130
    replace h := h.2
    by_cases c_13 : x1 = (5 : Int32)
    · replace h := h.1 c_13
      refine aw_tabI (tgt := 131) F dX7_count_1 (by rw [c_13]; decide) (by rw [c_13]; decide) (by rw [c_13]; rfl) (by decide) ?_
      refine aw_al_n F 0 dX7_count_131 rfl rfl ?_
      refine gr7_7 F (lo_s rfl) (hP _ rfl) rfl w_301 (hP 8 rfl) dX7_count_132 ?_
      refine gr4_10 F (lo_s rfl) (hP _ rfl) rfl w_118 (hP _ rfl) dX7_count_135 ?_
      refine aw_il_n F 1 dX7_count_138 rfl rfl ?_
      refine aw_ic F dX7_count_139 ic_5 ?_
      refine aw_isub F dX7_count_140 ?_
      refine aw_iald F 8 11 (lo_s rfl) (hP _ rfl) rfl h.1 dX7_count_141 ?_
      replace h := h.2
      exact aw_iretX F T (Nat.le_of_ble_eq_true rfl) (Nat.le_of_ble_eq_true rfl) ⟨_, rfl, h⟩ dX7_count_142
    replace h := h.2
    by_cases c_14 : x1 = (6 : Int32)
    · replace h := h.1 c_14
      refine aw_tabI (tgt := 131) F dX7_count_1 (by rw [c_14]; decide) (by rw [c_14]; decide) (by rw [c_14]; rfl) (by decide) ?_
      refine aw_al_n F 0 dX7_count_131 rfl rfl ?_
      refine gr7_7 F (lo_s rfl) (hP _ rfl) rfl w_301 (hP 8 rfl) dX7_count_132 ?_
      refine gr4_10 F (lo_s rfl) (hP _ rfl) rfl w_118 (hP _ rfl) dX7_count_135 ?_
      refine aw_il_n F 1 dX7_count_138 rfl rfl ?_
      refine aw_ic F dX7_count_139 ic_5 ?_
      refine aw_isub F dX7_count_140 ?_
      refine aw_iald F 8 11 (lo_s rfl) (hP _ rfl) rfl h.1 dX7_count_141 ?_
      replace h := h.2
      exact aw_iretX F T (Nat.le_of_ble_eq_true rfl) (Nat.le_of_ble_eq_true rfl) ⟨_, rfl, h⟩ dX7_count_142
    replace h := h.2
    by_cases c_15 : x1 = (7 : Int32)
    · replace h := h.1 c_15
      refine aw_tabI (tgt := 131) F dX7_count_1 (by rw [c_15]; decide) (by rw [c_15]; decide) (by rw [c_15]; rfl) (by decide) ?_
      refine aw_al_n F 0 dX7_count_131 rfl rfl ?_
      refine gr7_7 F (lo_s rfl) (hP _ rfl) rfl w_301 (hP 8 rfl) dX7_count_132 ?_
      refine gr4_10 F (lo_s rfl) (hP _ rfl) rfl w_118 (hP _ rfl) dX7_count_135 ?_
      refine aw_il_n F 1 dX7_count_138 rfl rfl ?_
      refine aw_ic F dX7_count_139 ic_5 ?_
      refine aw_isub F dX7_count_140 ?_
      refine aw_iald F 8 11 (lo_s rfl) (hP _ rfl) rfl h.1 dX7_count_141 ?_
      replace h := h.2
      exact aw_iretX F T (Nat.le_of_ble_eq_true rfl) (Nat.le_of_ble_eq_true rfl) ⟨_, rfl, h⟩ dX7_count_142
    replace h := h.2
    by_cases c_16 : x1 = (8 : Int32)
    · replace h := h.1 c_16
      refine aw_tabI (tgt := 131) F dX7_count_1 (by rw [c_16]; decide) (by rw [c_16]; decide) (by rw [c_16]; rfl) (by decide) ?_
      refine aw_al_n F 0 dX7_count_131 rfl rfl ?_
      refine gr7_7 F (lo_s rfl) (hP _ rfl) rfl w_301 (hP 8 rfl) dX7_count_132 ?_
      refine gr4_10 F (lo_s rfl) (hP _ rfl) rfl w_118 (hP _ rfl) dX7_count_135 ?_
      refine aw_il_n F 1 dX7_count_138 rfl rfl ?_
      refine aw_ic F dX7_count_139 ic_5 ?_
      refine aw_isub F dX7_count_140 ?_
      refine aw_iald F 8 11 (lo_s rfl) (hP _ rfl) rfl h.1 dX7_count_141 ?_
      replace h := h.2
      exact aw_iretX F T (Nat.le_of_ble_eq_true rfl) (Nat.le_of_ble_eq_true rfl) ⟨_, rfl, h⟩ dX7_count_142
    replace h := h.2
    by_cases c_17 : x1 = (9 : Int32)
    · replace h := h.1 c_17
      refine aw_tabI (tgt := 131) F dX7_count_1 (by rw [c_17]; decide) (by rw [c_17]; decide) (by rw [c_17]; rfl) (by decide) ?_
      refine aw_al_n F 0 dX7_count_131 rfl rfl ?_
      refine gr7_7 F (lo_s rfl) (hP _ rfl) rfl w_301 (hP 8 rfl) dX7_count_132 ?_
      refine gr4_10 F (lo_s rfl) (hP _ rfl) rfl w_118 (hP _ rfl) dX7_count_135 ?_
      refine aw_il_n F 1 dX7_count_138 rfl rfl ?_
      refine aw_ic F dX7_count_139 ic_5 ?_
      refine aw_isub F dX7_count_140 ?_
      refine aw_iald F 8 11 (lo_s rfl) (hP _ rfl) rfl h.1 dX7_count_141 ?_
      replace h := h.2
      exact aw_iretX F T (Nat.le_of_ble_eq_true rfl) (Nat.le_of_ble_eq_true rfl) ⟨_, rfl, h⟩ dX7_count_142
    replace h := h.2
    by_cases c_18 : x1 = (10 : Int32)
    · replace h := h.1 c_18
      refine aw_tabI (tgt := 131) F dX7_count_1 (by rw [c_18]; decide) (by rw [c_18]; decide) (by rw [c_18]; rfl) (by decide) ?_
      refine aw_al_n F 0 dX7_count_131 rfl rfl ?_
      refine gr7_7 F (lo_s rfl) (hP _ rfl) rfl w_301 (hP 8 rfl) dX7_count_132 ?_
      refine gr4_10 F (lo_s rfl) (hP _ rfl) rfl w_118 (hP _ rfl) dX7_count_135 ?_
      refine aw_il_n F 1 dX7_count_138 rfl rfl ?_
      refine aw_ic F dX7_count_139 ic_5 ?_
      refine aw_isub F dX7_count_140 ?_
      refine aw_iald F 8 11 (lo_s rfl) (hP _ rfl) rfl h.1 dX7_count_141 ?_
      replace h := h.2
      exact aw_iretX F T (Nat.le_of_ble_eq_true rfl) (Nat.le_of_ble_eq_true rfl) ⟨_, rfl, h⟩ dX7_count_142
    replace h := h.2
    by_cases c_19 : x1 = (11 : Int32)
    · replace h := h.1 c_19
      refine aw_tabI (tgt := 143) F dX7_count_1 (by rw [c_19]; decide) (by rw [c_19]; decide) (by rw [c_19]; rfl) (by decide) ?_
      refine aw_al_n F 0 dX7_count_143 rfl rfl ?_
      refine gr7_3 F (lo_s rfl) (hP _ rfl) rfl w_297 (hP 4 rfl) dX7_count_144 ?_
      refine gf0_2 F (lo_s rfl) (hP _ rfl) rfl w_156 dX7_count_147 ?_
      exact aw_iretX F T (Nat.le_of_ble_eq_true rfl) (Nat.le_of_ble_eq_true rfl) ⟨_, rfl, h⟩ dX7_count_150
    replace h := h.2
    by_cases c_20 : x1 = (12 : Int32)
    · replace h := h.1 c_20
      refine aw_tabI (tgt := 151) F dX7_count_1 (by rw [c_20]; decide) (by rw [c_20]; decide) (by rw [c_20]; rfl) (by decide) ?_
      refine aw_al_n F 0 dX7_count_151 rfl rfl ?_
      refine gr7_0 F (lo_s rfl) (hP _ rfl) rfl w_294 (hP 1 rfl) dX7_count_152 ?_
      refine gf6_1 F (lo_s rfl) (hP _ rfl) rfl w_41 dX7_count_155 ?_
      exact aw_iretX F T (Nat.le_of_ble_eq_true rfl) (Nat.le_of_ble_eq_true rfl) ⟨_, rfl, h⟩ dX7_count_158
    replace h := h.2
    by_cases c_21 : x1 = (13 : Int32)
    · replace h := h c_21
      refine aw_tabI (tgt := 159) F dX7_count_1 (by rw [c_21]; decide) (by rw [c_21]; decide) (by rw [c_21]; rfl) (by decide) ?_
      refine aw_al_n F 0 dX7_count_159 rfl rfl ?_
      refine aw_cVr (stk := []) F T.room [] (k_X7_likeness hP h) mv_X7_likeness w_635 cf7 (lo_s rfl) (hP _ rfl) rfl (by decide) rfl rfl (Nat.le_of_ble_eq_true rfl) ⟨(Nat.le_of_ble_eq_true rfl), (Nat.le_of_ble_eq_true rfl)⟩ ⟨(Nat.le_of_ble_eq_true rfl), (Nat.le_of_ble_eq_true rfl)⟩ dX7_count_160 (fun G_22 h => ?_)
      refine gr1_6 F (lo_s rfl) (hP _ rfl) rfl w_184 (hP _ rfl) dX7_count_163 ?_
      refine aw_al_n F 0 dX7_count_166 rfl rfl ?_
      refine gr7_7 F (lo_s rfl) (hP _ rfl) rfl w_301 (hP 8 rfl) dX7_count_167 ?_
      refine gf4_1 F (lo_s rfl) (hP _ rfl) rfl w_86 dX7_count_170 ?_
      refine aw_cSi (stk := []) F T.room [.ref (sdX X 6 7), .int (G_22 8 0 1)] (k_X7_bitsIn hP rfl rfl h) ms_X7_bitsIn w_626 rfl rfl (Nat.le_of_ble_eq_true rfl) ⟨(Nat.le_of_ble_eq_true rfl), (Nat.le_of_ble_eq_true rfl)⟩ ⟨(Nat.le_of_ble_eq_true rfl), (Nat.le_of_ble_eq_true rfl)⟩ dX7_count_173 (fun r_25 G_24 h => ?_)
      refine aw_ic F dX7_count_176 ic_2 ?_
      refine aw_idiv F dX7_count_177 (by decide) ?_
      exact aw_iretX F T (Nat.le_of_ble_eq_true rfl) (Nat.le_of_ble_eq_true rfl) ⟨_, rfl, h⟩ dX7_count_178
    exfalso
    have qc_2 := ne_ti c_2 (show (0 : Int32).toInt = 0 by decide)
    have qc_3 := ne_ti c_3 (show (1 : Int32).toInt = 1 by decide)
    have qc_6 := ne_ti c_6 (show (2 : Int32).toInt = 2 by decide)
    have qc_7 := ne_ti c_7 (show (3 : Int32).toInt = 3 by decide)
    have qc_10 := ne_ti c_10 (show (4 : Int32).toInt = 4 by decide)
    have qc_13 := ne_ti c_13 (show (5 : Int32).toInt = 5 by decide)
    have qc_14 := ne_ti c_14 (show (6 : Int32).toInt = 6 by decide)
    have qc_15 := ne_ti c_15 (show (7 : Int32).toInt = 7 by decide)
    have qc_16 := ne_ti c_16 (show (8 : Int32).toInt = 8 by decide)
    have qc_17 := ne_ti c_17 (show (9 : Int32).toInt = 9 by decide)
    have qc_18 := ne_ti c_18 (show (10 : Int32).toInt = 10 by decide)
    have qc_19 := ne_ti c_19 (show (11 : Int32).toInt = 11 by decide)
    have qc_20 := ne_ti c_20 (show (12 : Int32).toInt = 12 by decide)
    have qc_21 := ne_ti c_21 (show (13 : Int32).toInt = 13 by decide)
    omega
-- X7_mark (height 7)
def wp_X7_mark (post : Int32 → GH → Prop) (px : Nat → GH → Prop) (x1 x2 : Int32) (G : GH) : Prop :=
  wp_X7_needMark (fun (G_1 : GH) => (((x2.toInt < 0 ∨ 6 < x2.toInt) → px 0 G_1) ∧ (x2 = (0 : Int32) → (vp_in x1 13 ∧ post (G_1 8 3 x1.toNatClampNeg) G_1)) ∧ (x2 = (1 : Int32) → (vp_in x1 13 ∧ post (G_1 8 4 x1.toNatClampNeg) G_1)) ∧ (x2 = (2 : Int32) → (vp_in x1 13 ∧ post (G_1 8 7 x1.toNatClampNeg) G_1)) ∧ (x2 = (3 : Int32) → (vp_in x1 13 ∧ post (G_1 8 5 x1.toNatClampNeg) G_1)) ∧ (x2 = (4 : Int32) → wp_X7_likeness (fun (G_9 : GH) => (vp_in x1 13 ∧ post (G_9 6 2 x1.toNatClampNeg) G_9)) G_1) ∧ (x2 = (5 : Int32) → wp_X7_likeness (fun (G_12 : GH) => wp_X1_fieldOf (fun (r_15 : Int32) (G_14 : GH) => post r_15 G_14) 6 x1 G_12) G_1) ∧ (x2 = (6 : Int32) → wp_X7_likeness (fun (G_17 : GH) => wp_X1_crowdedBy (fun (r_20 : Int32) (G_19 : GH) => post r_20 G_19) 6 8 x1 G_17) G_1))) px x1 G
set_option maxRecDepth 100000 in
set_option maxHeartbeats 4000000 in
theorem k_X7_mark {l : Launch} {E : Ev} {P : Nat → Prop} {sd : Nat → Nat → Nat} {G : GH} {post : Int32 → GH → Prop} {px : Nat → GH → Prop} {x1 x2 : Int32} (hl0 : l.stackTraces = false) (hPP : ∀ o, stt o = true → P o) (h : wp_X7_mark post px x1 x2 G) : CtX l yX7_mark cX7_mark 3 (some .int) 7 2 12 E P sd G [.ref (sd 0 0), .int x1, .int x2] (pI post) px := by
  refine ctx_of hl0 (own := "MarkField") (by decide) rfl (Nat.le_of_ble_eq_true rfl) hPP (fun X F T el eP es => ?_)
  subst el; subst eP; subst es
  have hP := F.P
  change AW E X 3 0 [(0, .ref (sdX X 0 0)), (1, .int x1), (2, .int x2)] [] G 0 0
  refine aw_al_n F 0 dX7_mark_0 rfl rfl ?_
  refine aw_il_n F 1 dX7_mark_1 rfl rfl ?_
  refine aw_cVXv (stk := []) F T [.int x1] (k_X7_needMark T.tr hP h) mv_X7_needMark w_752 cf7 (lo_s rfl) (hP _ rfl) rfl (by decide) rfl rfl (Nat.le_of_ble_eq_true rfl) ⟨(Nat.le_of_ble_eq_true rfl), (Nat.le_of_ble_eq_true rfl)⟩ ⟨(Nat.le_of_ble_eq_true rfl), (Nat.le_of_ble_eq_true rfl)⟩ ⟨rfl, rfl⟩ dX7_mark_2 (fun _ _ q => q) (fun G_1 h => ?_)
  refine aw_il_n F 2 dX7_mark_5 rfl rfl ?_
  by_cases c_3 : x2.toInt < 0 ∨ 6 < x2.toInt
  · replace h := h.1 c_3
    refine aw_tabO (tgt := 120) F dX7_mark_6 c_3 (by decide) ?_
    exact aw_thr F T 0 (by decide) 1 (by decide) rfl false (Nat.le_of_ble_eq_true rfl) (Nat.le_of_ble_eq_true rfl) (Nat.le_of_ble_eq_true rfl) (Nat.le_of_ble_eq_true rfl) h dX7_mark_120 dX7_mark_123 dX7_mark_124 dX7_mark_126 dX7_mark_129
  · replace h := h.2
    by_cases c_4 : x2 = (0 : Int32)
    · replace h := h.1 c_4
      refine aw_tabI (tgt := 48) F dX7_mark_6 (by rw [c_4]; decide) (by rw [c_4]; decide) (by rw [c_4]; rfl) (by decide) ?_
      refine aw_al_n F 0 dX7_mark_48 rfl rfl ?_
      refine gr7_7 F (lo_s rfl) (hP _ rfl) rfl w_301 (hP 8 rfl) dX7_mark_49 ?_
      refine gr4_2 F (lo_s rfl) (hP _ rfl) rfl w_90 (hP _ rfl) dX7_mark_52 ?_
      refine aw_il_n F 1 dX7_mark_55 rfl rfl ?_
      refine aw_iald F 8 3 (lo_s rfl) (hP _ rfl) rfl h.1 dX7_mark_56 ?_
      replace h := h.2
      exact aw_iretX F T (Nat.le_of_ble_eq_true rfl) (Nat.le_of_ble_eq_true rfl) ⟨_, rfl, h⟩ dX7_mark_57
    replace h := h.2
    by_cases c_5 : x2 = (1 : Int32)
    · replace h := h.1 c_5
      refine aw_tabI (tgt := 58) F dX7_mark_6 (by rw [c_5]; decide) (by rw [c_5]; decide) (by rw [c_5]; rfl) (by decide) ?_
      refine aw_al_n F 0 dX7_mark_58 rfl rfl ?_
      refine gr7_7 F (lo_s rfl) (hP _ rfl) rfl w_301 (hP 8 rfl) dX7_mark_59 ?_
      refine gr4_3 F (lo_s rfl) (hP _ rfl) rfl w_93 (hP _ rfl) dX7_mark_62 ?_
      refine aw_il_n F 1 dX7_mark_65 rfl rfl ?_
      refine aw_iald F 8 4 (lo_s rfl) (hP _ rfl) rfl h.1 dX7_mark_66 ?_
      replace h := h.2
      exact aw_iretX F T (Nat.le_of_ble_eq_true rfl) (Nat.le_of_ble_eq_true rfl) ⟨_, rfl, h⟩ dX7_mark_67
    replace h := h.2
    by_cases c_6 : x2 = (2 : Int32)
    · replace h := h.1 c_6
      refine aw_tabI (tgt := 68) F dX7_mark_6 (by rw [c_6]; decide) (by rw [c_6]; decide) (by rw [c_6]; rfl) (by decide) ?_
      refine aw_al_n F 0 dX7_mark_68 rfl rfl ?_
      refine gr7_7 F (lo_s rfl) (hP _ rfl) rfl w_301 (hP 8 rfl) dX7_mark_69 ?_
      refine gr4_6 F (lo_s rfl) (hP _ rfl) rfl w_105 (hP _ rfl) dX7_mark_72 ?_
      refine aw_il_n F 1 dX7_mark_75 rfl rfl ?_
      refine aw_iald F 8 7 (lo_s rfl) (hP _ rfl) rfl h.1 dX7_mark_76 ?_
      replace h := h.2
      exact aw_iretX F T (Nat.le_of_ble_eq_true rfl) (Nat.le_of_ble_eq_true rfl) ⟨_, rfl, h⟩ dX7_mark_77
    replace h := h.2
    by_cases c_7 : x2 = (3 : Int32)
    · replace h := h.1 c_7
      refine aw_tabI (tgt := 78) F dX7_mark_6 (by rw [c_7]; decide) (by rw [c_7]; decide) (by rw [c_7]; rfl) (by decide) ?_
      refine aw_al_n F 0 dX7_mark_78 rfl rfl ?_
      refine gr7_7 F (lo_s rfl) (hP _ rfl) rfl w_301 (hP 8 rfl) dX7_mark_79 ?_
      refine gr4_4 F (lo_s rfl) (hP _ rfl) rfl w_98 (hP _ rfl) dX7_mark_82 ?_
      refine aw_il_n F 1 dX7_mark_85 rfl rfl ?_
      refine aw_iald F 8 5 (lo_s rfl) (hP _ rfl) rfl h.1 dX7_mark_86 ?_
      replace h := h.2
      exact aw_iretX F T (Nat.le_of_ble_eq_true rfl) (Nat.le_of_ble_eq_true rfl) ⟨_, rfl, h⟩ dX7_mark_87
    replace h := h.2
    by_cases c_8 : x2 = (4 : Int32)
    · replace h := h.1 c_8
      refine aw_tabI (tgt := 88) F dX7_mark_6 (by rw [c_8]; decide) (by rw [c_8]; decide) (by rw [c_8]; rfl) (by decide) ?_
      refine aw_al_n F 0 dX7_mark_88 rfl rfl ?_
      refine aw_cVr (stk := []) F T.room [] (k_X7_likeness hP h) mv_X7_likeness w_635 cf7 (lo_s rfl) (hP _ rfl) rfl (by decide) rfl rfl (Nat.le_of_ble_eq_true rfl) ⟨(Nat.le_of_ble_eq_true rfl), (Nat.le_of_ble_eq_true rfl)⟩ ⟨(Nat.le_of_ble_eq_true rfl), (Nat.le_of_ble_eq_true rfl)⟩ dX7_mark_89 (fun G_9 h => ?_)
      refine gr1_1 F (lo_s rfl) (hP _ rfl) rfl w_173 (hP _ rfl) dX7_mark_92 ?_
      refine aw_il_n F 1 dX7_mark_95 rfl rfl ?_
      refine aw_iald F 6 2 (lo_s rfl) (hP _ rfl) rfl h.1 dX7_mark_96 ?_
      replace h := h.2
      exact aw_iretX F T (Nat.le_of_ble_eq_true rfl) (Nat.le_of_ble_eq_true rfl) ⟨_, rfl, h⟩ dX7_mark_97
    replace h := h.2
    by_cases c_11 : x2 = (5 : Int32)
    · replace h := h.1 c_11
      refine aw_tabI (tgt := 98) F dX7_mark_6 (by rw [c_11]; decide) (by rw [c_11]; decide) (by rw [c_11]; rfl) (by decide) ?_
      refine aw_al_n F 0 dX7_mark_98 rfl rfl ?_
      refine aw_cVr (stk := []) F T.room [] (k_X7_likeness hP h) mv_X7_likeness w_635 cf7 (lo_s rfl) (hP _ rfl) rfl (by decide) rfl rfl (Nat.le_of_ble_eq_true rfl) ⟨(Nat.le_of_ble_eq_true rfl), (Nat.le_of_ble_eq_true rfl)⟩ ⟨(Nat.le_of_ble_eq_true rfl), (Nat.le_of_ble_eq_true rfl)⟩ dX7_mark_99 (fun G_12 h => ?_)
      refine aw_il_n F 1 dX7_mark_102 rfl rfl ?_
      refine aw_cVi (stk := []) F T.room [.int x1] (k_X1_fieldOf hP rfl rfl h) mv_X1_fieldOf w_761 cf1 (lo_s rfl) (hP _ rfl) rfl (by decide) rfl rfl (Nat.le_of_ble_eq_true rfl) ⟨(Nat.le_of_ble_eq_true rfl), (Nat.le_of_ble_eq_true rfl)⟩ ⟨(Nat.le_of_ble_eq_true rfl), (Nat.le_of_ble_eq_true rfl)⟩ dX7_mark_103 (fun r_15 G_14 h => ?_)
      exact aw_iretX F T (Nat.le_of_ble_eq_true rfl) (Nat.le_of_ble_eq_true rfl) ⟨_, rfl, h⟩ dX7_mark_106
    replace h := h.2
    by_cases c_16 : x2 = (6 : Int32)
    · replace h := h c_16
      refine aw_tabI (tgt := 107) F dX7_mark_6 (by rw [c_16]; decide) (by rw [c_16]; decide) (by rw [c_16]; rfl) (by decide) ?_
      refine aw_al_n F 0 dX7_mark_107 rfl rfl ?_
      refine aw_cVr (stk := []) F T.room [] (k_X7_likeness hP h) mv_X7_likeness w_635 cf7 (lo_s rfl) (hP _ rfl) rfl (by decide) rfl rfl (Nat.le_of_ble_eq_true rfl) ⟨(Nat.le_of_ble_eq_true rfl), (Nat.le_of_ble_eq_true rfl)⟩ ⟨(Nat.le_of_ble_eq_true rfl), (Nat.le_of_ble_eq_true rfl)⟩ dX7_mark_108 (fun G_17 h => ?_)
      refine aw_al_n F 0 dX7_mark_111 rfl rfl ?_
      refine gr7_7 F (lo_s rfl) (hP _ rfl) rfl w_301 (hP 8 rfl) dX7_mark_112 ?_
      refine aw_il_n F 1 dX7_mark_115 rfl rfl ?_
      refine aw_cVi (stk := []) F T.room [.ref (sdX X 8 0), .int x1] (k_X1_crowdedBy hP rfl rfl rfl rfl h) mv_X1_crowdedBy w_762 cf1 (lo_s rfl) (hP _ rfl) rfl (by decide) rfl rfl (Nat.le_of_ble_eq_true rfl) ⟨(Nat.le_of_ble_eq_true rfl), (Nat.le_of_ble_eq_true rfl)⟩ ⟨(Nat.le_of_ble_eq_true rfl), (Nat.le_of_ble_eq_true rfl)⟩ dX7_mark_116 (fun r_20 G_19 h => ?_)
      exact aw_iretX F T (Nat.le_of_ble_eq_true rfl) (Nat.le_of_ble_eq_true rfl) ⟨_, rfl, h⟩ dX7_mark_119
    exfalso
    have qc_4 := ne_ti c_4 (show (0 : Int32).toInt = 0 by decide)
    have qc_5 := ne_ti c_5 (show (1 : Int32).toInt = 1 by decide)
    have qc_6 := ne_ti c_6 (show (2 : Int32).toInt = 2 by decide)
    have qc_7 := ne_ti c_7 (show (3 : Int32).toInt = 3 by decide)
    have qc_8 := ne_ti c_8 (show (4 : Int32).toInt = 4 by decide)
    have qc_11 := ne_ti c_11 (show (5 : Int32).toInt = 5 by decide)
    have qc_16 := ne_ti c_16 (show (6 : Int32).toInt = 6 by decide)
    omega
-- X7_letter (height 7)
def wp_X7_letter (post : Int32 → GH → Prop) (px : Nat → GH → Prop) (x1 x2 x3 : Int32) (G : GH) : Prop :=
  wp_X7_needMark (fun (G_1 : GH) => ((0 ≤ x2 → ((x3 = 0 → (vp_in x1 13 ∧ (((G_1 8 5 x1.toNatClampNeg) ≤ x2 → post (-1 : Int32) G_1) ∧ (¬ (G_1 8 5 x1.toNatClampNeg) ≤ x2 → (vp_in ((x1 * (10 : Int32)) + x2) 130 ∧ post ((nb (G_1 8 6 ((x1 * (10 : Int32)) + x2).toNatClampNeg)) + (1 : Int32)) G_1))))) ∧ (¬ x3 = 0 → wp_X7_likeness (fun (G_6 : GH) => (vp_in x1 13 ∧ (((G_6 6 2 x1.toNatClampNeg) ≤ x2 → post (-1 : Int32) G_6) ∧ (¬ (G_6 6 2 x1.toNatClampNeg) ≤ x2 → (vp_in ((x1 * (20 : Int32)) + x2) 260 ∧ post (nb (G_6 6 1 ((x1 * (20 : Int32)) + x2).toNatClampNeg)) G_6))))) G_1))) ∧ (¬ 0 ≤ x2 → px 0 G_1))) px x1 G
set_option maxRecDepth 100000 in
set_option maxHeartbeats 4000000 in
theorem k_X7_letter {l : Launch} {E : Ev} {P : Nat → Prop} {sd : Nat → Nat → Nat} {G : GH} {post : Int32 → GH → Prop} {px : Nat → GH → Prop} {x1 x2 x3 : Int32} (hl0 : l.stackTraces = false) (hPP : ∀ o, stt o = true → P o) (h : wp_X7_letter post px x1 x2 x3 G) : CtX l yX7_letter cX7_letter 5 (some .int) 7 2 12 E P sd G [.ref (sd 0 0), .int x1, .int x2, .int x3] (pI post) px := by
  refine ctx_of hl0 (own := "MarkField") (by decide) rfl (Nat.le_of_ble_eq_true rfl) hPP (fun X F T el eP es => ?_)
  subst el; subst eP; subst es
  have hP := F.P
  change AW E X 5 0 [(0, .ref (sdX X 0 0)), (1, .int x1), (2, .int x2), (3, .int x3)] [] G 0 0
  refine aw_al_n F 0 dX7_letter_0 rfl rfl ?_
  refine aw_il_n F 1 dX7_letter_1 rfl rfl ?_
  refine aw_cVXv (stk := []) F T [.int x1] (k_X7_needMark T.tr hP h) mv_X7_needMark w_752 cf7 (lo_s rfl) (hP _ rfl) rfl (by decide) rfl rfl (Nat.le_of_ble_eq_true rfl) ⟨(Nat.le_of_ble_eq_true rfl), (Nat.le_of_ble_eq_true rfl)⟩ ⟨(Nat.le_of_ble_eq_true rfl), (Nat.le_of_ble_eq_true rfl)⟩ ⟨rfl, rfl⟩ dX7_letter_2 (fun _ _ q => q) (fun G_1 h => ?_)
  refine aw_il_n F 2 dX7_letter_5 rfl rfl ?_
  refine aw_if_ge (tgt := 19) F dX7_letter_6 (by decide) (fun c_3 => ?_) (fun c_3 => ?_)
  · replace h := h.1 c_3
    refine aw_il_n F 3 dX7_letter_19 rfl rfl ?_
    refine aw_if_eq (tgt := 57) F dX7_letter_20 (by decide) (fun c_4 => ?_) (fun c_4 => ?_)
    · replace h := h.1 c_4
      refine aw_il_n F 2 dX7_letter_57 rfl rfl ?_
      refine aw_al_n F 0 dX7_letter_58 rfl rfl ?_
      refine gr7_7 F (lo_s rfl) (hP _ rfl) rfl w_301 (hP 8 rfl) dX7_letter_59 ?_
      refine gr4_4 F (lo_s rfl) (hP _ rfl) rfl w_98 (hP _ rfl) dX7_letter_62 ?_
      refine aw_il_n F 1 dX7_letter_65 rfl rfl ?_
      refine aw_iald F 8 5 (lo_s rfl) (hP _ rfl) rfl h.1 dX7_letter_66 ?_
      replace h := h.2
      refine aw_icmp_ge (tgt := 89) F dX7_letter_67 (by decide) (fun c_5 => ?_) (fun c_5 => ?_)
      · replace h := h.1 c_5
        refine aw_ic F dX7_letter_89 ic_m1 ?_
        exact aw_iretX F T (Nat.le_of_ble_eq_true rfl) (Nat.le_of_ble_eq_true rfl) ⟨_, rfl, h⟩ dX7_letter_90
      · replace h := h.2 c_5
        refine aw_al_n F 0 dX7_letter_70 rfl rfl ?_
        refine gr7_7 F (lo_s rfl) (hP _ rfl) rfl w_301 (hP 8 rfl) dX7_letter_71 ?_
        refine gr4_5 F (lo_s rfl) (hP _ rfl) rfl w_103 (hP _ rfl) dX7_letter_74 ?_
        refine aw_il_n F 1 dX7_letter_77 rfl rfl ?_
        refine aw_bi F dX7_letter_78 bi_10 ?_
        refine aw_imul F dX7_letter_80 ?_
        refine aw_il_n F 2 dX7_letter_81 rfl rfl ?_
        refine aw_iadd F dX7_letter_82 ?_
        refine aw_bald F 8 6 (lo_s rfl) (hP _ rfl) rfl h.1 dX7_letter_83 ?_
        replace h := h.2
        refine aw_ic F dX7_letter_84 ic_1 ?_
        refine aw_iadd F dX7_letter_85 ?_
        refine aw_go (tgt := 90) F dX7_letter_86 (by decide) ?_
        exact aw_iretX F T (Nat.le_of_ble_eq_true rfl) (Nat.le_of_ble_eq_true rfl) ⟨_, rfl, h⟩ dX7_letter_90
    · replace h := h.2 c_4
      refine aw_al_n F 0 dX7_letter_23 rfl rfl ?_
      refine aw_cVr (stk := []) F T.room [] (k_X7_likeness hP h) mv_X7_likeness w_635 cf7 (lo_s rfl) (hP _ rfl) rfl (by decide) rfl rfl (Nat.le_of_ble_eq_true rfl) ⟨(Nat.le_of_ble_eq_true rfl), (Nat.le_of_ble_eq_true rfl)⟩ ⟨(Nat.le_of_ble_eq_true rfl), (Nat.le_of_ble_eq_true rfl)⟩ dX7_letter_24 (fun G_6 h => ?_)
      refine aw_as (lv1 := [(4, .ref (sdX X 6 0)), (0, .ref (sdX X 0 0)), (1, .int x1), (2, .int x2), (3, .int x3)]) F dX7_letter_27 (by decide) rfl ?_
      refine aw_il_n F 3 dX7_letter_29 rfl rfl ?_
      refine aw_al F 0 dX7_letter_30 rfl ?_
      refine gr1_1 F (lo_s rfl) (hP _ rfl) rfl w_173 (hP _ rfl) dX7_letter_32 ?_
      refine aw_il_n F 2 dX7_letter_35 rfl rfl ?_
      refine aw_iald F 6 2 (lo_s rfl) (hP _ rfl) rfl h.1 dX7_letter_36 ?_
      replace h := h.2
      refine aw_icmp_ge (tgt := 55) F dX7_letter_37 (by decide) (fun c_8 => ?_) (fun c_8 => ?_)
      · replace h := h.1 c_8
        refine aw_ic F dX7_letter_55 ic_m1 ?_
        exact aw_iretX F T (Nat.le_of_ble_eq_true rfl) (Nat.le_of_ble_eq_true rfl) ⟨_, rfl, h⟩ dX7_letter_56
      · replace h := h.2 c_8
        refine aw_al F 0 dX7_letter_40 rfl ?_
        refine gr1_0 F (lo_s rfl) (hP _ rfl) rfl w_171 (hP _ rfl) dX7_letter_42 ?_
        refine aw_il_n F 2 dX7_letter_45 rfl rfl ?_
        refine aw_bi F dX7_letter_46 bi_20 ?_
        refine aw_imul F dX7_letter_48 ?_
        refine aw_il_n F 3 dX7_letter_49 rfl rfl ?_
        refine aw_iadd F dX7_letter_50 ?_
        refine aw_bald F 6 1 (lo_s rfl) (hP _ rfl) rfl h.1 dX7_letter_51 ?_
        replace h := h.2
        refine aw_go (tgt := 56) F dX7_letter_52 (by decide) ?_
        exact aw_iretX F T (Nat.le_of_ble_eq_true rfl) (Nat.le_of_ble_eq_true rfl) ⟨_, rfl, h⟩ dX7_letter_56
  · replace h := h.2 c_3
    exact aw_thr F T 0 (by decide) 2 (by decide) rfl false (Nat.le_of_ble_eq_true rfl) (Nat.le_of_ble_eq_true rfl) (Nat.le_of_ble_eq_true rfl) (Nat.le_of_ble_eq_true rfl) h dX7_letter_9 dX7_letter_12 dX7_letter_13 dX7_letter_15 dX7_letter_18
-- X7_used (height 7)
def j_X7_used_22 (post : Int32 → GH → Prop) (px : Nat → GH → Prop) (G : GH) : Prop :=
  px 0 G
def wp_X7_used (post : Int32 → GH → Prop) (px : Nat → GH → Prop) (x1 x2 x3 : Int32) (G : GH) : Prop :=
  wp_X7_needMark (fun (G_1 : GH) => ((x2 < 0 → j_X7_used_22 post px G_1) ∧ (¬ x2 < 0 → (vp_in x1 13 ∧ ((x2 < (G_1 8 7 x1.toNatClampNeg) → wp_X7_needWhat (fun (G_5 : GH) => wp_X4_useAt (fun (r_8 : Int32) (G_7 : GH) => (vp_in (r_8 + x3) 468 ∧ post (G_7 8 8 (r_8 + x3).toNatClampNeg) G_7)) 8 x1 x2 G_5) px x3 (2 : Int32) G_1) ∧ (¬ x2 < (G_1 8 7 x1.toNatClampNeg) → j_X7_used_22 post px G_1)))))) px x1 G
set_option maxRecDepth 100000 in
set_option maxHeartbeats 4000000 in
theorem kj_X7_used_22 {E : Ev} {X : Cx} {post : Int32 → GH → Prop} {px : Nat → GH → Prop} {G : GH} (F : Fx E X "MarkField" cX7_used 4) (T : RTX E X 7 2 12 (some .int) (pI post) px) (h : j_X7_used_22 post px G) : AW E X 4 22 [] [] G 1 6 := by
  have hP := F.P
  exact aw_thr F T 0 (by decide) 3 (by decide) rfl false (Nat.le_of_ble_eq_true rfl) (Nat.le_of_ble_eq_true rfl) (Nat.le_of_ble_eq_true rfl) (Nat.le_of_ble_eq_true rfl) h dX7_used_22 dX7_used_25 dX7_used_26 dX7_used_28 dX7_used_31
set_option maxRecDepth 100000 in
set_option maxHeartbeats 4000000 in
theorem k_X7_used {l : Launch} {E : Ev} {P : Nat → Prop} {sd : Nat → Nat → Nat} {G : GH} {post : Int32 → GH → Prop} {px : Nat → GH → Prop} {x1 x2 x3 : Int32} (hl0 : l.stackTraces = false) (hPP : ∀ o, stt o = true → P o) (h : wp_X7_used post px x1 x2 x3 G) : CtX l yX7_used cX7_used 4 (some .int) 7 2 12 E P sd G [.ref (sd 0 0), .int x1, .int x2, .int x3] (pI post) px := by
  refine ctx_of hl0 (own := "MarkField") (by decide) rfl (Nat.le_of_ble_eq_true rfl) hPP (fun X F T el eP es => ?_)
  subst el; subst eP; subst es
  have hP := F.P
  change AW E X 4 0 [(0, .ref (sdX X 0 0)), (1, .int x1), (2, .int x2), (3, .int x3)] [] G 0 0
  refine aw_al_n F 0 dX7_used_0 rfl rfl ?_
  refine aw_il_n F 1 dX7_used_1 rfl rfl ?_
  refine aw_cVXv (stk := []) F T [.int x1] (k_X7_needMark T.tr hP h) mv_X7_needMark w_752 cf7 (lo_s rfl) (hP _ rfl) rfl (by decide) rfl rfl (Nat.le_of_ble_eq_true rfl) ⟨(Nat.le_of_ble_eq_true rfl), (Nat.le_of_ble_eq_true rfl)⟩ ⟨(Nat.le_of_ble_eq_true rfl), (Nat.le_of_ble_eq_true rfl)⟩ ⟨rfl, rfl⟩ dX7_used_2 (fun _ _ q => q) (fun G_1 h => ?_)
  refine aw_il_n F 2 dX7_used_5 rfl rfl ?_
  refine aw_if_lt (tgt := 22) F dX7_used_6 (by decide) (fun c_3 => ?_) (fun c_3 => ?_)
  · replace h := h.1 c_3
    refine aw_sub [] rfl ?_
    exact kj_X7_used_22 F T h
  · replace h := h.2 c_3
    refine aw_il_n F 2 dX7_used_9 rfl rfl ?_
    refine aw_al_n F 0 dX7_used_10 rfl rfl ?_
    refine gr7_7 F (lo_s rfl) (hP _ rfl) rfl w_301 (hP 8 rfl) dX7_used_11 ?_
    refine gr4_6 F (lo_s rfl) (hP _ rfl) rfl w_105 (hP _ rfl) dX7_used_14 ?_
    refine aw_il_n F 1 dX7_used_17 rfl rfl ?_
    refine aw_iald F 8 7 (lo_s rfl) (hP _ rfl) rfl h.1 dX7_used_18 ?_
    replace h := h.2
    refine aw_icmp_lt (tgt := 32) F dX7_used_19 (by decide) (fun c_4 => ?_) (fun c_4 => ?_)
    · replace h := h.1 c_4
      refine aw_il_n F 3 dX7_used_32 rfl rfl ?_
      refine aw_ic F dX7_used_33 ic_2 ?_
      refine aw_cSXv (stk := []) F T [.int x3, .int (2 : Int32)] (k_X7_needWhat T.tr hP h) ms_X7_needWhat w_780 rfl rfl (Nat.le_of_ble_eq_true rfl) ⟨(Nat.le_of_ble_eq_true rfl), (Nat.le_of_ble_eq_true rfl)⟩ ⟨(Nat.le_of_ble_eq_true rfl), (Nat.le_of_ble_eq_true rfl)⟩ ⟨rfl, rfl⟩ dX7_used_34 (fun _ _ q => q) (fun G_5 h => ?_)
      refine aw_al_n F 0 dX7_used_37 rfl rfl ?_
      refine gr7_7 F (lo_s rfl) (hP _ rfl) rfl w_301 (hP 8 rfl) dX7_used_38 ?_
      refine gr4_7 F (lo_s rfl) (hP _ rfl) rfl w_109 (hP _ rfl) dX7_used_41 ?_
      refine aw_al_n F 0 dX7_used_44 rfl rfl ?_
      refine gr7_7 F (lo_s rfl) (hP _ rfl) rfl w_301 (hP 8 rfl) dX7_used_45 ?_
      refine aw_il_n F 1 dX7_used_48 rfl rfl ?_
      refine aw_il_n F 2 dX7_used_49 rfl rfl ?_
      refine aw_cVi (stk := [.ref (sdX X 8 8)]) F T.room [.int x1, .int x2] (k_X4_useAt hP rfl rfl h) mv_X4_useAt w_784 cf4 (lo_s rfl) (hP _ rfl) rfl (by decide) rfl rfl (Nat.le_of_ble_eq_true rfl) ⟨(Nat.le_of_ble_eq_true rfl), (Nat.le_of_ble_eq_true rfl)⟩ ⟨(Nat.le_of_ble_eq_true rfl), (Nat.le_of_ble_eq_true rfl)⟩ dX7_used_50 (fun r_8 G_7 h => ?_)
      refine aw_il_n F 3 dX7_used_53 rfl rfl ?_
      refine aw_iadd F dX7_used_54 ?_
      refine aw_iald F 8 8 (lo_s rfl) (hP _ rfl) rfl h.1 dX7_used_55 ?_
      replace h := h.2
      exact aw_iretX F T (Nat.le_of_ble_eq_true rfl) (Nat.le_of_ble_eq_true rfl) ⟨_, rfl, h⟩ dX7_used_56
    · replace h := h.2 c_4
      refine aw_sub [] rfl ?_
      exact kj_X7_used_22 F T h
-- X7_two (height 7)
def wp_X7_two (post : Int32 → GH → Prop) (px : Nat → GH → Prop) (x1 x2 x3 : Int32) (G : GH) : Prop :=
  wp_X7_needCouple (fun (G_1 : GH) => wp_X7_needWhat (fun (G_3 : GH) => wp_X7_likeness (fun (G_5 : GH) => (((x3.toInt < 0 ∨ 5 < x3.toInt) → (vp_in x1 13 ∧ post (((G_5 8 9 x1.toNatClampNeg) >>> (x2 &&& 31)) &&& (1 : Int32)) G_5)) ∧ (x3 = (0 : Int32) → wp_X1_pair (fun (r_10 : Int32) (G_9 : GH) => (vp_in r_10 169 ∧ post (G_9 6 3 r_10.toNatClampNeg) G_9)) x1 x2 G_5) ∧ (x3 = (1 : Int32) → wp_X1_pair (fun (r_13 : Int32) (G_12 : GH) => (vp_in r_13 169 ∧ post (G_12 6 4 r_13.toNatClampNeg) G_12)) x1 x2 G_5) ∧ (x3 = (2 : Int32) → wp_X1_ofNames (fun (r_16 : Int32) (G_15 : GH) => post r_16 G_15) 6 8 x1 x2 G_5) ∧ (x3 = (3 : Int32) → wp_X1_pair (fun (r_19 : Int32) (G_18 : GH) => (vp_in r_19 169 ∧ post (G_18 6 5 r_19.toNatClampNeg) G_18)) x1 x2 G_5) ∧ (x3 = (4 : Int32) → wp_X1_isNear (fun (b_22 : Bool) (G_21 : GH) => ((b_22 = false → post (0 : Int32) G_21) ∧ (b_22 = true → post (1 : Int32) G_21))) 6 8 x1 x2 G_5) ∧ (x3 = (5 : Int32) → (vp_in x1 13 ∧ post (((G_5 6 7 x1.toNatClampNeg) >>> (x2 &&& 31)) &&& (1 : Int32)) G_5)))) G_3) px x3 (6 : Int32) G_1) px x1 x2 G
set_option maxRecDepth 100000 in
set_option maxHeartbeats 4000000 in
theorem k_X7_two {l : Launch} {E : Ev} {P : Nat → Prop} {sd : Nat → Nat → Nat} {G : GH} {post : Int32 → GH → Prop} {px : Nat → GH → Prop} {x1 x2 x3 : Int32} (hl0 : l.stackTraces = false) (hPP : ∀ o, stt o = true → P o) (h : wp_X7_two post px x1 x2 x3 G) : CtX l yX7_two cX7_two 5 (some .int) 7 2 12 E P sd G [.ref (sd 0 0), .int x1, .int x2, .int x3] (pI post) px := by
  refine ctx_of hl0 (own := "MarkField") (by decide) rfl (Nat.le_of_ble_eq_true rfl) hPP (fun X F T el eP es => ?_)
  subst el; subst eP; subst es
  have hP := F.P
  change AW E X 5 0 [(0, .ref (sdX X 0 0)), (1, .int x1), (2, .int x2), (3, .int x3)] [] G 0 0
  refine aw_al_n F 0 dX7_two_0 rfl rfl ?_
  refine aw_il_n F 1 dX7_two_1 rfl rfl ?_
  refine aw_il_n F 2 dX7_two_2 rfl rfl ?_
  refine aw_cVXv (stk := []) F T [.int x1, .int x2] (k_X7_needCouple T.tr hP h) mv_X7_needCouple w_792 cf7 (lo_s rfl) (hP _ rfl) rfl (by decide) rfl rfl (Nat.le_of_ble_eq_true rfl) ⟨(Nat.le_of_ble_eq_true rfl), (Nat.le_of_ble_eq_true rfl)⟩ ⟨(Nat.le_of_ble_eq_true rfl), (Nat.le_of_ble_eq_true rfl)⟩ ⟨rfl, rfl⟩ dX7_two_3 (fun _ _ q => q) (fun G_1 h => ?_)
  refine aw_il_n F 3 dX7_two_6 rfl rfl ?_
  refine aw_bi F dX7_two_7 bi_6 ?_
  refine aw_cSXv (stk := []) F T [.int x3, .int (6 : Int32)] (k_X7_needWhat T.tr hP h) ms_X7_needWhat w_780 rfl rfl (Nat.le_of_ble_eq_true rfl) ⟨(Nat.le_of_ble_eq_true rfl), (Nat.le_of_ble_eq_true rfl)⟩ ⟨(Nat.le_of_ble_eq_true rfl), (Nat.le_of_ble_eq_true rfl)⟩ ⟨rfl, rfl⟩ dX7_two_9 (fun _ _ q => q) (fun G_3 h => ?_)
  refine aw_al_n F 0 dX7_two_12 rfl rfl ?_
  refine aw_cVr (stk := []) F T.room [] (k_X7_likeness hP h) mv_X7_likeness w_635 cf7 (lo_s rfl) (hP _ rfl) rfl (by decide) rfl rfl (Nat.le_of_ble_eq_true rfl) ⟨(Nat.le_of_ble_eq_true rfl), (Nat.le_of_ble_eq_true rfl)⟩ ⟨(Nat.le_of_ble_eq_true rfl), (Nat.le_of_ble_eq_true rfl)⟩ dX7_two_13 (fun G_5 h => ?_)
  refine aw_as (lv1 := [(4, .ref (sdX X 6 0)), (0, .ref (sdX X 0 0)), (1, .int x1), (2, .int x2), (3, .int x3)]) F dX7_two_16 (by decide) rfl ?_
  refine aw_il_n F 4 dX7_two_18 rfl rfl ?_
  by_cases c_7 : x3.toInt < 0 ∨ 5 < x3.toInt
  · replace h := h.1 c_7
    refine aw_tabO (tgt := 136) F dX7_two_19 c_7 (by decide) ?_
    refine aw_al_n F 1 dX7_two_136 rfl rfl ?_
    refine gr7_7 F (lo_s rfl) (hP _ rfl) rfl w_301 (hP 8 rfl) dX7_two_137 ?_
    refine gr4_8 F (lo_s rfl) (hP _ rfl) rfl w_112 (hP _ rfl) dX7_two_140 ?_
    refine aw_il_n F 2 dX7_two_143 rfl rfl ?_
    refine aw_iald F 8 9 (lo_s rfl) (hP _ rfl) rfl h.1 dX7_two_144 ?_
    replace h := h.2
    refine aw_il_n F 3 dX7_two_145 rfl rfl ?_
    refine aw_ishr F dX7_two_146 ?_
    refine aw_ic F dX7_two_147 ic_1 ?_
    refine aw_iand F dX7_two_148 ?_
    exact aw_iretX F T (Nat.le_of_ble_eq_true rfl) (Nat.le_of_ble_eq_true rfl) ⟨_, rfl, h⟩ dX7_two_149
  · replace h := h.2
    by_cases c_8 : x3 = (0 : Int32)
    · replace h := h.1 c_8
      refine aw_tabI (tgt := 56) F dX7_two_19 (by rw [c_8]; decide) (by rw [c_8]; decide) (by rw [c_8]; rfl) (by decide) ?_
      refine aw_al F 0 dX7_two_56 rfl ?_
      refine gr1_2 F (lo_s rfl) (hP _ rfl) rfl w_176 (hP _ rfl) dX7_two_58 ?_
      refine aw_il_n F 2 dX7_two_61 rfl rfl ?_
      refine aw_il_n F 3 dX7_two_62 rfl rfl ?_
      refine aw_cSi (stk := [.ref (sdX X 6 3)]) F T.room [.int x1, .int x2] (k_X1_pair hP h) ms_X1_pair w_797 rfl rfl (Nat.le_of_ble_eq_true rfl) ⟨(Nat.le_of_ble_eq_true rfl), (Nat.le_of_ble_eq_true rfl)⟩ ⟨(Nat.le_of_ble_eq_true rfl), (Nat.le_of_ble_eq_true rfl)⟩ dX7_two_63 (fun r_10 G_9 h => ?_)
      refine aw_iald F 6 3 (lo_s rfl) (hP _ rfl) rfl h.1 dX7_two_66 ?_
      replace h := h.2
      exact aw_iretX F T (Nat.le_of_ble_eq_true rfl) (Nat.le_of_ble_eq_true rfl) ⟨_, rfl, h⟩ dX7_two_67
    replace h := h.2
    by_cases c_11 : x3 = (1 : Int32)
    · replace h := h.1 c_11
      refine aw_tabI (tgt := 68) F dX7_two_19 (by rw [c_11]; decide) (by rw [c_11]; decide) (by rw [c_11]; rfl) (by decide) ?_
      refine aw_al F 0 dX7_two_68 rfl ?_
      refine gr1_3 F (lo_s rfl) (hP _ rfl) rfl w_178 (hP _ rfl) dX7_two_70 ?_
      refine aw_il_n F 2 dX7_two_73 rfl rfl ?_
      refine aw_il_n F 3 dX7_two_74 rfl rfl ?_
      refine aw_cSi (stk := [.ref (sdX X 6 4)]) F T.room [.int x1, .int x2] (k_X1_pair hP h) ms_X1_pair w_797 rfl rfl (Nat.le_of_ble_eq_true rfl) ⟨(Nat.le_of_ble_eq_true rfl), (Nat.le_of_ble_eq_true rfl)⟩ ⟨(Nat.le_of_ble_eq_true rfl), (Nat.le_of_ble_eq_true rfl)⟩ dX7_two_75 (fun r_13 G_12 h => ?_)
      refine aw_iald F 6 4 (lo_s rfl) (hP _ rfl) rfl h.1 dX7_two_78 ?_
      replace h := h.2
      exact aw_iretX F T (Nat.le_of_ble_eq_true rfl) (Nat.le_of_ble_eq_true rfl) ⟨_, rfl, h⟩ dX7_two_79
    replace h := h.2
    by_cases c_14 : x3 = (2 : Int32)
    · replace h := h.1 c_14
      refine aw_tabI (tgt := 80) F dX7_two_19 (by rw [c_14]; decide) (by rw [c_14]; decide) (by rw [c_14]; rfl) (by decide) ?_
      refine aw_al F 0 dX7_two_80 rfl ?_
      refine aw_al_n F 1 dX7_two_82 rfl rfl ?_
      refine gr7_7 F (lo_s rfl) (hP _ rfl) rfl w_301 (hP 8 rfl) dX7_two_83 ?_
      refine aw_il_n F 2 dX7_two_86 rfl rfl ?_
      refine aw_il_n F 3 dX7_two_87 rfl rfl ?_
      refine aw_cVi (stk := []) F T.room [.ref (sdX X 8 0), .int x1, .int x2] (k_X1_ofNames hP rfl rfl rfl rfl h) mv_X1_ofNames w_798 cf1 (lo_s rfl) (hP _ rfl) rfl (by decide) rfl rfl (Nat.le_of_ble_eq_true rfl) ⟨(Nat.le_of_ble_eq_true rfl), (Nat.le_of_ble_eq_true rfl)⟩ ⟨(Nat.le_of_ble_eq_true rfl), (Nat.le_of_ble_eq_true rfl)⟩ dX7_two_88 (fun r_16 G_15 h => ?_)
      exact aw_iretX F T (Nat.le_of_ble_eq_true rfl) (Nat.le_of_ble_eq_true rfl) ⟨_, rfl, h⟩ dX7_two_91
    replace h := h.2
    by_cases c_17 : x3 = (3 : Int32)
    · replace h := h.1 c_17
      refine aw_tabI (tgt := 92) F dX7_two_19 (by rw [c_17]; decide) (by rw [c_17]; decide) (by rw [c_17]; rfl) (by decide) ?_
      refine aw_al F 0 dX7_two_92 rfl ?_
      refine gr1_4 F (lo_s rfl) (hP _ rfl) rfl w_180 (hP _ rfl) dX7_two_94 ?_
      refine aw_il_n F 2 dX7_two_97 rfl rfl ?_
      refine aw_il_n F 3 dX7_two_98 rfl rfl ?_
      refine aw_cSi (stk := [.ref (sdX X 6 5)]) F T.room [.int x1, .int x2] (k_X1_pair hP h) ms_X1_pair w_797 rfl rfl (Nat.le_of_ble_eq_true rfl) ⟨(Nat.le_of_ble_eq_true rfl), (Nat.le_of_ble_eq_true rfl)⟩ ⟨(Nat.le_of_ble_eq_true rfl), (Nat.le_of_ble_eq_true rfl)⟩ dX7_two_99 (fun r_19 G_18 h => ?_)
      refine aw_iald F 6 5 (lo_s rfl) (hP _ rfl) rfl h.1 dX7_two_102 ?_
      replace h := h.2
      exact aw_iretX F T (Nat.le_of_ble_eq_true rfl) (Nat.le_of_ble_eq_true rfl) ⟨_, rfl, h⟩ dX7_two_103
    replace h := h.2
    by_cases c_20 : x3 = (4 : Int32)
    · replace h := h.1 c_20
      refine aw_tabI (tgt := 104) F dX7_two_19 (by rw [c_20]; decide) (by rw [c_20]; decide) (by rw [c_20]; rfl) (by decide) ?_
      refine aw_al F 0 dX7_two_104 rfl ?_
      refine aw_al_n F 1 dX7_two_106 rfl rfl ?_
      refine gr7_7 F (lo_s rfl) (hP _ rfl) rfl w_301 (hP 8 rfl) dX7_two_107 ?_
      refine aw_il_n F 2 dX7_two_110 rfl rfl ?_
      refine aw_il_n F 3 dX7_two_111 rfl rfl ?_
      refine aw_cVb (stk := []) F T.room [.ref (sdX X 8 0), .int x1, .int x2] (k_X1_isNear hP rfl rfl rfl rfl h) mv_X1_isNear w_799 cf1 (lo_s rfl) (hP _ rfl) rfl (by decide) rfl rfl (Nat.le_of_ble_eq_true rfl) ⟨(Nat.le_of_ble_eq_true rfl), (Nat.le_of_ble_eq_true rfl)⟩ ⟨(Nat.le_of_ble_eq_true rfl), (Nat.le_of_ble_eq_true rfl)⟩ dX7_two_112 (fun b_22 G_21 h => ?_)
      refine aw_if_eq (tgt := 122) F dX7_two_115 (by decide) (fun c_23 => ?_) (fun c_23 => ?_)
      · replace h := h.1 (bI_2 c_23)
        refine aw_ic F dX7_two_122 ic_0 ?_
        exact aw_iretX F T (Nat.le_of_ble_eq_true rfl) (Nat.le_of_ble_eq_true rfl) ⟨_, rfl, h⟩ dX7_two_123
      · replace h := h.2 (bI_1 c_23)
        refine aw_ic F dX7_two_118 ic_1 ?_
        refine aw_go (tgt := 123) F dX7_two_119 (by decide) ?_
        exact aw_iretX F T (Nat.le_of_ble_eq_true rfl) (Nat.le_of_ble_eq_true rfl) ⟨_, rfl, h⟩ dX7_two_123
    replace h := h.2
    by_cases c_24 : x3 = (5 : Int32)
    · replace h := h c_24
      refine aw_tabI (tgt := 124) F dX7_two_19 (by rw [c_24]; decide) (by rw [c_24]; decide) (by rw [c_24]; rfl) (by decide) ?_
      refine aw_al F 0 dX7_two_124 rfl ?_
      refine gr1_6 F (lo_s rfl) (hP _ rfl) rfl w_184 (hP _ rfl) dX7_two_126 ?_
      refine aw_il_n F 2 dX7_two_129 rfl rfl ?_
      refine aw_iald F 6 7 (lo_s rfl) (hP _ rfl) rfl h.1 dX7_two_130 ?_
      replace h := h.2
      refine aw_il_n F 3 dX7_two_131 rfl rfl ?_
      refine aw_ishr F dX7_two_132 ?_
      refine aw_ic F dX7_two_133 ic_1 ?_
      refine aw_iand F dX7_two_134 ?_
      exact aw_iretX F T (Nat.le_of_ble_eq_true rfl) (Nat.le_of_ble_eq_true rfl) ⟨_, rfl, h⟩ dX7_two_135
    exfalso
    have qc_8 := ne_ti c_8 (show (0 : Int32).toInt = 0 by decide)
    have qc_11 := ne_ti c_11 (show (1 : Int32).toInt = 1 by decide)
    have qc_14 := ne_ti c_14 (show (2 : Int32).toInt = 2 by decide)
    have qc_17 := ne_ti c_17 (show (3 : Int32).toInt = 3 by decide)
    have qc_20 := ne_ti c_20 (show (4 : Int32).toInt = 4 by decide)
    have qc_24 := ne_ti c_24 (show (5 : Int32).toInt = 5 by decide)
    omega
-- X7_steps (height 6)
def j_X7_steps_14 (post : Int32 → GH → Prop) (px : Nat → GH → Prop) (G : GH) : Prop :=
  px 0 G
def wp_X7_steps (post : Int32 → GH → Prop) (px : Nat → GH → Prop) (x1 x2 : Int32) (G : GH) : Prop :=
  wp_X7_isClass (fun (b_2 : Bool) (G_1 : GH) => ((b_2 = false → j_X7_steps_14 post px G_1) ∧ (b_2 = true → wp_X7_isClass (fun (b_5 : Bool) (G_4 : GH) => ((b_5 = false → j_X7_steps_14 post px G_4) ∧ (b_5 = true → wp_X4_stepsApart (fun (r_8 : Int32) (G_7 : GH) => post r_8 G_7) 8 ((1 : Int32) <<< (x1 &&& 31)) ((1 : Int32) <<< (x2 &&& 31)) G_4))) x2 G_1))) x1 G
set_option maxRecDepth 100000 in
set_option maxHeartbeats 4000000 in
theorem kj_X7_steps_14 {E : Ev} {X : Cx} {post : Int32 → GH → Prop} {px : Nat → GH → Prop} {G : GH} (F : Fx E X "MarkField" cX7_steps 3) (T : RTX E X 6 1 6 (some .int) (pI post) px) (h : j_X7_steps_14 post px G) : AW E X 3 14 [] [] G 0 0 := by
  have hP := F.P
  exact aw_thr F T 0 (by decide) 4 (by decide) rfl false (Nat.le_of_ble_eq_true rfl) (Nat.le_of_ble_eq_true rfl) (Nat.le_of_ble_eq_true rfl) (Nat.le_of_ble_eq_true rfl) h dX7_steps_14 dX7_steps_17 dX7_steps_18 dX7_steps_20 dX7_steps_23
set_option maxRecDepth 100000 in
set_option maxHeartbeats 4000000 in
theorem k_X7_steps {l : Launch} {E : Ev} {P : Nat → Prop} {sd : Nat → Nat → Nat} {G : GH} {post : Int32 → GH → Prop} {px : Nat → GH → Prop} {x1 x2 : Int32} (hl0 : l.stackTraces = false) (hPP : ∀ o, stt o = true → P o) (h : wp_X7_steps post px x1 x2 G) : CtX l yX7_steps cX7_steps 3 (some .int) 6 1 6 E P sd G [.ref (sd 0 0), .int x1, .int x2] (pI post) px := by
  refine ctx_of hl0 (own := "MarkField") (by decide) rfl (Nat.le_of_ble_eq_true rfl) hPP (fun X F T el eP es => ?_)
  subst el; subst eP; subst es
  have hP := F.P
  change AW E X 3 0 [(0, .ref (sdX X 0 0)), (1, .int x1), (2, .int x2)] [] G 0 0
  refine aw_il_n F 1 dX7_steps_0 rfl rfl ?_
  refine aw_cSb (stk := []) F T.room [.int x1] (k_X7_isClass hP h) ms_X7_isClass w_807 rfl rfl (Nat.le_of_ble_eq_true rfl) ⟨(Nat.le_of_ble_eq_true rfl), (Nat.le_of_ble_eq_true rfl)⟩ ⟨(Nat.le_of_ble_eq_true rfl), (Nat.le_of_ble_eq_true rfl)⟩ dX7_steps_1 (fun b_2 G_1 h => ?_)
  refine aw_if_eq (tgt := 14) F dX7_steps_4 (by decide) (fun c_3 => ?_) (fun c_3 => ?_)
  · replace h := h.1 (bI_2 c_3)
    refine aw_sub [] rfl ?_
    exact kj_X7_steps_14 F T h
  · replace h := h.2 (bI_1 c_3)
    refine aw_il_n F 2 dX7_steps_7 rfl rfl ?_
    refine aw_cSb (stk := []) F T.room [.int x2] (k_X7_isClass hP h) ms_X7_isClass w_807 rfl rfl (Nat.le_of_ble_eq_true rfl) ⟨(Nat.le_of_ble_eq_true rfl), (Nat.le_of_ble_eq_true rfl)⟩ ⟨(Nat.le_of_ble_eq_true rfl), (Nat.le_of_ble_eq_true rfl)⟩ dX7_steps_8 (fun b_5 G_4 h => ?_)
    refine aw_if_ne (tgt := 24) F dX7_steps_11 (by decide) (fun c_6 => ?_) (fun c_6 => ?_)
    · replace h := h.2 (bI_1 c_6)
      refine aw_al_n F 0 dX7_steps_24 rfl rfl ?_
      refine gr7_7 F (lo_s rfl) (hP _ rfl) rfl w_301 (hP 8 rfl) dX7_steps_25 ?_
      refine aw_ic F dX7_steps_28 ic_1 ?_
      refine aw_il_n F 1 dX7_steps_29 rfl rfl ?_
      refine aw_ishl F dX7_steps_30 ?_
      refine aw_ic F dX7_steps_31 ic_1 ?_
      refine aw_il_n F 2 dX7_steps_32 rfl rfl ?_
      refine aw_ishl F dX7_steps_33 ?_
      refine aw_cVi (stk := []) F T.room [.int ((1 : Int32) <<< (x1 &&& 31)), .int ((1 : Int32) <<< (x2 &&& 31))] (k_X4_stepsApart hP rfl rfl h) mv_X4_stepsApart w_809 cf4 (lo_s rfl) (hP _ rfl) rfl (by decide) rfl rfl (Nat.le_of_ble_eq_true rfl) ⟨(Nat.le_of_ble_eq_true rfl), (Nat.le_of_ble_eq_true rfl)⟩ ⟨(Nat.le_of_ble_eq_true rfl), (Nat.le_of_ble_eq_true rfl)⟩ dX7_steps_34 (fun r_8 G_7 h => ?_)
      exact aw_iretX F T (Nat.le_of_ble_eq_true rfl) (Nat.le_of_ble_eq_true rfl) ⟨_, rfl, h⟩ dX7_steps_37
    · replace h := h.1 (bI_2 c_6)
      refine aw_sub [] rfl ?_
      exact kj_X7_steps_14 F T h
-- X7_here (height 7)
def wp_X7_here (post : Int32 → GH → Prop) (px : Nat → GH → Prop) (x1 x2 x3 x4 : Int32) (G : GH) : Prop :=
  wp_X7_needMark (fun (G_1 : GH) => wp_X7_needHalf (fun (G_3 : GH) => wp_X7_needWhat (fun (G_5 : GH) => wp_X7_needDay (fun (G_7 : GH) => ((x4 = 0 → wp_X4_sinceOf (fun (r_23 : Int32) (G_22 : GH) => post r_23 G_22) 8 x1 x2 x3 G_7) ∧ (¬ x4 = 0 → ((x4 = (1 : Int32) → wp_X4_priorityOf (fun (r_21 : Int32) (G_20 : GH) => post r_21 G_20) 8 x1 x2 x3 G_7) ∧ (¬ x4 = (1 : Int32) → wp_X7_likeness (fun (G_11 : GH) => wp_X1_groupOf (fun (r_14 : Int32) (G_13 : GH) => wp_X5_rank (fun (G_15 : GH) => wp_X5_settle (fun (G_17 : GH) => ((x4 = (2 : Int32) → (vp_in x1 13 ∧ post (G_17 5 3 x1.toNatClampNeg) G_17)) ∧ (¬ x4 = (2 : Int32) → post (((G_17 5 0 7) >>> (x1 &&& 31)) &&& (1 : Int32)) G_17))) 8 6 x2 G_15) 8 x2 x3 r_14 G_13) 6 8 x1 G_11) G_7))))) px x3 G_5) px x4 (3 : Int32) G_3) px x2 G_1) px x1 G
set_option maxRecDepth 100000 in
set_option maxHeartbeats 4000000 in
theorem k_X7_here {l : Launch} {E : Ev} {P : Nat → Prop} {sd : Nat → Nat → Nat} {G : GH} {post : Int32 → GH → Prop} {px : Nat → GH → Prop} {x1 x2 x3 x4 : Int32} (hl0 : l.stackTraces = false) (hPP : ∀ o, stt o = true → P o) (h : wp_X7_here post px x1 x2 x3 x4 G) : CtX l yX7_here cX7_here 6 (some .int) 7 4 24 E P sd G [.ref (sd 0 0), .int x1, .int x2, .int x3, .int x4] (pI post) px := by
  refine ctx_of hl0 (own := "MarkField") (by decide) rfl (Nat.le_of_ble_eq_true rfl) hPP (fun X F T el eP es => ?_)
  subst el; subst eP; subst es
  have hP := F.P
  change AW E X 6 0 [(0, .ref (sdX X 0 0)), (1, .int x1), (2, .int x2), (3, .int x3), (4, .int x4)] [] G 0 0
  refine aw_al_n F 0 dX7_here_0 rfl rfl ?_
  refine aw_il_n F 1 dX7_here_1 rfl rfl ?_
  refine aw_cVXv (stk := []) F T [.int x1] (k_X7_needMark T.tr hP h) mv_X7_needMark w_752 cf7 (lo_s rfl) (hP _ rfl) rfl (by decide) rfl rfl (Nat.le_of_ble_eq_true rfl) ⟨(Nat.le_of_ble_eq_true rfl), (Nat.le_of_ble_eq_true rfl)⟩ ⟨(Nat.le_of_ble_eq_true rfl), (Nat.le_of_ble_eq_true rfl)⟩ ⟨rfl, rfl⟩ dX7_here_2 (fun _ _ q => q) (fun G_1 h => ?_)
  refine aw_al_n F 0 dX7_here_5 rfl rfl ?_
  refine aw_il_n F 2 dX7_here_6 rfl rfl ?_
  refine aw_cVXv (stk := []) F T [.int x2] (k_X7_needHalf T.tr hP h) mv_X7_needHalf w_817 cf7 (lo_s rfl) (hP _ rfl) rfl (by decide) rfl rfl (Nat.le_of_ble_eq_true rfl) ⟨(Nat.le_of_ble_eq_true rfl), (Nat.le_of_ble_eq_true rfl)⟩ ⟨(Nat.le_of_ble_eq_true rfl), (Nat.le_of_ble_eq_true rfl)⟩ ⟨rfl, rfl⟩ dX7_here_7 (fun _ _ q => q) (fun G_3 h => ?_)
  refine aw_il F 4 dX7_here_10 rfl ?_
  refine aw_ic F dX7_here_12 ic_3 ?_
  refine aw_cSXv (stk := []) F T [.int x4, .int (3 : Int32)] (k_X7_needWhat T.tr hP h) ms_X7_needWhat w_780 rfl rfl (Nat.le_of_ble_eq_true rfl) ⟨(Nat.le_of_ble_eq_true rfl), (Nat.le_of_ble_eq_true rfl)⟩ ⟨(Nat.le_of_ble_eq_true rfl), (Nat.le_of_ble_eq_true rfl)⟩ ⟨rfl, rfl⟩ dX7_here_13 (fun _ _ q => q) (fun G_5 h => ?_)
  refine aw_il_n F 3 dX7_here_16 rfl rfl ?_
  refine aw_cSXv (stk := []) F T [.int x3] (k_X7_needDay T.tr hP h) ms_X7_needDay w_822 rfl rfl (Nat.le_of_ble_eq_true rfl) ⟨(Nat.le_of_ble_eq_true rfl), (Nat.le_of_ble_eq_true rfl)⟩ ⟨(Nat.le_of_ble_eq_true rfl), (Nat.le_of_ble_eq_true rfl)⟩ ⟨rfl, rfl⟩ dX7_here_17 (fun _ _ q => q) (fun G_7 h => ?_)
  refine aw_il F 4 dX7_here_20 rfl ?_
  refine aw_if_ne (tgt := 36) F dX7_here_22 (by decide) (fun c_9 => ?_) (fun c_9 => ?_)
  · replace h := h.2 c_9
    refine aw_il F 4 dX7_here_36 rfl ?_
    refine aw_ic F dX7_here_38 ic_1 ?_
    refine aw_icmp_ne (tgt := 53) F dX7_here_39 (by decide) (fun c_10 => ?_) (fun c_10 => ?_)
    · replace h := h.2 c_10
      refine aw_al_n F 0 dX7_here_53 rfl rfl ?_
      refine aw_cVr (stk := []) F T.room [] (k_X7_likeness hP h) mv_X7_likeness w_635 cf7 (lo_s rfl) (hP _ rfl) rfl (by decide) rfl rfl (Nat.le_of_ble_eq_true rfl) ⟨(Nat.le_of_ble_eq_true rfl), (Nat.le_of_ble_eq_true rfl)⟩ ⟨(Nat.le_of_ble_eq_true rfl), (Nat.le_of_ble_eq_true rfl)⟩ dX7_here_54 (fun G_11 h => ?_)
      refine aw_as (lv1 := [(5, .ref (sdX X 6 0)), (0, .ref (sdX X 0 0)), (1, .int x1), (2, .int x2), (3, .int x3), (4, .int x4)]) F dX7_here_57 (by decide) rfl ?_
      refine aw_al_n F 1 dX7_here_59 rfl rfl ?_
      refine gr7_4 F (lo_s rfl) (hP _ rfl) rfl w_298 (hP 5 rfl) dX7_here_60 ?_
      refine aw_al_n F 1 dX7_here_63 rfl rfl ?_
      refine gr7_7 F (lo_s rfl) (hP _ rfl) rfl w_301 (hP 8 rfl) dX7_here_64 ?_
      refine aw_il_n F 3 dX7_here_67 rfl rfl ?_
      refine aw_il_n F 4 dX7_here_68 rfl rfl ?_
      refine aw_al F 0 dX7_here_69 rfl ?_
      refine aw_al_n F 1 dX7_here_71 rfl rfl ?_
      refine gr7_7 F (lo_s rfl) (hP _ rfl) rfl w_301 (hP 8 rfl) dX7_here_72 ?_
      refine aw_il_n F 2 dX7_here_75 rfl rfl ?_
      refine aw_cVi (stk := [.int x3, .int x2, .ref (sdX X 8 0), .ref (sdX X 5 0)]) F T.room [.ref (sdX X 8 0), .int x1] (k_X1_groupOf hP rfl rfl rfl rfl h) mv_X1_groupOf w_839 cf1 (lo_s rfl) (hP _ rfl) rfl (by decide) rfl rfl (Nat.le_of_ble_eq_true rfl) ⟨(Nat.le_of_ble_eq_true rfl), (Nat.le_of_ble_eq_true rfl)⟩ ⟨(Nat.le_of_ble_eq_true rfl), (Nat.le_of_ble_eq_true rfl)⟩ dX7_here_76 (fun r_14 G_13 h => ?_)
      refine aw_cVv (stk := []) F T.room [.ref (sdX X 8 0), .int x2, .int x3, .int r_14] (k_X5_rank hP rfl rfl h) mv_X5_rank w_843 cf5 (lo_s rfl) (hP _ rfl) rfl (by decide) rfl rfl (Nat.le_of_ble_eq_true rfl) ⟨(Nat.le_of_ble_eq_true rfl), (Nat.le_of_ble_eq_true rfl)⟩ ⟨(Nat.le_of_ble_eq_true rfl), (Nat.le_of_ble_eq_true rfl)⟩ dX7_here_79 (fun G_15 h => ?_)
      refine aw_al_n F 1 dX7_here_82 rfl rfl ?_
      refine gr7_4 F (lo_s rfl) (hP _ rfl) rfl w_298 (hP 5 rfl) dX7_here_83 ?_
      refine aw_al_n F 1 dX7_here_86 rfl rfl ?_
      refine gr7_7 F (lo_s rfl) (hP _ rfl) rfl w_301 (hP 8 rfl) dX7_here_87 ?_
      refine aw_al F 0 dX7_here_90 rfl ?_
      refine aw_il_n F 3 dX7_here_92 rfl rfl ?_
      refine aw_cVv (stk := []) F T.room [.ref (sdX X 8 0), .ref (sdX X 6 0), .int x2] (k_X5_settle hP rfl rfl rfl rfl h) mv_X5_settle w_849 cf5 (lo_s rfl) (hP _ rfl) rfl (by decide) rfl rfl (Nat.le_of_ble_eq_true rfl) ⟨(Nat.le_of_ble_eq_true rfl), (Nat.le_of_ble_eq_true rfl)⟩ ⟨(Nat.le_of_ble_eq_true rfl), (Nat.le_of_ble_eq_true rfl)⟩ dX7_here_93 (fun G_17 h => ?_)
      refine aw_il F 5 dX7_here_96 rfl ?_
      refine aw_ic F dX7_here_98 ic_2 ?_
      refine aw_icmp_ne (tgt := 114) F dX7_here_99 (by decide) (fun c_19 => ?_) (fun c_19 => ?_)
      · replace h := h.2 c_19
        refine aw_al_n F 1 dX7_here_114 rfl rfl ?_
        refine gr7_4 F (lo_s rfl) (hP _ rfl) rfl w_298 (hP 5 rfl) dX7_here_115 ?_
        refine gf5_7 F (lo_s rfl) (hP _ rfl) rfl w_223 dX7_here_118 ?_
        refine aw_il_n F 2 dX7_here_121 rfl rfl ?_
        refine aw_ishr F dX7_here_122 ?_
        refine aw_ic F dX7_here_123 ic_1 ?_
        refine aw_iand F dX7_here_124 ?_
        exact aw_iretX F T (Nat.le_of_ble_eq_true rfl) (Nat.le_of_ble_eq_true rfl) ⟨_, rfl, h⟩ dX7_here_125
      · replace h := h.1 c_19
        refine aw_al_n F 1 dX7_here_102 rfl rfl ?_
        refine gr7_4 F (lo_s rfl) (hP _ rfl) rfl w_298 (hP 5 rfl) dX7_here_103 ?_
        refine gr5_2 F (lo_s rfl) (hP _ rfl) rfl w_213 (hP _ rfl) dX7_here_106 ?_
        refine aw_il_n F 2 dX7_here_109 rfl rfl ?_
        refine aw_iald F 5 3 (lo_s rfl) (hP _ rfl) rfl h.1 dX7_here_110 ?_
        replace h := h.2
        refine aw_go (tgt := 125) F dX7_here_111 (by decide) ?_
        exact aw_iretX F T (Nat.le_of_ble_eq_true rfl) (Nat.le_of_ble_eq_true rfl) ⟨_, rfl, h⟩ dX7_here_125
    · replace h := h.1 c_10
      refine aw_al_n F 0 dX7_here_42 rfl rfl ?_
      refine gr7_7 F (lo_s rfl) (hP _ rfl) rfl w_301 (hP 8 rfl) dX7_here_43 ?_
      refine aw_il_n F 1 dX7_here_46 rfl rfl ?_
      refine aw_il_n F 2 dX7_here_47 rfl rfl ?_
      refine aw_il_n F 3 dX7_here_48 rfl rfl ?_
      refine aw_cVi (stk := []) F T.room [.int x1, .int x2, .int x3] (k_X4_priorityOf hP rfl rfl h) mv_X4_priorityOf w_833 cf4 (lo_s rfl) (hP _ rfl) rfl (by decide) rfl rfl (Nat.le_of_ble_eq_true rfl) ⟨(Nat.le_of_ble_eq_true rfl), (Nat.le_of_ble_eq_true rfl)⟩ ⟨(Nat.le_of_ble_eq_true rfl), (Nat.le_of_ble_eq_true rfl)⟩ dX7_here_49 (fun r_21 G_20 h => ?_)
      exact aw_iretX F T (Nat.le_of_ble_eq_true rfl) (Nat.le_of_ble_eq_true rfl) ⟨_, rfl, h⟩ dX7_here_52
  · replace h := h.1 c_9
    refine aw_al_n F 0 dX7_here_25 rfl rfl ?_
    refine gr7_7 F (lo_s rfl) (hP _ rfl) rfl w_301 (hP 8 rfl) dX7_here_26 ?_
    refine aw_il_n F 1 dX7_here_29 rfl rfl ?_
    refine aw_il_n F 2 dX7_here_30 rfl rfl ?_
    refine aw_il_n F 3 dX7_here_31 rfl rfl ?_
    refine aw_cVi (stk := []) F T.room [.int x1, .int x2, .int x3] (k_X4_sinceOf hP rfl rfl h) mv_X4_sinceOf w_829 cf4 (lo_s rfl) (hP _ rfl) rfl (by decide) rfl rfl (Nat.le_of_ble_eq_true rfl) ⟨(Nat.le_of_ble_eq_true rfl), (Nat.le_of_ble_eq_true rfl)⟩ ⟨(Nat.le_of_ble_eq_true rfl), (Nat.le_of_ble_eq_true rfl)⟩ dX7_here_32 (fun r_23 G_22 h => ?_)
    exact aw_iretX F T (Nat.le_of_ble_eq_true rfl) (Nat.le_of_ble_eq_true rfl) ⟨_, rfl, h⟩ dX7_here_35
-- X7_halves (height 7)
def wp_X7_halves (post : Int32 → GH → Prop) (px : Nat → GH → Prop) (x1 x2 x3 : Int32) (G : GH) : Prop :=
  wp_X7_needMark (fun (G_1 : GH) => wp_X7_needWhat (fun (G_3 : GH) => wp_X7_needDay (fun (G_5 : GH) => wp_X7_likeness (fun (G_7 : GH) => wp_X1_groupOf (fun (r_10 : Int32) (G_9 : GH) => wp_X5_settleAll (fun (G_11 : GH) => ((x3 = 0 → (vp_in x1 13 ∧ post (G_11 5 4 x1.toNatClampNeg) G_11)) ∧ (¬ x3 = 0 → ((x3 = (1 : Int32) → (vp_in x1 13 ∧ post (G_11 5 5 x1.toNatClampNeg) G_11)) ∧ (¬ x3 = (1 : Int32) → wp_X5_refusedHalves (fun (r_16 : Int32) (G_15 : GH) => post r_16 G_15) x1 G_11))))) 8 6 x2 r_10 G_9) 6 8 x1 G_7) G_5) px x2 G_3) px x3 (2 : Int32) G_1) px x1 G
set_option maxRecDepth 100000 in
set_option maxHeartbeats 4000000 in
theorem k_X7_halves {l : Launch} {E : Ev} {P : Nat → Prop} {sd : Nat → Nat → Nat} {G : GH} {post : Int32 → GH → Prop} {px : Nat → GH → Prop} {x1 x2 x3 : Int32} (hl0 : l.stackTraces = false) (hPP : ∀ o, stt o = true → P o) (h : wp_X7_halves post px x1 x2 x3 G) : CtX l yX7_halves cX7_halves 5 (some .int) 7 3 18 E P sd G [.ref (sd 0 0), .int x1, .int x2, .int x3] (pI post) px := by
  refine ctx_of hl0 (own := "MarkField") (by decide) rfl (Nat.le_of_ble_eq_true rfl) hPP (fun X F T el eP es => ?_)
  subst el; subst eP; subst es
  have hP := F.P
  change AW E X 5 0 [(0, .ref (sdX X 0 0)), (1, .int x1), (2, .int x2), (3, .int x3)] [] G 0 0
  refine aw_al_n F 0 dX7_halves_0 rfl rfl ?_
  refine aw_il_n F 1 dX7_halves_1 rfl rfl ?_
  refine aw_cVXv (stk := []) F T [.int x1] (k_X7_needMark T.tr hP h) mv_X7_needMark w_752 cf7 (lo_s rfl) (hP _ rfl) rfl (by decide) rfl rfl (Nat.le_of_ble_eq_true rfl) ⟨(Nat.le_of_ble_eq_true rfl), (Nat.le_of_ble_eq_true rfl)⟩ ⟨(Nat.le_of_ble_eq_true rfl), (Nat.le_of_ble_eq_true rfl)⟩ ⟨rfl, rfl⟩ dX7_halves_2 (fun _ _ q => q) (fun G_1 h => ?_)
  refine aw_il_n F 3 dX7_halves_5 rfl rfl ?_
  refine aw_ic F dX7_halves_6 ic_2 ?_
  refine aw_cSXv (stk := []) F T [.int x3, .int (2 : Int32)] (k_X7_needWhat T.tr hP h) ms_X7_needWhat w_780 rfl rfl (Nat.le_of_ble_eq_true rfl) ⟨(Nat.le_of_ble_eq_true rfl), (Nat.le_of_ble_eq_true rfl)⟩ ⟨(Nat.le_of_ble_eq_true rfl), (Nat.le_of_ble_eq_true rfl)⟩ ⟨rfl, rfl⟩ dX7_halves_7 (fun _ _ q => q) (fun G_3 h => ?_)
  refine aw_il_n F 2 dX7_halves_10 rfl rfl ?_
  refine aw_cSXv (stk := []) F T [.int x2] (k_X7_needDay T.tr hP h) ms_X7_needDay w_822 rfl rfl (Nat.le_of_ble_eq_true rfl) ⟨(Nat.le_of_ble_eq_true rfl), (Nat.le_of_ble_eq_true rfl)⟩ ⟨(Nat.le_of_ble_eq_true rfl), (Nat.le_of_ble_eq_true rfl)⟩ ⟨rfl, rfl⟩ dX7_halves_11 (fun _ _ q => q) (fun G_5 h => ?_)
  refine aw_al_n F 0 dX7_halves_14 rfl rfl ?_
  refine aw_cVr (stk := []) F T.room [] (k_X7_likeness hP h) mv_X7_likeness w_635 cf7 (lo_s rfl) (hP _ rfl) rfl (by decide) rfl rfl (Nat.le_of_ble_eq_true rfl) ⟨(Nat.le_of_ble_eq_true rfl), (Nat.le_of_ble_eq_true rfl)⟩ ⟨(Nat.le_of_ble_eq_true rfl), (Nat.le_of_ble_eq_true rfl)⟩ dX7_halves_15 (fun G_7 h => ?_)
  refine aw_as (lv1 := [(4, .ref (sdX X 6 0)), (0, .ref (sdX X 0 0)), (1, .int x1), (2, .int x2), (3, .int x3)]) F dX7_halves_18 (by decide) rfl ?_
  refine aw_al_n F 1 dX7_halves_20 rfl rfl ?_
  refine gr7_4 F (lo_s rfl) (hP _ rfl) rfl w_298 (hP 5 rfl) dX7_halves_21 ?_
  refine aw_al_n F 1 dX7_halves_24 rfl rfl ?_
  refine gr7_7 F (lo_s rfl) (hP _ rfl) rfl w_301 (hP 8 rfl) dX7_halves_25 ?_
  refine aw_al F 0 dX7_halves_28 rfl ?_
  refine aw_il_n F 3 dX7_halves_30 rfl rfl ?_
  refine aw_al F 0 dX7_halves_31 rfl ?_
  refine aw_al_n F 1 dX7_halves_33 rfl rfl ?_
  refine gr7_7 F (lo_s rfl) (hP _ rfl) rfl w_301 (hP 8 rfl) dX7_halves_34 ?_
  refine aw_il_n F 2 dX7_halves_37 rfl rfl ?_
  refine aw_cVi (stk := [.int x2, .ref (sdX X 6 0), .ref (sdX X 8 0), .ref (sdX X 5 0)]) F T.room [.ref (sdX X 8 0), .int x1] (k_X1_groupOf hP rfl rfl rfl rfl h) mv_X1_groupOf w_839 cf1 (lo_s rfl) (hP _ rfl) rfl (by decide) rfl rfl (Nat.le_of_ble_eq_true rfl) ⟨(Nat.le_of_ble_eq_true rfl), (Nat.le_of_ble_eq_true rfl)⟩ ⟨(Nat.le_of_ble_eq_true rfl), (Nat.le_of_ble_eq_true rfl)⟩ dX7_halves_38 (fun r_10 G_9 h => ?_)
  refine aw_cVv (stk := []) F T.room [.ref (sdX X 8 0), .ref (sdX X 6 0), .int x2, .int r_10] (k_X5_settleAll hP rfl rfl rfl rfl h) mv_X5_settleAll w_869 cf5 (lo_s rfl) (hP _ rfl) rfl (by decide) rfl rfl (Nat.le_of_ble_eq_true rfl) ⟨(Nat.le_of_ble_eq_true rfl), (Nat.le_of_ble_eq_true rfl)⟩ ⟨(Nat.le_of_ble_eq_true rfl), (Nat.le_of_ble_eq_true rfl)⟩ dX7_halves_41 (fun G_11 h => ?_)
  refine aw_il_n F 4 dX7_halves_44 rfl rfl ?_
  refine aw_if_ne (tgt := 58) F dX7_halves_45 (by decide) (fun c_13 => ?_) (fun c_13 => ?_)
  · replace h := h.2 c_13
    refine aw_il_n F 4 dX7_halves_58 rfl rfl ?_
    refine aw_ic F dX7_halves_59 ic_1 ?_
    refine aw_icmp_ne (tgt := 75) F dX7_halves_60 (by decide) (fun c_14 => ?_) (fun c_14 => ?_)
    · replace h := h.2 c_14
      refine aw_al_n F 1 dX7_halves_75 rfl rfl ?_
      refine gr7_4 F (lo_s rfl) (hP _ rfl) rfl w_298 (hP 5 rfl) dX7_halves_76 ?_
      refine aw_il_n F 2 dX7_halves_79 rfl rfl ?_
      refine aw_cVi (stk := []) F T.room [.int x1] (k_X5_refusedHalves hP h) mv_X5_refusedHalves w_880 cf5 (lo_s rfl) (hP _ rfl) rfl (by decide) rfl rfl (Nat.le_of_ble_eq_true rfl) ⟨(Nat.le_of_ble_eq_true rfl), (Nat.le_of_ble_eq_true rfl)⟩ ⟨(Nat.le_of_ble_eq_true rfl), (Nat.le_of_ble_eq_true rfl)⟩ dX7_halves_80 (fun r_16 G_15 h => ?_)
      exact aw_iretX F T (Nat.le_of_ble_eq_true rfl) (Nat.le_of_ble_eq_true rfl) ⟨_, rfl, h⟩ dX7_halves_83
    · replace h := h.1 c_14
      refine aw_al_n F 1 dX7_halves_63 rfl rfl ?_
      refine gr7_4 F (lo_s rfl) (hP _ rfl) rfl w_298 (hP 5 rfl) dX7_halves_64 ?_
      refine gr5_4 F (lo_s rfl) (hP _ rfl) rfl w_218 (hP _ rfl) dX7_halves_67 ?_
      refine aw_il_n F 2 dX7_halves_70 rfl rfl ?_
      refine aw_iald F 5 5 (lo_s rfl) (hP _ rfl) rfl h.1 dX7_halves_71 ?_
      replace h := h.2
      refine aw_go (tgt := 83) F dX7_halves_72 (by decide) ?_
      exact aw_iretX F T (Nat.le_of_ble_eq_true rfl) (Nat.le_of_ble_eq_true rfl) ⟨_, rfl, h⟩ dX7_halves_83
  · replace h := h.1 c_13
    refine aw_al_n F 1 dX7_halves_48 rfl rfl ?_
    refine gr7_4 F (lo_s rfl) (hP _ rfl) rfl w_298 (hP 5 rfl) dX7_halves_49 ?_
    refine gr5_3 F (lo_s rfl) (hP _ rfl) rfl w_215 (hP _ rfl) dX7_halves_52 ?_
    refine aw_il_n F 2 dX7_halves_55 rfl rfl ?_
    refine aw_iald F 5 4 (lo_s rfl) (hP _ rfl) rfl h.1 dX7_halves_56 ?_
    replace h := h.2
    exact aw_iretX F T (Nat.le_of_ble_eq_true rfl) (Nat.le_of_ble_eq_true rfl) ⟨_, rfl, h⟩ dX7_halves_57
-- X7_holders (height 7)
def wp_X7_holders (post : Int32 → GH → Prop) (px : Nat → GH → Prop) (x1 x2 : Int32) (G : GH) : Prop :=
  wp_X7_needHalf (fun (G_1 : GH) => wp_X7_needDay (fun (G_3 : GH) => wp_X4_allMarks (fun (r_6 : Int32) (G_5 : GH) => wp_X5_rank (fun (G_7 : GH) => wp_X7_likeness (fun (G_9 : GH) => wp_X5_settle (fun (G_11 : GH) => post (G_11 5 0 7) G_11) 8 6 x1 G_9) G_7) 8 x1 x2 r_6 G_5) 8 G_3) px x2 G_1) px x1 G
set_option maxRecDepth 100000 in
set_option maxHeartbeats 4000000 in
theorem k_X7_holders {l : Launch} {E : Ev} {P : Nat → Prop} {sd : Nat → Nat → Nat} {G : GH} {post : Int32 → GH → Prop} {px : Nat → GH → Prop} {x1 x2 : Int32} (hl0 : l.stackTraces = false) (hPP : ∀ o, stt o = true → P o) (h : wp_X7_holders post px x1 x2 G) : CtX l yX7_holders cX7_holders 3 (some .int) 7 2 12 E P sd G [.ref (sd 0 0), .int x1, .int x2] (pI post) px := by
  refine ctx_of hl0 (own := "MarkField") (by decide) rfl (Nat.le_of_ble_eq_true rfl) hPP (fun X F T el eP es => ?_)
  subst el; subst eP; subst es
  have hP := F.P
  change AW E X 3 0 [(0, .ref (sdX X 0 0)), (1, .int x1), (2, .int x2)] [] G 0 0
  refine aw_al_n F 0 dX7_holders_0 rfl rfl ?_
  refine aw_il_n F 1 dX7_holders_1 rfl rfl ?_
  refine aw_cVXv (stk := []) F T [.int x1] (k_X7_needHalf T.tr hP h) mv_X7_needHalf w_817 cf7 (lo_s rfl) (hP _ rfl) rfl (by decide) rfl rfl (Nat.le_of_ble_eq_true rfl) ⟨(Nat.le_of_ble_eq_true rfl), (Nat.le_of_ble_eq_true rfl)⟩ ⟨(Nat.le_of_ble_eq_true rfl), (Nat.le_of_ble_eq_true rfl)⟩ ⟨rfl, rfl⟩ dX7_holders_2 (fun _ _ q => q) (fun G_1 h => ?_)
  refine aw_il_n F 2 dX7_holders_5 rfl rfl ?_
  refine aw_cSXv (stk := []) F T [.int x2] (k_X7_needDay T.tr hP h) ms_X7_needDay w_822 rfl rfl (Nat.le_of_ble_eq_true rfl) ⟨(Nat.le_of_ble_eq_true rfl), (Nat.le_of_ble_eq_true rfl)⟩ ⟨(Nat.le_of_ble_eq_true rfl), (Nat.le_of_ble_eq_true rfl)⟩ ⟨rfl, rfl⟩ dX7_holders_6 (fun _ _ q => q) (fun G_3 h => ?_)
  refine aw_al_n F 0 dX7_holders_9 rfl rfl ?_
  refine gr7_4 F (lo_s rfl) (hP _ rfl) rfl w_298 (hP 5 rfl) dX7_holders_10 ?_
  refine aw_al_n F 0 dX7_holders_13 rfl rfl ?_
  refine gr7_7 F (lo_s rfl) (hP _ rfl) rfl w_301 (hP 8 rfl) dX7_holders_14 ?_
  refine aw_il_n F 1 dX7_holders_17 rfl rfl ?_
  refine aw_il_n F 2 dX7_holders_18 rfl rfl ?_
  refine aw_al_n F 0 dX7_holders_19 rfl rfl ?_
  refine gr7_7 F (lo_s rfl) (hP _ rfl) rfl w_301 (hP 8 rfl) dX7_holders_20 ?_
  refine aw_cVi (stk := [.int x2, .int x1, .ref (sdX X 8 0), .ref (sdX X 5 0)]) F T.room [] (k_X4_allMarks hP rfl rfl h) mv_X4_allMarks w_891 cf4 (lo_s rfl) (hP _ rfl) rfl (by decide) rfl rfl (Nat.le_of_ble_eq_true rfl) ⟨(Nat.le_of_ble_eq_true rfl), (Nat.le_of_ble_eq_true rfl)⟩ ⟨(Nat.le_of_ble_eq_true rfl), (Nat.le_of_ble_eq_true rfl)⟩ dX7_holders_23 (fun r_6 G_5 h => ?_)
  refine aw_cVv (stk := []) F T.room [.ref (sdX X 8 0), .int x1, .int x2, .int r_6] (k_X5_rank hP rfl rfl h) mv_X5_rank w_843 cf5 (lo_s rfl) (hP _ rfl) rfl (by decide) rfl rfl (Nat.le_of_ble_eq_true rfl) ⟨(Nat.le_of_ble_eq_true rfl), (Nat.le_of_ble_eq_true rfl)⟩ ⟨(Nat.le_of_ble_eq_true rfl), (Nat.le_of_ble_eq_true rfl)⟩ dX7_holders_26 (fun G_7 h => ?_)
  refine aw_al_n F 0 dX7_holders_29 rfl rfl ?_
  refine gr7_4 F (lo_s rfl) (hP _ rfl) rfl w_298 (hP 5 rfl) dX7_holders_30 ?_
  refine aw_al_n F 0 dX7_holders_33 rfl rfl ?_
  refine gr7_7 F (lo_s rfl) (hP _ rfl) rfl w_301 (hP 8 rfl) dX7_holders_34 ?_
  refine aw_al_n F 0 dX7_holders_37 rfl rfl ?_
  refine aw_cVr (stk := [.ref (sdX X 8 0), .ref (sdX X 5 0)]) F T.room [] (k_X7_likeness hP h) mv_X7_likeness w_635 cf7 (lo_s rfl) (hP _ rfl) rfl (by decide) rfl rfl (Nat.le_of_ble_eq_true rfl) ⟨(Nat.le_of_ble_eq_true rfl), (Nat.le_of_ble_eq_true rfl)⟩ ⟨(Nat.le_of_ble_eq_true rfl), (Nat.le_of_ble_eq_true rfl)⟩ dX7_holders_38 (fun G_9 h => ?_)
  refine aw_il_n F 1 dX7_holders_41 rfl rfl ?_
  refine aw_cVv (stk := []) F T.room [.ref (sdX X 8 0), .ref (sdX X 6 0), .int x1] (k_X5_settle hP rfl rfl rfl rfl h) mv_X5_settle w_849 cf5 (lo_s rfl) (hP _ rfl) rfl (by decide) rfl rfl (Nat.le_of_ble_eq_true rfl) ⟨(Nat.le_of_ble_eq_true rfl), (Nat.le_of_ble_eq_true rfl)⟩ ⟨(Nat.le_of_ble_eq_true rfl), (Nat.le_of_ble_eq_true rfl)⟩ dX7_holders_42 (fun G_11 h => ?_)
  refine aw_al_n F 0 dX7_holders_45 rfl rfl ?_
  refine gr7_4 F (lo_s rfl) (hP _ rfl) rfl w_298 (hP 5 rfl) dX7_holders_46 ?_
  refine gf5_7 F (lo_s rfl) (hP _ rfl) rfl w_223 dX7_holders_49 ?_
  exact aw_iretX F T (Nat.le_of_ble_eq_true rfl) (Nat.le_of_ble_eq_true rfl) ⟨_, rfl, h⟩ dX7_holders_52
-- X7_shared (height 7)
def lb_X7_shared_34 (post : Int32 → GH → Prop) (px : Nat → GH → Prop) (P34 : Int32 → Int32 → GH → Prop) (v3 v4 : Int32) (G : GH) : Prop :=
  (((G 8 0 0) ≤ v4 → post v3 G) ∧ (¬ (G 8 0 0) ≤ v4 → wp_X7_isShared (fun (b_11 : Bool) (G_10 : GH) => ((b_11 = false → P34 v3 (v4 + (1 : Int32)) G_10) ∧ (b_11 = true → (∀ y_13 : Int32, y_13 = (v3 ||| ((1 : Int32) <<< (v4 &&& 31))) → P34 y_13 (v4 + (1 : Int32)) G_10)))) 6 v4 G))
def lp_X7_shared_34 (post : Int32 → GH → Prop) (px : Nat → GH → Prop) (v3 v4 : Int32) (G : GH) : Prop := ∀ P34 : Int32 → Int32 → GH → Prop, (∀ (v3 v4 : Int32) (G : GH), lb_X7_shared_34 post px P34 v3 v4 G → P34 v3 v4 G) → P34 v3 v4 G
def wp_X7_shared (post : Int32 → GH → Prop) (px : Nat → GH → Prop) (x1 : Int32) (G : GH) : Prop :=
  wp_X7_needDay (fun (G_1 : GH) => wp_X7_likeness (fun (G_3 : GH) => wp_X4_allMarks (fun (r_6 : Int32) (G_5 : GH) => wp_X5_settleAll (fun (G_7 : GH) => lp_X7_shared_34 post px (0 : Int32) (0 : Int32) G_7) 8 6 x1 r_6 G_5) 8 G_3) G_1) px x1 G
set_option maxRecDepth 100000 in
set_option maxHeartbeats 4000000 in
theorem kl_X7_shared_34 {E : Ev} {X : Cx} {post : Int32 → GH → Prop} {px : Nat → GH → Prop} {v3 v4 : Int32} {G : GH} (F : Fx E X "MarkField" cX7_shared 5) (T : RTX E X 7 1 6 (some .int) (pI post) px) (h : lp_X7_shared_34 post px v3 v4 G) : AW E X 5 34 [(0, .ref (sdX X 0 0)), (2, .ref (sdX X 6 0)), (3, .int v3), (4, .int v4)] [] G 1 6 := by
  have hP := F.P
  have K34 : ∀ (v3 v4 : Int32) (G : GH), AW E X 5 34 [(0, .ref (sdX X 0 0)), (2, .ref (sdX X 6 0)), (3, .int v3), (4, .int v4)] [] G 1 6 → AW E X 5 34 [(0, .ref (sdX X 0 0)), (2, .ref (sdX X 6 0)), (3, .int v3), (4, .int v4)] [] G 1 6 := fun _ _ _ q => q
  refine h (fun (v3 v4 : Int32) (G : GH) => AW E X 5 34 [(0, .ref (sdX X 0 0)), (2, .ref (sdX X 6 0)), (3, .int v3), (4, .int v4)] [] G 1 6) (fun (v3 v4 : Int32) (G : GH) h => ?_)
  refine aw_il F 3 dX7_shared_34 rfl ?_
  refine aw_al_n F 0 dX7_shared_36 rfl rfl ?_
  refine gr7_7 F (lo_s rfl) (hP _ rfl) rfl w_301 (hP 8 rfl) dX7_shared_37 ?_
  refine gf4_0 F (lo_s rfl) (hP _ rfl) rfl w_81 dX7_shared_40 ?_
  refine aw_icmp_ge (tgt := 69) F dX7_shared_43 (by decide) (fun c_9 => ?_) (fun c_9 => ?_)
  · replace h := h.1 c_9
    refine aw_il_n F 2 dX7_shared_69 rfl rfl ?_
    exact aw_iretX F T (Nat.le_of_ble_eq_true rfl) (Nat.le_of_ble_eq_true rfl) ⟨_, rfl, h⟩ dX7_shared_70
  · replace h := h.2 c_9
    refine aw_al_n F 0 dX7_shared_46 rfl rfl ?_
    refine aw_al_n F 1 dX7_shared_47 rfl rfl ?_
    refine aw_il F 3 dX7_shared_48 rfl ?_
    refine aw_cVb (stk := []) F T.room [.ref (sdX X 6 0), .int v4] (k_X7_isShared hP rfl rfl h) mv_X7_isShared w_902 cf7 (lo_s rfl) (hP _ rfl) rfl (by decide) rfl rfl (Nat.le_of_ble_eq_true rfl) ⟨(Nat.le_of_ble_eq_true rfl), (Nat.le_of_ble_eq_true rfl)⟩ ⟨(Nat.le_of_ble_eq_true rfl), (Nat.le_of_ble_eq_true rfl)⟩ dX7_shared_50 (fun b_11 G_10 h => ?_)
    refine aw_if_eq (tgt := 63) F dX7_shared_53 (by decide) (fun c_12 => ?_) (fun c_12 => ?_)
    · replace h := h.1 (bI_2 c_12)
      refine aw_inc (lv1 := [(4, .int (v4 + (1 : Int32))), (0, .ref (sdX X 0 0)), (2, .ref (sdX X 6 0)), (3, .int v3)]) F 3 dX7_shared_63 rfl (in_1 _) (by decide) rfl ?_
      refine aw_go (tgt := 34) F dX7_shared_66 (by decide) ?_
      refine aw_sub [1, 2, 3, 0] rfl ?_
      exact K34 _ _ _ h
    · replace h := h.2 (bI_1 c_12)
      refine aw_il_n F 2 dX7_shared_56 rfl rfl ?_
      refine aw_ic F dX7_shared_57 ic_1 ?_
      refine aw_il F 3 dX7_shared_58 rfl ?_
      refine aw_ishl F dX7_shared_60 ?_
      refine aw_ior F dX7_shared_61 ?_
      refine aw_top (fun y_13 ey_13 => ?_)
      replace h := h y_13 ey_13
      refine aw_is_n (lv1 := [(3, .int y_13), (0, .ref (sdX X 0 0)), (2, .ref (sdX X 6 0)), (4, .int v4)]) F dX7_shared_62 rfl (by decide) rfl ?_
      refine aw_inc (lv1 := [(4, .int (v4 + (1 : Int32))), (3, .int y_13), (0, .ref (sdX X 0 0)), (2, .ref (sdX X 6 0))]) F 3 dX7_shared_63 rfl (in_1 _) (by decide) rfl ?_
      refine aw_go (tgt := 34) F dX7_shared_66 (by decide) ?_
      refine aw_sub [2, 3, 1, 0] rfl ?_
      exact K34 _ _ _ h
set_option maxRecDepth 100000 in
set_option maxHeartbeats 4000000 in
theorem k_X7_shared {l : Launch} {E : Ev} {P : Nat → Prop} {sd : Nat → Nat → Nat} {G : GH} {post : Int32 → GH → Prop} {px : Nat → GH → Prop} {x1 : Int32} (hl0 : l.stackTraces = false) (hPP : ∀ o, stt o = true → P o) (h : wp_X7_shared post px x1 G) : CtX l yX7_shared cX7_shared 5 (some .int) 7 1 6 E P sd G [.ref (sd 0 0), .int x1] (pI post) px := by
  refine ctx_of hl0 (own := "MarkField") (by decide) rfl (Nat.le_of_ble_eq_true rfl) hPP (fun X F T el eP es => ?_)
  subst el; subst eP; subst es
  have hP := F.P
  change AW E X 5 0 [(0, .ref (sdX X 0 0)), (1, .int x1)] [] G 0 0
  refine aw_il_n F 1 dX7_shared_0 rfl rfl ?_
  refine aw_cSXv (stk := []) F T [.int x1] (k_X7_needDay T.tr hP h) ms_X7_needDay w_822 rfl rfl (Nat.le_of_ble_eq_true rfl) ⟨(Nat.le_of_ble_eq_true rfl), (Nat.le_of_ble_eq_true rfl)⟩ ⟨(Nat.le_of_ble_eq_true rfl), (Nat.le_of_ble_eq_true rfl)⟩ ⟨rfl, rfl⟩ dX7_shared_1 (fun _ _ q => q) (fun G_1 h => ?_)
  refine aw_al_n F 0 dX7_shared_4 rfl rfl ?_
  refine aw_cVr (stk := []) F T.room [] (k_X7_likeness hP h) mv_X7_likeness w_635 cf7 (lo_s rfl) (hP _ rfl) rfl (by decide) rfl rfl (Nat.le_of_ble_eq_true rfl) ⟨(Nat.le_of_ble_eq_true rfl), (Nat.le_of_ble_eq_true rfl)⟩ ⟨(Nat.le_of_ble_eq_true rfl), (Nat.le_of_ble_eq_true rfl)⟩ dX7_shared_5 (fun G_3 h => ?_)
  refine aw_as_n (lv1 := [(2, .ref (sdX X 6 0)), (0, .ref (sdX X 0 0)), (1, .int x1)]) F dX7_shared_8 rfl (by decide) rfl ?_
  refine aw_al_n F 1 dX7_shared_9 rfl rfl ?_
  refine gr7_4 F (lo_s rfl) (hP _ rfl) rfl w_298 (hP 5 rfl) dX7_shared_10 ?_
  refine aw_al_n F 1 dX7_shared_13 rfl rfl ?_
  refine gr7_7 F (lo_s rfl) (hP _ rfl) rfl w_301 (hP 8 rfl) dX7_shared_14 ?_
  refine aw_al_n F 0 dX7_shared_17 rfl rfl ?_
  refine aw_il_n F 2 dX7_shared_18 rfl rfl ?_
  refine aw_al_n F 1 dX7_shared_19 rfl rfl ?_
  refine gr7_7 F (lo_s rfl) (hP _ rfl) rfl w_301 (hP 8 rfl) dX7_shared_20 ?_
  refine aw_cVi (stk := [.int x1, .ref (sdX X 6 0), .ref (sdX X 8 0), .ref (sdX X 5 0)]) F T.room [] (k_X4_allMarks hP rfl rfl h) mv_X4_allMarks w_891 cf4 (lo_s rfl) (hP _ rfl) rfl (by decide) rfl rfl (Nat.le_of_ble_eq_true rfl) ⟨(Nat.le_of_ble_eq_true rfl), (Nat.le_of_ble_eq_true rfl)⟩ ⟨(Nat.le_of_ble_eq_true rfl), (Nat.le_of_ble_eq_true rfl)⟩ dX7_shared_23 (fun r_6 G_5 h => ?_)
  refine aw_cVv (stk := []) F T.room [.ref (sdX X 8 0), .ref (sdX X 6 0), .int x1, .int r_6] (k_X5_settleAll hP rfl rfl rfl rfl h) mv_X5_settleAll w_869 cf5 (lo_s rfl) (hP _ rfl) rfl (by decide) rfl rfl (Nat.le_of_ble_eq_true rfl) ⟨(Nat.le_of_ble_eq_true rfl), (Nat.le_of_ble_eq_true rfl)⟩ ⟨(Nat.le_of_ble_eq_true rfl), (Nat.le_of_ble_eq_true rfl)⟩ dX7_shared_26 (fun G_7 h => ?_)
  refine aw_ic F dX7_shared_29 ic_0 ?_
  refine aw_is_n (lv1 := [(3, .int (0 : Int32)), (2, .ref (sdX X 6 0)), (0, .ref (sdX X 0 0)), (1, .int x1)]) F dX7_shared_30 rfl (by decide) rfl ?_
  refine aw_ic F dX7_shared_31 ic_0 ?_
  refine aw_is (lv1 := [(4, .int (0 : Int32)), (3, .int (0 : Int32)), (2, .ref (sdX X 6 0)), (0, .ref (sdX X 0 0)), (1, .int x1)]) F dX7_shared_32 (by decide) rfl ?_
  refine aw_sub [3, 2, 1, 0] rfl ?_
  exact kl_X7_shared_34 F T h
-- X7_refused (height 7)
def lb_X7_refused_40 (post : Int32 → GH → Prop) (px : Nat → GH → Prop) (P40 : Int32 → Int32 → Int32 → Int32 → GH → Prop) (v2 v3 v4 v5 : Int32) (G : GH) : Prop :=
  (((G 8 0 1) ≤ v5 → ((v2 = 0 → post v3 G) ∧ (¬ v2 = 0 → post v4 G))) ∧ (¬ (G 8 0 1) ≤ v5 → (vp_in v5 13 ∧ (((G 5 4 v5.toNatClampNeg) = 0 → P40 v2 v3 v4 (v5 + (1 : Int32)) G) ∧ (¬ (G 5 4 v5.toNatClampNeg) = 0 → (vp_in v5 13 ∧ (((G 5 5 v5.toNatClampNeg) = 0 → (∀ y_15 : Int32, y_15 = (v3 ||| ((1 : Int32) <<< (v5 &&& 31))) → ((v4 = (-1 : Int32) → P40 v2 y_15 v5 (v5 + (1 : Int32)) G) ∧ (¬ v4 = (-1 : Int32) → (vp_in v5 13 ∧ (vp_in v4 13 ∧ (((G 8 3 v4.toNatClampNeg) ≤ (G 8 3 v5.toNatClampNeg) → P40 v2 y_15 v4 (v5 + (1 : Int32)) G) ∧ (¬ (G 8 3 v4.toNatClampNeg) ≤ (G 8 3 v5.toNatClampNeg) → P40 v2 y_15 v5 (v5 + (1 : Int32)) G)))))))) ∧ (¬ (G 5 5 v5.toNatClampNeg) = 0 → P40 v2 v3 v4 (v5 + (1 : Int32)) G))))))))
def lp_X7_refused_40 (post : Int32 → GH → Prop) (px : Nat → GH → Prop) (v2 v3 v4 v5 : Int32) (G : GH) : Prop := ∀ P40 : Int32 → Int32 → Int32 → Int32 → GH → Prop, (∀ (v2 v3 v4 v5 : Int32) (G : GH), lb_X7_refused_40 post px P40 v2 v3 v4 v5 G → P40 v2 v3 v4 v5 G) → P40 v2 v3 v4 v5 G
def wp_X7_refused (post : Int32 → GH → Prop) (px : Nat → GH → Prop) (x1 x2 : Int32) (G : GH) : Prop :=
  wp_X7_needWhat (fun (G_1 : GH) => wp_X7_needDay (fun (G_3 : GH) => wp_X7_likeness (fun (G_5 : GH) => wp_X4_allMarks (fun (r_8 : Int32) (G_7 : GH) => wp_X5_settleAll (fun (G_9 : GH) => lp_X7_refused_40 post px x2 (0 : Int32) (-1 : Int32) (0 : Int32) G_9) 8 6 x1 r_8 G_7) 8 G_5) G_3) px x1 G_1) px x2 (1 : Int32) G
set_option maxRecDepth 100000 in
set_option maxHeartbeats 4000000 in
theorem kl_X7_refused_40 {E : Ev} {X : Cx} {post : Int32 → GH → Prop} {px : Nat → GH → Prop} {v2 v3 v4 v5 : Int32} {G : GH} (F : Fx E X "MarkField" cX7_refused 6) (T : RTX E X 7 2 12 (some .int) (pI post) px) (h : lp_X7_refused_40 post px v2 v3 v4 v5 G) : AW E X 6 40 [(0, .ref (sdX X 0 0)), (2, .int v2), (3, .int v3), (4, .int v4), (5, .int v5)] [] G 2 12 := by
  have hP := F.P
  have K40 : ∀ (v2 v3 v4 v5 : Int32) (G : GH), AW E X 6 40 [(0, .ref (sdX X 0 0)), (2, .int v2), (3, .int v3), (4, .int v4), (5, .int v5)] [] G 2 12 → AW E X 6 40 [(0, .ref (sdX X 0 0)), (2, .int v2), (3, .int v3), (4, .int v4), (5, .int v5)] [] G 2 12 := fun _ _ _ _ _ q => q
  refine h (fun (v2 v3 v4 v5 : Int32) (G : GH) => AW E X 6 40 [(0, .ref (sdX X 0 0)), (2, .int v2), (3, .int v3), (4, .int v4), (5, .int v5)] [] G 2 12) (fun (v2 v3 v4 v5 : Int32) (G : GH) h => ?_)
  refine aw_il F 4 dX7_refused_40 rfl ?_
  refine aw_al_n F 0 dX7_refused_42 rfl rfl ?_
  refine gr7_7 F (lo_s rfl) (hP _ rfl) rfl w_301 (hP 8 rfl) dX7_refused_43 ?_
  refine gf4_1 F (lo_s rfl) (hP _ rfl) rfl w_86 dX7_refused_46 ?_
  refine aw_icmp_ge (tgt := 124) F dX7_refused_49 (by decide) (fun c_11 => ?_) (fun c_11 => ?_)
  · replace h := h.1 c_11
    refine aw_il_n F 1 dX7_refused_124 rfl rfl ?_
    refine aw_if_ne (tgt := 132) F dX7_refused_125 (by decide) (fun c_12 => ?_) (fun c_12 => ?_)
    · replace h := h.2 c_12
      refine aw_il F 3 dX7_refused_132 rfl ?_
      exact aw_iretX F T (Nat.le_of_ble_eq_true rfl) (Nat.le_of_ble_eq_true rfl) ⟨_, rfl, h⟩ dX7_refused_134
    · replace h := h.1 c_12
      refine aw_il_n F 2 dX7_refused_128 rfl rfl ?_
      refine aw_go (tgt := 134) F dX7_refused_129 (by decide) ?_
      exact aw_iretX F T (Nat.le_of_ble_eq_true rfl) (Nat.le_of_ble_eq_true rfl) ⟨_, rfl, h⟩ dX7_refused_134
  · replace h := h.2 c_11
    refine aw_al_n F 0 dX7_refused_52 rfl rfl ?_
    refine gr7_4 F (lo_s rfl) (hP _ rfl) rfl w_298 (hP 5 rfl) dX7_refused_53 ?_
    refine gr5_3 F (lo_s rfl) (hP _ rfl) rfl w_215 (hP _ rfl) dX7_refused_56 ?_
    refine aw_il F 4 dX7_refused_59 rfl ?_
    refine aw_iald F 5 4 (lo_s rfl) (hP _ rfl) rfl h.1 dX7_refused_61 ?_
    replace h := h.2
    refine aw_if_eq (tgt := 118) F dX7_refused_62 (by decide) (fun c_13 => ?_) (fun c_13 => ?_)
    · replace h := h.1 c_13
      refine aw_inc (lv1 := [(5, .int (v5 + (1 : Int32))), (0, .ref (sdX X 0 0)), (2, .int v2), (3, .int v3), (4, .int v4)]) F 4 dX7_refused_118 rfl (in_1 _) (by decide) rfl ?_
      refine aw_go (tgt := 40) F dX7_refused_121 (by decide) ?_
      refine aw_sub [1, 2, 3, 4, 0] rfl ?_
      exact K40 _ _ _ _ _ h
    · replace h := h.2 c_13
      refine aw_al_n F 0 dX7_refused_65 rfl rfl ?_
      refine gr7_4 F (lo_s rfl) (hP _ rfl) rfl w_298 (hP 5 rfl) dX7_refused_66 ?_
      refine gr5_4 F (lo_s rfl) (hP _ rfl) rfl w_218 (hP _ rfl) dX7_refused_69 ?_
      refine aw_il F 4 dX7_refused_72 rfl ?_
      refine aw_iald F 5 5 (lo_s rfl) (hP _ rfl) rfl h.1 dX7_refused_74 ?_
      replace h := h.2
      refine aw_if_ne (tgt := 118) F dX7_refused_75 (by decide) (fun c_14 => ?_) (fun c_14 => ?_)
      · replace h := h.2 c_14
        refine aw_inc (lv1 := [(5, .int (v5 + (1 : Int32))), (0, .ref (sdX X 0 0)), (2, .int v2), (3, .int v3), (4, .int v4)]) F 4 dX7_refused_118 rfl (in_1 _) (by decide) rfl ?_
        refine aw_go (tgt := 40) F dX7_refused_121 (by decide) ?_
        refine aw_sub [1, 2, 3, 4, 0] rfl ?_
        exact K40 _ _ _ _ _ h
      · replace h := h.1 c_14
        refine aw_il_n F 2 dX7_refused_78 rfl rfl ?_
        refine aw_ic F dX7_refused_79 ic_1 ?_
        refine aw_il F 4 dX7_refused_80 rfl ?_
        refine aw_ishl F dX7_refused_82 ?_
        refine aw_ior F dX7_refused_83 ?_
        refine aw_top (fun y_15 ey_15 => ?_)
        replace h := h y_15 ey_15
        refine aw_is_n (lv1 := [(3, .int y_15), (0, .ref (sdX X 0 0)), (2, .int v2), (4, .int v4), (5, .int v5)]) F dX7_refused_84 rfl (by decide) rfl ?_
        refine aw_il F 3 dX7_refused_85 rfl ?_
        refine aw_ic F dX7_refused_87 ic_m1 ?_
        refine aw_icmp_eq (tgt := 114) F dX7_refused_88 (by decide) (fun c_16 => ?_) (fun c_16 => ?_)
        · replace h := h.1 c_16
          refine aw_il F 4 dX7_refused_114 rfl ?_
          refine aw_is (lv1 := [(4, .int v5), (3, .int y_15), (0, .ref (sdX X 0 0)), (2, .int v2), (5, .int v5)]) F dX7_refused_116 (by decide) rfl ?_
          refine aw_inc (lv1 := [(5, .int (v5 + (1 : Int32))), (4, .int v5), (3, .int y_15), (0, .ref (sdX X 0 0)), (2, .int v2)]) F 4 dX7_refused_118 rfl (in_1 _) (by decide) rfl ?_
          refine aw_go (tgt := 40) F dX7_refused_121 (by decide) ?_
          refine aw_sub [3, 4, 2, 1, 0] rfl ?_
          exact K40 _ _ _ _ _ h
        · replace h := h.2 c_16
          refine aw_al_n F 1 dX7_refused_91 rfl rfl ?_
          refine gr7_7 F (lo_s rfl) (hP _ rfl) rfl w_301 (hP 8 rfl) dX7_refused_92 ?_
          refine gr4_2 F (lo_s rfl) (hP _ rfl) rfl w_90 (hP _ rfl) dX7_refused_95 ?_
          refine aw_il F 4 dX7_refused_98 rfl ?_
          refine aw_iald F 8 3 (lo_s rfl) (hP _ rfl) rfl h.1 dX7_refused_100 ?_
          replace h := h.2
          refine aw_al_n F 1 dX7_refused_101 rfl rfl ?_
          refine gr7_7 F (lo_s rfl) (hP _ rfl) rfl w_301 (hP 8 rfl) dX7_refused_102 ?_
          refine gr4_2 F (lo_s rfl) (hP _ rfl) rfl w_90 (hP _ rfl) dX7_refused_105 ?_
          refine aw_il F 3 dX7_refused_108 rfl ?_
          refine aw_iald F 8 3 (lo_s rfl) (hP _ rfl) rfl h.1 dX7_refused_110 ?_
          replace h := h.2
          refine aw_icmp_ge (tgt := 118) F dX7_refused_111 (by decide) (fun c_17 => ?_) (fun c_17 => ?_)
          · replace h := h.1 c_17
            refine aw_inc (lv1 := [(5, .int (v5 + (1 : Int32))), (3, .int y_15), (0, .ref (sdX X 0 0)), (2, .int v2), (4, .int v4)]) F 4 dX7_refused_118 rfl (in_1 _) (by decide) rfl ?_
            refine aw_go (tgt := 40) F dX7_refused_121 (by decide) ?_
            refine aw_sub [2, 3, 1, 4, 0] rfl ?_
            exact K40 _ _ _ _ _ h
          · replace h := h.2 c_17
            refine aw_il F 4 dX7_refused_114 rfl ?_
            refine aw_is (lv1 := [(4, .int v5), (3, .int y_15), (0, .ref (sdX X 0 0)), (2, .int v2), (5, .int v5)]) F dX7_refused_116 (by decide) rfl ?_
            refine aw_inc (lv1 := [(5, .int (v5 + (1 : Int32))), (4, .int v5), (3, .int y_15), (0, .ref (sdX X 0 0)), (2, .int v2)]) F 4 dX7_refused_118 rfl (in_1 _) (by decide) rfl ?_
            refine aw_go (tgt := 40) F dX7_refused_121 (by decide) ?_
            refine aw_sub [3, 4, 2, 1, 0] rfl ?_
            exact K40 _ _ _ _ _ h
set_option maxRecDepth 100000 in
set_option maxHeartbeats 4000000 in
theorem k_X7_refused {l : Launch} {E : Ev} {P : Nat → Prop} {sd : Nat → Nat → Nat} {G : GH} {post : Int32 → GH → Prop} {px : Nat → GH → Prop} {x1 x2 : Int32} (hl0 : l.stackTraces = false) (hPP : ∀ o, stt o = true → P o) (h : wp_X7_refused post px x1 x2 G) : CtX l yX7_refused cX7_refused 6 (some .int) 7 2 12 E P sd G [.ref (sd 0 0), .int x1, .int x2] (pI post) px := by
  refine ctx_of hl0 (own := "MarkField") (by decide) rfl (Nat.le_of_ble_eq_true rfl) hPP (fun X F T el eP es => ?_)
  subst el; subst eP; subst es
  have hP := F.P
  change AW E X 6 0 [(0, .ref (sdX X 0 0)), (1, .int x1), (2, .int x2)] [] G 0 0
  refine aw_il_n F 2 dX7_refused_0 rfl rfl ?_
  refine aw_ic F dX7_refused_1 ic_1 ?_
  refine aw_cSXv (stk := []) F T [.int x2, .int (1 : Int32)] (k_X7_needWhat T.tr hP h) ms_X7_needWhat w_780 rfl rfl (Nat.le_of_ble_eq_true rfl) ⟨(Nat.le_of_ble_eq_true rfl), (Nat.le_of_ble_eq_true rfl)⟩ ⟨(Nat.le_of_ble_eq_true rfl), (Nat.le_of_ble_eq_true rfl)⟩ ⟨rfl, rfl⟩ dX7_refused_2 (fun _ _ q => q) (fun G_1 h => ?_)
  refine aw_il_n F 1 dX7_refused_5 rfl rfl ?_
  refine aw_cSXv (stk := []) F T [.int x1] (k_X7_needDay T.tr hP h) ms_X7_needDay w_822 rfl rfl (Nat.le_of_ble_eq_true rfl) ⟨(Nat.le_of_ble_eq_true rfl), (Nat.le_of_ble_eq_true rfl)⟩ ⟨(Nat.le_of_ble_eq_true rfl), (Nat.le_of_ble_eq_true rfl)⟩ ⟨rfl, rfl⟩ dX7_refused_6 (fun _ _ q => q) (fun G_3 h => ?_)
  refine aw_al_n F 0 dX7_refused_9 rfl rfl ?_
  refine gr7_4 F (lo_s rfl) (hP _ rfl) rfl w_298 (hP 5 rfl) dX7_refused_10 ?_
  refine aw_al_n F 0 dX7_refused_13 rfl rfl ?_
  refine gr7_7 F (lo_s rfl) (hP _ rfl) rfl w_301 (hP 8 rfl) dX7_refused_14 ?_
  refine aw_al_n F 0 dX7_refused_17 rfl rfl ?_
  refine aw_cVr (stk := [.ref (sdX X 8 0), .ref (sdX X 5 0)]) F T.room [] (k_X7_likeness hP h) mv_X7_likeness w_635 cf7 (lo_s rfl) (hP _ rfl) rfl (by decide) rfl rfl (Nat.le_of_ble_eq_true rfl) ⟨(Nat.le_of_ble_eq_true rfl), (Nat.le_of_ble_eq_true rfl)⟩ ⟨(Nat.le_of_ble_eq_true rfl), (Nat.le_of_ble_eq_true rfl)⟩ dX7_refused_18 (fun G_5 h => ?_)
  refine aw_il_n F 1 dX7_refused_21 rfl rfl ?_
  refine aw_al_n F 0 dX7_refused_22 rfl rfl ?_
  refine gr7_7 F (lo_s rfl) (hP _ rfl) rfl w_301 (hP 8 rfl) dX7_refused_23 ?_
  refine aw_cVi (stk := [.int x1, .ref (sdX X 6 0), .ref (sdX X 8 0), .ref (sdX X 5 0)]) F T.room [] (k_X4_allMarks hP rfl rfl h) mv_X4_allMarks w_891 cf4 (lo_s rfl) (hP _ rfl) rfl (by decide) rfl rfl (Nat.le_of_ble_eq_true rfl) ⟨(Nat.le_of_ble_eq_true rfl), (Nat.le_of_ble_eq_true rfl)⟩ ⟨(Nat.le_of_ble_eq_true rfl), (Nat.le_of_ble_eq_true rfl)⟩ dX7_refused_26 (fun r_8 G_7 h => ?_)
  refine aw_cVv (stk := []) F T.room [.ref (sdX X 8 0), .ref (sdX X 6 0), .int x1, .int r_8] (k_X5_settleAll hP rfl rfl rfl rfl h) mv_X5_settleAll w_869 cf5 (lo_s rfl) (hP _ rfl) rfl (by decide) rfl rfl (Nat.le_of_ble_eq_true rfl) ⟨(Nat.le_of_ble_eq_true rfl), (Nat.le_of_ble_eq_true rfl)⟩ ⟨(Nat.le_of_ble_eq_true rfl), (Nat.le_of_ble_eq_true rfl)⟩ dX7_refused_29 (fun G_9 h => ?_)
  refine aw_ic F dX7_refused_32 ic_0 ?_
  refine aw_is_n (lv1 := [(3, .int (0 : Int32)), (0, .ref (sdX X 0 0)), (1, .int x1), (2, .int x2)]) F dX7_refused_33 rfl (by decide) rfl ?_
  refine aw_ic F dX7_refused_34 ic_m1 ?_
  refine aw_is (lv1 := [(4, .int (-1 : Int32)), (3, .int (0 : Int32)), (0, .ref (sdX X 0 0)), (1, .int x1), (2, .int x2)]) F dX7_refused_35 (by decide) rfl ?_
  refine aw_ic F dX7_refused_37 ic_0 ?_
  refine aw_is (lv1 := [(5, .int (0 : Int32)), (4, .int (-1 : Int32)), (3, .int (0 : Int32)), (0, .ref (sdX X 0 0)), (1, .int x1), (2, .int x2)]) F dX7_refused_38 (by decide) rfl ?_
  refine aw_sub [3, 5, 2, 1, 0] rfl ?_
  exact kl_X7_refused_40 F T h
-- X7_firstDay (height 7)
def lb_X7_firstDay_32 (post : Int32 → GH → Prop) (px : Nat → GH → Prop) (P32 : Int32 → Int32 → Int32 → Int32 → Int32 → GH → Prop) (v1 v2 v4 v5 v6 : Int32) (G : GH) : Prop :=
  (((9999 : Int32) < v6 → post (-1 : Int32) G) ∧ (¬ (9999 : Int32) < v6 → (((9999 : Int32) < v5 → post (-1 : Int32) G) ∧ (¬ (9999 : Int32) < v5 → wp_X5_rank (fun (G_11 : GH) => wp_X5_settle (fun (G_13 : GH) => wp_X7_isIn (fun (b_16 : Bool) (G_15 : GH) => ((b_16 = false → wp_X4_nextChange (fun (r_19 : Int32) (G_18 : GH) => P32 v1 v2 v4 r_19 (v6 + (1 : Int32)) G_18) 8 v2 v5 v4 G_15) ∧ (b_16 = true → post v5 G_15))) v1 (G_13 5 0 7) G_13) 8 6 v2 G_11) 8 v2 v5 v4 G))))
def lp_X7_firstDay_32 (post : Int32 → GH → Prop) (px : Nat → GH → Prop) (v1 v2 v4 v5 v6 : Int32) (G : GH) : Prop := ∀ P32 : Int32 → Int32 → Int32 → Int32 → Int32 → GH → Prop, (∀ (v1 v2 v4 v5 v6 : Int32) (G : GH), lb_X7_firstDay_32 post px P32 v1 v2 v4 v5 v6 G → P32 v1 v2 v4 v5 v6 G) → P32 v1 v2 v4 v5 v6 G
def wp_X7_firstDay (post : Int32 → GH → Prop) (px : Nat → GH → Prop) (x1 x2 : Int32) (G : GH) : Prop :=
  wp_X7_needMark (fun (G_1 : GH) => wp_X7_needHalf (fun (G_3 : GH) => wp_X7_likeness (fun (G_5 : GH) => wp_X1_groupOf (fun (r_8 : Int32) (G_7 : GH) => lp_X7_firstDay_32 post px x1 x2 r_8 (0 : Int32) (0 : Int32) G_7) 6 8 x1 G_5) G_3) px x2 G_1) px x1 G
set_option maxRecDepth 100000 in
set_option maxHeartbeats 4000000 in
theorem kl_X7_firstDay_32 {E : Ev} {X : Cx} {post : Int32 → GH → Prop} {px : Nat → GH → Prop} {v1 v2 v4 v5 v6 : Int32} {G : GH} (F : Fx E X "MarkField" cX7_firstDay 7) (T : RTX E X 7 2 12 (some .int) (pI post) px) (h : lp_X7_firstDay_32 post px v1 v2 v4 v5 v6 G) : AW E X 7 32 [(0, .ref (sdX X 0 0)), (1, .int v1), (2, .int v2), (3, .ref (sdX X 6 0)), (4, .int v4), (5, .int v5), (6, .int v6)] [] G 2 12 := by
  have hP := F.P
  have K32 : ∀ (v1 v2 v4 v5 v6 : Int32) (G : GH), AW E X 7 32 [(0, .ref (sdX X 0 0)), (1, .int v1), (2, .int v2), (3, .ref (sdX X 6 0)), (4, .int v4), (5, .int v5), (6, .int v6)] [] G 2 12 → AW E X 7 32 [(0, .ref (sdX X 0 0)), (1, .int v1), (2, .int v2), (3, .ref (sdX X 6 0)), (4, .int v4), (5, .int v5), (6, .int v6)] [] G 2 12 := fun _ _ _ _ _ _ q => q
  refine h (fun (v1 v2 v4 v5 v6 : Int32) (G : GH) => AW E X 7 32 [(0, .ref (sdX X 0 0)), (1, .int v1), (2, .int v2), (3, .ref (sdX X 6 0)), (4, .int v4), (5, .int v5), (6, .int v6)] [] G 2 12) (fun (v1 v2 v4 v5 v6 : Int32) (G : GH) h => ?_)
  refine aw_il F 6 dX7_firstDay_32 rfl ?_
  refine aw_si F dX7_firstDay_34 si_9999 ?_
  refine aw_icmp_gt (tgt := 114) F dX7_firstDay_37 (by decide) (fun c_9 => ?_) (fun c_9 => ?_)
  · replace h := h.1 c_9
    refine aw_ic F dX7_firstDay_114 ic_m1 ?_
    exact aw_iretX F T (Nat.le_of_ble_eq_true rfl) (Nat.le_of_ble_eq_true rfl) ⟨_, rfl, h⟩ dX7_firstDay_115
  · replace h := h.2 c_9
    refine aw_il F 5 dX7_firstDay_40 rfl ?_
    refine aw_si F dX7_firstDay_42 si_9999 ?_
    refine aw_icmp_gt (tgt := 114) F dX7_firstDay_45 (by decide) (fun c_10 => ?_) (fun c_10 => ?_)
    · replace h := h.1 c_10
      refine aw_ic F dX7_firstDay_114 ic_m1 ?_
      exact aw_iretX F T (Nat.le_of_ble_eq_true rfl) (Nat.le_of_ble_eq_true rfl) ⟨_, rfl, h⟩ dX7_firstDay_115
    · replace h := h.2 c_10
      refine aw_al_n F 0 dX7_firstDay_48 rfl rfl ?_
      refine gr7_4 F (lo_s rfl) (hP _ rfl) rfl w_298 (hP 5 rfl) dX7_firstDay_49 ?_
      refine aw_al_n F 0 dX7_firstDay_52 rfl rfl ?_
      refine gr7_7 F (lo_s rfl) (hP _ rfl) rfl w_301 (hP 8 rfl) dX7_firstDay_53 ?_
      refine aw_il_n F 2 dX7_firstDay_56 rfl rfl ?_
      refine aw_il F 5 dX7_firstDay_57 rfl ?_
      refine aw_il F 4 dX7_firstDay_59 rfl ?_
      refine aw_cVv (stk := []) F T.room [.ref (sdX X 8 0), .int v2, .int v5, .int v4] (k_X5_rank hP rfl rfl h) mv_X5_rank w_843 cf5 (lo_s rfl) (hP _ rfl) rfl (by decide) rfl rfl (Nat.le_of_ble_eq_true rfl) ⟨(Nat.le_of_ble_eq_true rfl), (Nat.le_of_ble_eq_true rfl)⟩ ⟨(Nat.le_of_ble_eq_true rfl), (Nat.le_of_ble_eq_true rfl)⟩ dX7_firstDay_61 (fun G_11 h => ?_)
      refine aw_al_n F 0 dX7_firstDay_64 rfl rfl ?_
      refine gr7_4 F (lo_s rfl) (hP _ rfl) rfl w_298 (hP 5 rfl) dX7_firstDay_65 ?_
      refine aw_al_n F 0 dX7_firstDay_68 rfl rfl ?_
      refine gr7_7 F (lo_s rfl) (hP _ rfl) rfl w_301 (hP 8 rfl) dX7_firstDay_69 ?_
      refine aw_al_n F 3 dX7_firstDay_72 rfl rfl ?_
      refine aw_il_n F 2 dX7_firstDay_73 rfl rfl ?_
      refine aw_cVv (stk := []) F T.room [.ref (sdX X 8 0), .ref (sdX X 6 0), .int v2] (k_X5_settle hP rfl rfl rfl rfl h) mv_X5_settle w_849 cf5 (lo_s rfl) (hP _ rfl) rfl (by decide) rfl rfl (Nat.le_of_ble_eq_true rfl) ⟨(Nat.le_of_ble_eq_true rfl), (Nat.le_of_ble_eq_true rfl)⟩ ⟨(Nat.le_of_ble_eq_true rfl), (Nat.le_of_ble_eq_true rfl)⟩ dX7_firstDay_74 (fun G_13 h => ?_)
      refine aw_il_n F 1 dX7_firstDay_77 rfl rfl ?_
      refine aw_al_n F 0 dX7_firstDay_78 rfl rfl ?_
      refine gr7_4 F (lo_s rfl) (hP _ rfl) rfl w_298 (hP 5 rfl) dX7_firstDay_79 ?_
      refine gf5_7 F (lo_s rfl) (hP _ rfl) rfl w_223 dX7_firstDay_82 ?_
      refine aw_cSb (stk := []) F T.room [.int v1, .int (G_13 5 0 7)] (k_X7_isIn hP h) ms_X7_isIn w_603 rfl rfl (Nat.le_of_ble_eq_true rfl) ⟨(Nat.le_of_ble_eq_true rfl), (Nat.le_of_ble_eq_true rfl)⟩ ⟨(Nat.le_of_ble_eq_true rfl), (Nat.le_of_ble_eq_true rfl)⟩ dX7_firstDay_85 (fun b_16 G_15 h => ?_)
      refine aw_if_eq (tgt := 94) F dX7_firstDay_88 (by decide) (fun c_17 => ?_) (fun c_17 => ?_)
      · replace h := h.1 (bI_2 c_17)
        refine aw_al_n F 0 dX7_firstDay_94 rfl rfl ?_
        refine gr7_7 F (lo_s rfl) (hP _ rfl) rfl w_301 (hP 8 rfl) dX7_firstDay_95 ?_
        refine aw_il_n F 2 dX7_firstDay_98 rfl rfl ?_
        refine aw_il F 5 dX7_firstDay_99 rfl ?_
        refine aw_il F 4 dX7_firstDay_101 rfl ?_
        refine aw_cVi (stk := []) F T.room [.int v2, .int v5, .int v4] (k_X4_nextChange hP rfl rfl h) mv_X4_nextChange w_924 cf4 (lo_s rfl) (hP _ rfl) rfl (by decide) rfl rfl (Nat.le_of_ble_eq_true rfl) ⟨(Nat.le_of_ble_eq_true rfl), (Nat.le_of_ble_eq_true rfl)⟩ ⟨(Nat.le_of_ble_eq_true rfl), (Nat.le_of_ble_eq_true rfl)⟩ dX7_firstDay_103 (fun r_19 G_18 h => ?_)
        refine aw_is (lv1 := [(5, .int r_19), (0, .ref (sdX X 0 0)), (1, .int v1), (2, .int v2), (3, .ref (sdX X 6 0)), (4, .int v4), (6, .int v6)]) F dX7_firstDay_106 (by decide) rfl ?_
        refine aw_inc (lv1 := [(6, .int (v6 + (1 : Int32))), (5, .int r_19), (0, .ref (sdX X 0 0)), (1, .int v1), (2, .int v2), (3, .ref (sdX X 6 0)), (4, .int v4)]) F 6 dX7_firstDay_108 rfl (in_1 _) (by decide) rfl ?_
        refine aw_go (tgt := 32) F dX7_firstDay_111 (by decide) ?_
        refine aw_sub [2, 3, 4, 5, 6, 1, 0] rfl ?_
        exact K32 _ _ _ _ _ _ h
      · replace h := h.2 (bI_1 c_17)
        refine aw_il F 5 dX7_firstDay_91 rfl ?_
        exact aw_iretX F T (Nat.le_of_ble_eq_true rfl) (Nat.le_of_ble_eq_true rfl) ⟨_, rfl, h⟩ dX7_firstDay_93
set_option maxRecDepth 100000 in
set_option maxHeartbeats 4000000 in
theorem k_X7_firstDay {l : Launch} {E : Ev} {P : Nat → Prop} {sd : Nat → Nat → Nat} {G : GH} {post : Int32 → GH → Prop} {px : Nat → GH → Prop} {x1 x2 : Int32} (hl0 : l.stackTraces = false) (hPP : ∀ o, stt o = true → P o) (h : wp_X7_firstDay post px x1 x2 G) : CtX l yX7_firstDay cX7_firstDay 7 (some .int) 7 2 12 E P sd G [.ref (sd 0 0), .int x1, .int x2] (pI post) px := by
  refine ctx_of hl0 (own := "MarkField") (by decide) rfl (Nat.le_of_ble_eq_true rfl) hPP (fun X F T el eP es => ?_)
  subst el; subst eP; subst es
  have hP := F.P
  change AW E X 7 0 [(0, .ref (sdX X 0 0)), (1, .int x1), (2, .int x2)] [] G 0 0
  refine aw_al_n F 0 dX7_firstDay_0 rfl rfl ?_
  refine aw_il_n F 1 dX7_firstDay_1 rfl rfl ?_
  refine aw_cVXv (stk := []) F T [.int x1] (k_X7_needMark T.tr hP h) mv_X7_needMark w_752 cf7 (lo_s rfl) (hP _ rfl) rfl (by decide) rfl rfl (Nat.le_of_ble_eq_true rfl) ⟨(Nat.le_of_ble_eq_true rfl), (Nat.le_of_ble_eq_true rfl)⟩ ⟨(Nat.le_of_ble_eq_true rfl), (Nat.le_of_ble_eq_true rfl)⟩ ⟨rfl, rfl⟩ dX7_firstDay_2 (fun _ _ q => q) (fun G_1 h => ?_)
  refine aw_al_n F 0 dX7_firstDay_5 rfl rfl ?_
  refine aw_il_n F 2 dX7_firstDay_6 rfl rfl ?_
  refine aw_cVXv (stk := []) F T [.int x2] (k_X7_needHalf T.tr hP h) mv_X7_needHalf w_817 cf7 (lo_s rfl) (hP _ rfl) rfl (by decide) rfl rfl (Nat.le_of_ble_eq_true rfl) ⟨(Nat.le_of_ble_eq_true rfl), (Nat.le_of_ble_eq_true rfl)⟩ ⟨(Nat.le_of_ble_eq_true rfl), (Nat.le_of_ble_eq_true rfl)⟩ ⟨rfl, rfl⟩ dX7_firstDay_7 (fun _ _ q => q) (fun G_3 h => ?_)
  refine aw_al_n F 0 dX7_firstDay_10 rfl rfl ?_
  refine aw_cVr (stk := []) F T.room [] (k_X7_likeness hP h) mv_X7_likeness w_635 cf7 (lo_s rfl) (hP _ rfl) rfl (by decide) rfl rfl (Nat.le_of_ble_eq_true rfl) ⟨(Nat.le_of_ble_eq_true rfl), (Nat.le_of_ble_eq_true rfl)⟩ ⟨(Nat.le_of_ble_eq_true rfl), (Nat.le_of_ble_eq_true rfl)⟩ dX7_firstDay_11 (fun G_5 h => ?_)
  refine aw_as_n (lv1 := [(3, .ref (sdX X 6 0)), (0, .ref (sdX X 0 0)), (1, .int x1), (2, .int x2)]) F dX7_firstDay_14 rfl (by decide) rfl ?_
  refine aw_al_n F 0 dX7_firstDay_15 rfl rfl ?_
  refine aw_al_n F 1 dX7_firstDay_16 rfl rfl ?_
  refine gr7_7 F (lo_s rfl) (hP _ rfl) rfl w_301 (hP 8 rfl) dX7_firstDay_17 ?_
  refine aw_il_n F 2 dX7_firstDay_20 rfl rfl ?_
  refine aw_cVi (stk := []) F T.room [.ref (sdX X 8 0), .int x1] (k_X1_groupOf hP rfl rfl rfl rfl h) mv_X1_groupOf w_839 cf1 (lo_s rfl) (hP _ rfl) rfl (by decide) rfl rfl (Nat.le_of_ble_eq_true rfl) ⟨(Nat.le_of_ble_eq_true rfl), (Nat.le_of_ble_eq_true rfl)⟩ ⟨(Nat.le_of_ble_eq_true rfl), (Nat.le_of_ble_eq_true rfl)⟩ dX7_firstDay_21 (fun r_8 G_7 h => ?_)
  refine aw_is (lv1 := [(4, .int r_8), (3, .ref (sdX X 6 0)), (0, .ref (sdX X 0 0)), (1, .int x1), (2, .int x2)]) F dX7_firstDay_24 (by decide) rfl ?_
  refine aw_ic F dX7_firstDay_26 ic_0 ?_
  refine aw_is (lv1 := [(5, .int (0 : Int32)), (4, .int r_8), (3, .ref (sdX X 6 0)), (0, .ref (sdX X 0 0)), (1, .int x1), (2, .int x2)]) F dX7_firstDay_27 (by decide) rfl ?_
  refine aw_ic F dX7_firstDay_29 ic_0 ?_
  refine aw_is (lv1 := [(6, .int (0 : Int32)), (5, .int (0 : Int32)), (4, .int r_8), (3, .ref (sdX X 6 0)), (0, .ref (sdX X 0 0)), (1, .int x1), (2, .int x2)]) F dX7_firstDay_30 (by decide) rfl ?_
  refine aw_sub [4, 5, 6, 3, 2, 1, 0] rfl ?_
  exact kl_X7_firstDay_32 F T h
-- X7_would (height 8)
def wp_X7_would (post : Int32 → GH → Prop) (px : Nat → GH → Prop) (x1 x2 x3 x4 : Int32) (G : GH) : Prop :=
  wp_X7_needWhat (fun (G_1 : GH) => wp_X7_needFiling (fun (G_3 : GH) => wp_X6_takeName (fun (b_6 : Bool) (G_5 : GH) => ((b_6 = false → post (-1000000000 : Int32) G_5) ∧ (b_6 = true → wp_X7_likeness (fun (G_8 : GH) => wp_X7_imagine (fun (r_11 : Int32) (G_10 : GH) => ((x4 = (2 : Int32) → wp_X1_fieldOf (fun (r_22 : Int32) (G_21 : GH) => post r_22 G_21) 7 r_11 G_10) ∧ (¬ x4 = (2 : Int32) → ((x4 = (3 : Int32) → wp_X7_firstFreeDay (fun (r_20 : Int32) (G_19 : GH) => post r_20 G_19) r_11 x3 G_10) ∧ (¬ x4 = (3 : Int32) → wp_X1_groupOf (fun (r_15 : Int32) (G_14 : GH) => wp_X5_settleAll (fun (G_16 : GH) => ((x4 = 0 → (vp_in r_11 13 ∧ post (G_16 5 5 r_11.toNatClampNeg) G_16)) ∧ (¬ x4 = 0 → (vp_in r_11 13 ∧ post (G_16 5 6 r_11.toNatClampNeg) G_16)))) 9 7 x3 r_15 G_14) 7 9 r_11 G_10))))) 6 x1 x2 x3 G_8) G_5))) x1 G_3) px x1 x2 x3 G_1) px x4 (3 : Int32) G
set_option maxRecDepth 100000 in
set_option maxHeartbeats 4000000 in
theorem k_X7_would {l : Launch} {E : Ev} {P : Nat → Prop} {sd : Nat → Nat → Nat} {G : GH} {post : Int32 → GH → Prop} {px : Nat → GH → Prop} {x1 x2 x3 x4 : Int32} (hl0 : l.stackTraces = false) (hPP : ∀ o, stt o = true → P o) (h : wp_X7_would post px x1 x2 x3 x4 G) : CtX l yX7_would cX7_would 6 (some .int) 8 4 24 E P sd G [.ref (sd 0 0), .int x1, .int x2, .int x3, .int x4] (pI post) px := by
  refine ctx_of hl0 (own := "MarkField") (by decide) rfl (Nat.le_of_ble_eq_true rfl) hPP (fun X F T el eP es => ?_)
  subst el; subst eP; subst es
  have hP := F.P
  change AW E X 6 0 [(0, .ref (sdX X 0 0)), (1, .int x1), (2, .int x2), (3, .int x3), (4, .int x4)] [] G 0 0
  refine aw_il F 4 dX7_would_0 rfl ?_
  refine aw_ic F dX7_would_2 ic_3 ?_
  refine aw_cSXv (stk := []) F T [.int x4, .int (3 : Int32)] (k_X7_needWhat T.tr hP h) ms_X7_needWhat w_780 rfl rfl (Nat.le_of_ble_eq_true rfl) ⟨(Nat.le_of_ble_eq_true rfl), (Nat.le_of_ble_eq_true rfl)⟩ ⟨(Nat.le_of_ble_eq_true rfl), (Nat.le_of_ble_eq_true rfl)⟩ ⟨rfl, rfl⟩ dX7_would_3 (fun _ _ q => q) (fun G_1 h => ?_)
  refine aw_al_n F 0 dX7_would_6 rfl rfl ?_
  refine aw_il_n F 1 dX7_would_7 rfl rfl ?_
  refine aw_il_n F 2 dX7_would_8 rfl rfl ?_
  refine aw_il_n F 3 dX7_would_9 rfl rfl ?_
  refine aw_cVXv (stk := []) F T [.int x1, .int x2, .int x3] (k_X7_needFiling T.tr hP h) mv_X7_needFiling w_938 cf7 (lo_s rfl) (hP _ rfl) rfl (by decide) rfl rfl (Nat.le_of_ble_eq_true rfl) ⟨(Nat.le_of_ble_eq_true rfl), (Nat.le_of_ble_eq_true rfl)⟩ ⟨(Nat.le_of_ble_eq_true rfl), (Nat.le_of_ble_eq_true rfl)⟩ ⟨rfl, rfl⟩ dX7_would_10 (fun _ _ q => q) (fun G_3 h => ?_)
  refine aw_al_n F 0 dX7_would_13 rfl rfl ?_
  refine gr7_0 F (lo_s rfl) (hP _ rfl) rfl w_294 (hP 1 rfl) dX7_would_14 ?_
  refine aw_il_n F 1 dX7_would_17 rfl rfl ?_
  refine aw_cVb (stk := []) F T.room [.int x1] (k_X6_takeName hP h) mv_X6_takeName w_942 cf6 (lo_s rfl) (hP _ rfl) rfl (by decide) rfl rfl (Nat.le_of_ble_eq_true rfl) ⟨(Nat.le_of_ble_eq_true rfl), (Nat.le_of_ble_eq_true rfl)⟩ ⟨(Nat.le_of_ble_eq_true rfl), (Nat.le_of_ble_eq_true rfl)⟩ dX7_would_18 (fun b_6 G_5 h => ?_)
  refine aw_if_ne (tgt := 28) F dX7_would_21 (by decide) (fun c_7 => ?_) (fun c_7 => ?_)
  · replace h := h.2 (bI_1 c_7)
    refine aw_al_n F 0 dX7_would_28 rfl rfl ?_
    refine aw_al_n F 0 dX7_would_29 rfl rfl ?_
    refine aw_cVr (stk := [.ref (sdX X 0 0)]) F T.room [] (k_X7_likeness hP h) mv_X7_likeness w_635 cf7 (lo_s rfl) (hP _ rfl) rfl (by decide) rfl rfl (Nat.le_of_ble_eq_true rfl) ⟨(Nat.le_of_ble_eq_true rfl), (Nat.le_of_ble_eq_true rfl)⟩ ⟨(Nat.le_of_ble_eq_true rfl), (Nat.le_of_ble_eq_true rfl)⟩ dX7_would_30 (fun G_8 h => ?_)
    refine aw_il_n F 1 dX7_would_33 rfl rfl ?_
    refine aw_il_n F 2 dX7_would_34 rfl rfl ?_
    refine aw_il_n F 3 dX7_would_35 rfl rfl ?_
    refine aw_cVi (stk := []) F T.room [.ref (sdX X 6 0), .int x1, .int x2, .int x3] (k_X7_imagine hP rfl rfl h) mv_X7_imagine w_947 cf7 (lo_s rfl) (hP _ rfl) rfl (by decide) rfl rfl (Nat.le_of_ble_eq_true rfl) ⟨(Nat.le_of_ble_eq_true rfl), (Nat.le_of_ble_eq_true rfl)⟩ ⟨(Nat.le_of_ble_eq_true rfl), (Nat.le_of_ble_eq_true rfl)⟩ dX7_would_36 (fun r_11 G_10 h => ?_)
    refine aw_is (lv1 := [(5, .int r_11), (0, .ref (sdX X 0 0)), (1, .int x1), (2, .int x2), (3, .int x3), (4, .int x4)]) F dX7_would_39 (by decide) rfl ?_
    refine aw_il F 5 dX7_would_41 rfl ?_
    refine aw_ic F dX7_would_43 ic_2 ?_
    refine aw_icmp_ne (tgt := 57) F dX7_would_44 (by decide) (fun c_12 => ?_) (fun c_12 => ?_)
    · replace h := h.2 c_12
      refine aw_il F 5 dX7_would_57 rfl ?_
      refine aw_ic F dX7_would_59 ic_3 ?_
      refine aw_icmp_ne (tgt := 71) F dX7_would_60 (by decide) (fun c_13 => ?_) (fun c_13 => ?_)
      · replace h := h.2 c_13
        refine aw_al_n F 1 dX7_would_71 rfl rfl ?_
        refine gr7_4 F (lo_s rfl) (hP _ rfl) rfl w_298 (hP 5 rfl) dX7_would_72 ?_
        refine aw_al_n F 1 dX7_would_75 rfl rfl ?_
        refine gr7_8 F (lo_s rfl) (hP _ rfl) rfl w_302 (hP 9 rfl) dX7_would_76 ?_
        refine aw_al_n F 1 dX7_would_79 rfl rfl ?_
        refine gr7_6 F (lo_s rfl) (hP _ rfl) rfl w_300 (hP 7 rfl) dX7_would_80 ?_
        refine aw_il_n F 4 dX7_would_83 rfl rfl ?_
        refine aw_al_n F 1 dX7_would_84 rfl rfl ?_
        refine gr7_6 F (lo_s rfl) (hP _ rfl) rfl w_300 (hP 7 rfl) dX7_would_85 ?_
        refine aw_al_n F 1 dX7_would_88 rfl rfl ?_
        refine gr7_8 F (lo_s rfl) (hP _ rfl) rfl w_302 (hP 9 rfl) dX7_would_89 ?_
        refine aw_il F 0 dX7_would_92 rfl ?_
        refine aw_cVi (stk := [.int x3, .ref (sdX X 7 0), .ref (sdX X 9 0), .ref (sdX X 5 0)]) F T.room [.ref (sdX X 9 0), .int r_11] (k_X1_groupOf hP rfl rfl rfl rfl h) mv_X1_groupOf w_839 cf1 (lo_s rfl) (hP _ rfl) rfl (by decide) rfl rfl (Nat.le_of_ble_eq_true rfl) ⟨(Nat.le_of_ble_eq_true rfl), (Nat.le_of_ble_eq_true rfl)⟩ ⟨(Nat.le_of_ble_eq_true rfl), (Nat.le_of_ble_eq_true rfl)⟩ dX7_would_94 (fun r_15 G_14 h => ?_)
        refine aw_cVv (stk := []) F T.room [.ref (sdX X 9 0), .ref (sdX X 7 0), .int x3, .int r_15] (k_X5_settleAll hP rfl rfl rfl rfl h) mv_X5_settleAll w_869 cf5 (lo_s rfl) (hP _ rfl) rfl (by decide) rfl rfl (Nat.le_of_ble_eq_true rfl) ⟨(Nat.le_of_ble_eq_true rfl), (Nat.le_of_ble_eq_true rfl)⟩ ⟨(Nat.le_of_ble_eq_true rfl), (Nat.le_of_ble_eq_true rfl)⟩ dX7_would_97 (fun G_16 h => ?_)
        refine aw_il F 5 dX7_would_100 rfl ?_
        refine aw_if_ne (tgt := 118) F dX7_would_102 (by decide) (fun c_18 => ?_) (fun c_18 => ?_)
        · replace h := h.2 c_18
          refine aw_al_n F 1 dX7_would_118 rfl rfl ?_
          refine gr7_4 F (lo_s rfl) (hP _ rfl) rfl w_298 (hP 5 rfl) dX7_would_119 ?_
          refine gr5_5 F (lo_s rfl) (hP _ rfl) rfl w_220 (hP _ rfl) dX7_would_122 ?_
          refine aw_il F 0 dX7_would_125 rfl ?_
          refine aw_iald F 5 6 (lo_s rfl) (hP _ rfl) rfl h.1 dX7_would_127 ?_
          replace h := h.2
          exact aw_iretX F T (Nat.le_of_ble_eq_true rfl) (Nat.le_of_ble_eq_true rfl) ⟨_, rfl, h⟩ dX7_would_128
        · replace h := h.1 c_18
          refine aw_al_n F 1 dX7_would_105 rfl rfl ?_
          refine gr7_4 F (lo_s rfl) (hP _ rfl) rfl w_298 (hP 5 rfl) dX7_would_106 ?_
          refine gr5_4 F (lo_s rfl) (hP _ rfl) rfl w_218 (hP _ rfl) dX7_would_109 ?_
          refine aw_il F 0 dX7_would_112 rfl ?_
          refine aw_iald F 5 5 (lo_s rfl) (hP _ rfl) rfl h.1 dX7_would_114 ?_
          replace h := h.2
          refine aw_go (tgt := 128) F dX7_would_115 (by decide) ?_
          exact aw_iretX F T (Nat.le_of_ble_eq_true rfl) (Nat.le_of_ble_eq_true rfl) ⟨_, rfl, h⟩ dX7_would_128
      · replace h := h.1 c_13
        refine aw_al_n F 1 dX7_would_63 rfl rfl ?_
        refine aw_il F 0 dX7_would_64 rfl ?_
        refine aw_il_n F 4 dX7_would_66 rfl rfl ?_
        refine aw_cVi (stk := []) F T.room [.int r_11, .int x3] (k_X7_firstFreeDay hP h) mv_X7_firstFreeDay w_960 cf7 (lo_s rfl) (hP _ rfl) rfl (by decide) rfl rfl (Nat.le_of_ble_eq_true rfl) ⟨(Nat.le_of_ble_eq_true rfl), (Nat.le_of_ble_eq_true rfl)⟩ ⟨(Nat.le_of_ble_eq_true rfl), (Nat.le_of_ble_eq_true rfl)⟩ dX7_would_67 (fun r_20 G_19 h => ?_)
        exact aw_iretX F T (Nat.le_of_ble_eq_true rfl) (Nat.le_of_ble_eq_true rfl) ⟨_, rfl, h⟩ dX7_would_70
    · replace h := h.1 c_12
      refine aw_al_n F 1 dX7_would_47 rfl rfl ?_
      refine gr7_6 F (lo_s rfl) (hP _ rfl) rfl w_300 (hP 7 rfl) dX7_would_48 ?_
      refine aw_il F 0 dX7_would_51 rfl ?_
      refine aw_cVi (stk := []) F T.room [.int r_11] (k_X1_fieldOf hP rfl rfl h) mv_X1_fieldOf w_761 cf1 (lo_s rfl) (hP _ rfl) rfl (by decide) rfl rfl (Nat.le_of_ble_eq_true rfl) ⟨(Nat.le_of_ble_eq_true rfl), (Nat.le_of_ble_eq_true rfl)⟩ ⟨(Nat.le_of_ble_eq_true rfl), (Nat.le_of_ble_eq_true rfl)⟩ dX7_would_53 (fun r_22 G_21 h => ?_)
      exact aw_iretX F T (Nat.le_of_ble_eq_true rfl) (Nat.le_of_ble_eq_true rfl) ⟨_, rfl, h⟩ dX7_would_56
  · replace h := h.1 (bI_2 c_7)
    refine aw_ldcw F dX7_would_24 w_946 ?_
    exact aw_iretX F T (Nat.le_of_ble_eq_true rfl) (Nat.le_of_ble_eq_true rfl) ⟨_, rfl, h⟩ dX7_would_27
-- X7_free (height 8)
def lb_X7_free_52 (post : Int32 → GH → Prop) (px : Nat → GH → Prop) (P52 : Int32 → Int32 → Int32 → GH → Prop) (v3 v4 v5 : Int32) (G : GH) : Prop :=
  (((10 : Int32) ≤ v5 → post v4 G) ∧ (¬ (10 : Int32) ≤ v5 → (vp_in v3 13 ∧ (∀ G_13 : GH, G_13 = gs G 9 4 (upd (G 9 4) v3.toNatClampNeg ((1 : Int32) <<< (v5 &&& 31))) → wp_X1_compareGoods (fun (G_14 : GH) => wp_X1_judge (fun (G_16 : GH) => wp_X4_allHalves (fun (r_19 : Int32) (G_18 : GH) => wp_X7_wouldHold (fun (b_21 : Bool) (G_20 : GH) => ((b_21 = false → P52 v3 v4 (v5 + (1 : Int32)) G_20) ∧ (b_21 = true → (∀ y_23 : Int32, y_23 = (v4 ||| ((1 : Int32) <<< (v5 &&& 31))) → P52 v3 y_23 (v5 + (1 : Int32)) G_20)))) v3 r_19 G_18) 9 G_16) 7 9 G_14) 7 9 v3 G_13))))
def lp_X7_free_52 (post : Int32 → GH → Prop) (px : Nat → GH → Prop) (v3 v4 v5 : Int32) (G : GH) : Prop := ∀ P52 : Int32 → Int32 → Int32 → GH → Prop, (∀ (v3 v4 v5 : Int32) (G : GH), lb_X7_free_52 post px P52 v3 v4 v5 G → P52 v3 v4 v5 G) → P52 v3 v4 v5 G
def wp_X7_free (post : Int32 → GH → Prop) (px : Nat → GH → Prop) (x1 x2 : Int32) (G : GH) : Prop :=
  wp_X7_needFiling (fun (G_1 : GH) => wp_X6_takeName (fun (b_4 : Bool) (G_3 : GH) => ((b_4 = false → post (-1000000000 : Int32) G_3) ∧ (b_4 = true → wp_X7_likeness (fun (G_6 : GH) => wp_X7_imagine (fun (r_9 : Int32) (G_8 : GH) => wp_X5_rankAll (fun (G_10 : GH) => lp_X7_free_52 post px r_9 (0 : Int32) (0 : Int32) G_10) 9 x2 G_8) 6 x1 (0 : Int32) x2 G_6) G_3))) x1 G_1) px x1 (0 : Int32) x2 G
set_option maxRecDepth 100000 in
set_option maxHeartbeats 4000000 in
theorem kl_X7_free_52 {E : Ev} {X : Cx} {post : Int32 → GH → Prop} {px : Nat → GH → Prop} {v3 v4 v5 : Int32} {G : GH} (F : Fx E X "MarkField" cX7_free 6) (T : RTX E X 8 3 18 (some .int) (pI post) px) (h : lp_X7_free_52 post px v3 v4 v5 G) : AW E X 6 52 [(0, .ref (sdX X 0 0)), (3, .int v3), (4, .int v4), (5, .int v5)] [] G 3 18 := by
  have hP := F.P
  have K52 : ∀ (v3 v4 v5 : Int32) (G : GH), AW E X 6 52 [(0, .ref (sdX X 0 0)), (3, .int v3), (4, .int v4), (5, .int v5)] [] G 3 18 → AW E X 6 52 [(0, .ref (sdX X 0 0)), (3, .int v3), (4, .int v4), (5, .int v5)] [] G 3 18 := fun _ _ _ _ q => q
  refine h (fun (v3 v4 v5 : Int32) (G : GH) => AW E X 6 52 [(0, .ref (sdX X 0 0)), (3, .int v3), (4, .int v4), (5, .int v5)] [] G 3 18) (fun (v3 v4 v5 : Int32) (G : GH) h => ?_)
  refine aw_il F 3 dX7_free_52 rfl ?_
  refine aw_bi F dX7_free_54 bi_10 ?_
  refine aw_icmp_ge (tgt := 125) F dX7_free_56 (by decide) (fun c_12 => ?_) (fun c_12 => ?_)
  · replace h := h.1 c_12
    refine aw_il F 2 dX7_free_125 rfl ?_
    exact aw_iretX F T (Nat.le_of_ble_eq_true rfl) (Nat.le_of_ble_eq_true rfl) ⟨_, rfl, h⟩ dX7_free_127
  · replace h := h.2 c_12
    refine aw_al_n F 0 dX7_free_59 rfl rfl ?_
    refine gr7_8 F (lo_s rfl) (hP _ rfl) rfl w_302 (hP 9 rfl) dX7_free_60 ?_
    refine gr4_3 F (lo_s rfl) (hP _ rfl) rfl w_93 (hP _ rfl) dX7_free_63 ?_
    refine aw_il_n F 1 dX7_free_66 rfl rfl ?_
    refine aw_ic F dX7_free_67 ic_1 ?_
    refine aw_il F 3 dX7_free_68 rfl ?_
    refine aw_ishl F dX7_free_70 ?_
    refine aw_iast F 9 4 (lo_s rfl) (hP _ rfl) rfl h.1 dX7_free_71 ?_
    refine aw_nG (fun G_13 eG_13 => ?_)
    replace h := h.2 G_13 eG_13
    refine aw_al_n F 0 dX7_free_72 rfl rfl ?_
    refine gr7_6 F (lo_s rfl) (hP _ rfl) rfl w_300 (hP 7 rfl) dX7_free_73 ?_
    refine aw_al_n F 0 dX7_free_76 rfl rfl ?_
    refine gr7_8 F (lo_s rfl) (hP _ rfl) rfl w_302 (hP 9 rfl) dX7_free_77 ?_
    refine aw_il_n F 1 dX7_free_80 rfl rfl ?_
    refine aw_cVv (stk := []) F T.room [.ref (sdX X 9 0), .int v3] (k_X1_compareGoods hP rfl rfl rfl rfl h) mv_X1_compareGoods w_959 cf1 (lo_s rfl) (hP _ rfl) rfl (by decide) rfl rfl (Nat.le_of_ble_eq_true rfl) ⟨(Nat.le_of_ble_eq_true rfl), (Nat.le_of_ble_eq_true rfl)⟩ ⟨(Nat.le_of_ble_eq_true rfl), (Nat.le_of_ble_eq_true rfl)⟩ dX7_free_81 (fun G_14 h => ?_)
    refine aw_al_n F 0 dX7_free_84 rfl rfl ?_
    refine gr7_6 F (lo_s rfl) (hP _ rfl) rfl w_300 (hP 7 rfl) dX7_free_85 ?_
    refine aw_al_n F 0 dX7_free_88 rfl rfl ?_
    refine gr7_8 F (lo_s rfl) (hP _ rfl) rfl w_302 (hP 9 rfl) dX7_free_89 ?_
    refine aw_cVv (stk := []) F T.room [.ref (sdX X 9 0)] (k_X1_judge hP rfl rfl rfl rfl h) mv_X1_judge w_702 cf1 (lo_s rfl) (hP _ rfl) rfl (by decide) rfl rfl (Nat.le_of_ble_eq_true rfl) ⟨(Nat.le_of_ble_eq_true rfl), (Nat.le_of_ble_eq_true rfl)⟩ ⟨(Nat.le_of_ble_eq_true rfl), (Nat.le_of_ble_eq_true rfl)⟩ dX7_free_92 (fun G_16 h => ?_)
    refine aw_al_n F 0 dX7_free_95 rfl rfl ?_
    refine aw_il_n F 1 dX7_free_96 rfl rfl ?_
    refine aw_al_n F 0 dX7_free_97 rfl rfl ?_
    refine gr7_8 F (lo_s rfl) (hP _ rfl) rfl w_302 (hP 9 rfl) dX7_free_98 ?_
    refine aw_cVi (stk := [.int v3, .ref (sdX X 0 0)]) F T.room [] (k_X4_allHalves hP rfl rfl h) mv_X4_allHalves w_977 cf4 (lo_s rfl) (hP _ rfl) rfl (by decide) rfl rfl (Nat.le_of_ble_eq_true rfl) ⟨(Nat.le_of_ble_eq_true rfl), (Nat.le_of_ble_eq_true rfl)⟩ ⟨(Nat.le_of_ble_eq_true rfl), (Nat.le_of_ble_eq_true rfl)⟩ dX7_free_101 (fun r_19 G_18 h => ?_)
    refine aw_cVb (stk := []) F T.room [.int v3, .int r_19] (k_X7_wouldHold hP h) mv_X7_wouldHold w_982 cf7 (lo_s rfl) (hP _ rfl) rfl (by decide) rfl rfl (Nat.le_of_ble_eq_true rfl) ⟨(Nat.le_of_ble_eq_true rfl), (Nat.le_of_ble_eq_true rfl)⟩ ⟨(Nat.le_of_ble_eq_true rfl), (Nat.le_of_ble_eq_true rfl)⟩ dX7_free_104 (fun b_21 G_20 h => ?_)
    refine aw_if_eq (tgt := 119) F dX7_free_107 (by decide) (fun c_22 => ?_) (fun c_22 => ?_)
    · replace h := h.1 (bI_2 c_22)
      refine aw_inc (lv1 := [(5, .int (v5 + (1 : Int32))), (0, .ref (sdX X 0 0)), (3, .int v3), (4, .int v4)]) F 3 dX7_free_119 rfl (in_1 _) (by decide) rfl ?_
      refine aw_go (tgt := 52) F dX7_free_122 (by decide) ?_
      refine aw_sub [1, 2, 3, 0] rfl ?_
      exact K52 _ _ _ _ h
    · replace h := h.2 (bI_1 c_22)
      refine aw_il F 2 dX7_free_110 rfl ?_
      refine aw_ic F dX7_free_112 ic_1 ?_
      refine aw_il F 3 dX7_free_113 rfl ?_
      refine aw_ishl F dX7_free_115 ?_
      refine aw_ior F dX7_free_116 ?_
      refine aw_top (fun y_23 ey_23 => ?_)
      replace h := h y_23 ey_23
      refine aw_is (lv1 := [(4, .int y_23), (0, .ref (sdX X 0 0)), (3, .int v3), (5, .int v5)]) F dX7_free_117 (by decide) rfl ?_
      refine aw_inc (lv1 := [(5, .int (v5 + (1 : Int32))), (4, .int y_23), (0, .ref (sdX X 0 0)), (3, .int v3)]) F 3 dX7_free_119 rfl (in_1 _) (by decide) rfl ?_
      refine aw_go (tgt := 52) F dX7_free_122 (by decide) ?_
      refine aw_sub [2, 3, 1, 0] rfl ?_
      exact K52 _ _ _ _ h
set_option maxRecDepth 100000 in
set_option maxHeartbeats 4000000 in
theorem k_X7_free {l : Launch} {E : Ev} {P : Nat → Prop} {sd : Nat → Nat → Nat} {G : GH} {post : Int32 → GH → Prop} {px : Nat → GH → Prop} {x1 x2 : Int32} (hl0 : l.stackTraces = false) (hPP : ∀ o, stt o = true → P o) (h : wp_X7_free post px x1 x2 G) : CtX l yX7_free cX7_free 6 (some .int) 8 3 18 E P sd G [.ref (sd 0 0), .int x1, .int x2] (pI post) px := by
  refine ctx_of hl0 (own := "MarkField") (by decide) rfl (Nat.le_of_ble_eq_true rfl) hPP (fun X F T el eP es => ?_)
  subst el; subst eP; subst es
  have hP := F.P
  change AW E X 6 0 [(0, .ref (sdX X 0 0)), (1, .int x1), (2, .int x2)] [] G 0 0
  refine aw_al_n F 0 dX7_free_0 rfl rfl ?_
  refine aw_il_n F 1 dX7_free_1 rfl rfl ?_
  refine aw_ic F dX7_free_2 ic_0 ?_
  refine aw_il_n F 2 dX7_free_3 rfl rfl ?_
  refine aw_cVXv (stk := []) F T [.int x1, .int (0 : Int32), .int x2] (k_X7_needFiling T.tr hP h) mv_X7_needFiling w_938 cf7 (lo_s rfl) (hP _ rfl) rfl (by decide) rfl rfl (Nat.le_of_ble_eq_true rfl) ⟨(Nat.le_of_ble_eq_true rfl), (Nat.le_of_ble_eq_true rfl)⟩ ⟨(Nat.le_of_ble_eq_true rfl), (Nat.le_of_ble_eq_true rfl)⟩ ⟨rfl, rfl⟩ dX7_free_4 (fun _ _ q => q) (fun G_1 h => ?_)
  refine aw_al_n F 0 dX7_free_7 rfl rfl ?_
  refine gr7_0 F (lo_s rfl) (hP _ rfl) rfl w_294 (hP 1 rfl) dX7_free_8 ?_
  refine aw_il_n F 1 dX7_free_11 rfl rfl ?_
  refine aw_cVb (stk := []) F T.room [.int x1] (k_X6_takeName hP h) mv_X6_takeName w_942 cf6 (lo_s rfl) (hP _ rfl) rfl (by decide) rfl rfl (Nat.le_of_ble_eq_true rfl) ⟨(Nat.le_of_ble_eq_true rfl), (Nat.le_of_ble_eq_true rfl)⟩ ⟨(Nat.le_of_ble_eq_true rfl), (Nat.le_of_ble_eq_true rfl)⟩ dX7_free_12 (fun b_4 G_3 h => ?_)
  refine aw_if_ne (tgt := 22) F dX7_free_15 (by decide) (fun c_5 => ?_) (fun c_5 => ?_)
  · replace h := h.2 (bI_1 c_5)
    refine aw_al_n F 0 dX7_free_22 rfl rfl ?_
    refine aw_al_n F 0 dX7_free_23 rfl rfl ?_
    refine aw_cVr (stk := [.ref (sdX X 0 0)]) F T.room [] (k_X7_likeness hP h) mv_X7_likeness w_635 cf7 (lo_s rfl) (hP _ rfl) rfl (by decide) rfl rfl (Nat.le_of_ble_eq_true rfl) ⟨(Nat.le_of_ble_eq_true rfl), (Nat.le_of_ble_eq_true rfl)⟩ ⟨(Nat.le_of_ble_eq_true rfl), (Nat.le_of_ble_eq_true rfl)⟩ dX7_free_24 (fun G_6 h => ?_)
    refine aw_il_n F 1 dX7_free_27 rfl rfl ?_
    refine aw_ic F dX7_free_28 ic_0 ?_
    refine aw_il_n F 2 dX7_free_29 rfl rfl ?_
    refine aw_cVi (stk := []) F T.room [.ref (sdX X 6 0), .int x1, .int (0 : Int32), .int x2] (k_X7_imagine hP rfl rfl h) mv_X7_imagine w_947 cf7 (lo_s rfl) (hP _ rfl) rfl (by decide) rfl rfl (Nat.le_of_ble_eq_true rfl) ⟨(Nat.le_of_ble_eq_true rfl), (Nat.le_of_ble_eq_true rfl)⟩ ⟨(Nat.le_of_ble_eq_true rfl), (Nat.le_of_ble_eq_true rfl)⟩ dX7_free_30 (fun r_9 G_8 h => ?_)
    refine aw_is_n (lv1 := [(3, .int r_9), (0, .ref (sdX X 0 0)), (1, .int x1), (2, .int x2)]) F dX7_free_33 rfl (by decide) rfl ?_
    refine aw_al_n F 1 dX7_free_34 rfl rfl ?_
    refine gr7_4 F (lo_s rfl) (hP _ rfl) rfl w_298 (hP 5 rfl) dX7_free_35 ?_
    refine aw_al_n F 1 dX7_free_38 rfl rfl ?_
    refine gr7_8 F (lo_s rfl) (hP _ rfl) rfl w_302 (hP 9 rfl) dX7_free_39 ?_
    refine aw_il_n F 3 dX7_free_42 rfl rfl ?_
    refine aw_cVv (stk := []) F T.room [.ref (sdX X 9 0), .int x2] (k_X5_rankAll hP rfl rfl h) mv_X5_rankAll w_972 cf5 (lo_s rfl) (hP _ rfl) rfl (by decide) rfl rfl (Nat.le_of_ble_eq_true rfl) ⟨(Nat.le_of_ble_eq_true rfl), (Nat.le_of_ble_eq_true rfl)⟩ ⟨(Nat.le_of_ble_eq_true rfl), (Nat.le_of_ble_eq_true rfl)⟩ dX7_free_43 (fun G_10 h => ?_)
    refine aw_ic F dX7_free_46 ic_0 ?_
    refine aw_is (lv1 := [(4, .int (0 : Int32)), (3, .int r_9), (0, .ref (sdX X 0 0)), (1, .int x1), (2, .int x2)]) F dX7_free_47 (by decide) rfl ?_
    refine aw_ic F dX7_free_49 ic_0 ?_
    refine aw_is (lv1 := [(5, .int (0 : Int32)), (4, .int (0 : Int32)), (3, .int r_9), (0, .ref (sdX X 0 0)), (1, .int x1), (2, .int x2)]) F dX7_free_50 (by decide) rfl ?_
    refine aw_sub [3, 2, 1, 0] rfl ?_
    exact kl_X7_free_52 F T h
  · replace h := h.1 (bI_2 c_5)
    refine aw_ldcw F dX7_free_18 w_946 ?_
    exact aw_iretX F T (Nat.le_of_ble_eq_true rfl) (Nat.le_of_ble_eq_true rfl) ⟨_, rfl, h⟩ dX7_free_21
-- X7_letterFor (height 7)
def lb_X7_letterFor_67 (post : Int32 → GH → Prop) (px : Nat → GH → Prop) (P67 : Int32 → Int32 → Int32 → GH → Prop) (v1 v3 v4 : Int32) (G : GH) : Prop :=
  (vp_in v1 13 ∧ (((G 8 5 v1.toNatClampNeg) ≤ v4 → post (-1 : Int32) G) ∧ (¬ (G 8 5 v1.toNatClampNeg) ≤ v4 → wp_X7_letterAt (fun (r_20 : Int32) (G_19 : GH) => ((r_20 = (-1 : Int32) → P67 v1 v3 (v4 + (1 : Int32)) G_19) ∧ (¬ r_20 = (-1 : Int32) → post (((26 : Int32) * v4) + r_20) G_19))) v1 v4 v3 G)))
def lp_X7_letterFor_67 (post : Int32 → GH → Prop) (px : Nat → GH → Prop) (v1 v3 v4 : Int32) (G : GH) : Prop := ∀ P67 : Int32 → Int32 → Int32 → GH → Prop, (∀ (v1 v3 v4 : Int32) (G : GH), lb_X7_letterFor_67 post px P67 v1 v3 v4 G → P67 v1 v3 v4 G) → P67 v1 v3 v4 G
def wp_X7_letterFor (post : Int32 → GH → Prop) (px : Nat → GH → Prop) (x1 x2 : Int32) (G : GH) : Prop :=
  wp_X7_needMark (fun (G_1 : GH) => wp_X7_needDay (fun (G_3 : GH) => wp_X4_copy (fun (G_5 : GH) => wp_X7_likeness (fun (G_7 : GH) => wp_X1_copy (fun (G_9 : GH) => wp_X5_rankAll (fun (G_11 : GH) => wp_X4_halvesWithPriority (fun (r_14 : Int32) (G_13 : GH) => wp_X7_wouldHold (fun (b_16 : Bool) (G_15 : GH) => ((b_16 = false → lp_X7_letterFor_67 post px x1 r_14 (0 : Int32) G_15) ∧ (b_16 = true → post (-1 : Int32) G_15))) x1 r_14 G_13) 8 x1 x2 G_11) 9 x2 G_9) 7 6 G_7) G_5) 9 8 G_3) px x2 G_1) px x1 G
set_option maxRecDepth 100000 in
set_option maxHeartbeats 4000000 in
theorem kl_X7_letterFor_67 {E : Ev} {X : Cx} {post : Int32 → GH → Prop} {px : Nat → GH → Prop} {v1 v3 v4 : Int32} {G : GH} (F : Fx E X "MarkField" cX7_letterFor 6) (T : RTX E X 7 2 12 (some .int) (pI post) px) (h : lp_X7_letterFor_67 post px v1 v3 v4 G) : AW E X 6 67 [(0, .ref (sdX X 0 0)), (1, .int v1), (3, .int v3), (4, .int v4)] [] G 2 12 := by
  have hP := F.P
  have K67 : ∀ (v1 v3 v4 : Int32) (G : GH), AW E X 6 67 [(0, .ref (sdX X 0 0)), (1, .int v1), (3, .int v3), (4, .int v4)] [] G 2 12 → AW E X 6 67 [(0, .ref (sdX X 0 0)), (1, .int v1), (3, .int v3), (4, .int v4)] [] G 2 12 := fun _ _ _ _ q => q
  refine h (fun (v1 v3 v4 : Int32) (G : GH) => AW E X 6 67 [(0, .ref (sdX X 0 0)), (1, .int v1), (3, .int v3), (4, .int v4)] [] G 2 12) (fun (v1 v3 v4 : Int32) (G : GH) h => ?_)
  refine aw_il F 3 dX7_letterFor_67 rfl ?_
  refine aw_al_n F 0 dX7_letterFor_69 rfl rfl ?_
  refine gr7_7 F (lo_s rfl) (hP _ rfl) rfl w_301 (hP 8 rfl) dX7_letterFor_70 ?_
  refine gr4_4 F (lo_s rfl) (hP _ rfl) rfl w_98 (hP _ rfl) dX7_letterFor_73 ?_
  refine aw_il_n F 1 dX7_letterFor_76 rfl rfl ?_
  refine aw_iald F 8 5 (lo_s rfl) (hP _ rfl) rfl h.1 dX7_letterFor_77 ?_
  replace h := h.2
  refine aw_icmp_ge (tgt := 112) F dX7_letterFor_78 (by decide) (fun c_18 => ?_) (fun c_18 => ?_)
  · replace h := h.1 c_18
    refine aw_ic F dX7_letterFor_112 ic_m1 ?_
    exact aw_iretX F T (Nat.le_of_ble_eq_true rfl) (Nat.le_of_ble_eq_true rfl) ⟨_, rfl, h⟩ dX7_letterFor_113
  · replace h := h.2 c_18
    refine aw_al_n F 0 dX7_letterFor_81 rfl rfl ?_
    refine aw_il_n F 1 dX7_letterFor_82 rfl rfl ?_
    refine aw_il F 3 dX7_letterFor_83 rfl ?_
    refine aw_il_n F 2 dX7_letterFor_85 rfl rfl ?_
    refine aw_cVi (stk := []) F T.room [.int v1, .int v4, .int v3] (k_X7_letterAt hP h) mv_X7_letterAt w_998 cf7 (lo_s rfl) (hP _ rfl) rfl (by decide) rfl rfl (Nat.le_of_ble_eq_true rfl) ⟨(Nat.le_of_ble_eq_true rfl), (Nat.le_of_ble_eq_true rfl)⟩ ⟨(Nat.le_of_ble_eq_true rfl), (Nat.le_of_ble_eq_true rfl)⟩ dX7_letterFor_86 (fun r_20 G_19 h => ?_)
    refine aw_is (lv1 := [(5, .int r_20), (0, .ref (sdX X 0 0)), (1, .int v1), (3, .int v3), (4, .int v4)]) F dX7_letterFor_89 (by decide) rfl ?_
    refine aw_il F 0 dX7_letterFor_91 rfl ?_
    refine aw_ic F dX7_letterFor_93 ic_m1 ?_
    refine aw_icmp_eq (tgt := 106) F dX7_letterFor_94 (by decide) (fun c_21 => ?_) (fun c_21 => ?_)
    · replace h := h.1 c_21
      refine aw_inc (lv1 := [(4, .int (v4 + (1 : Int32))), (5, .int r_20), (0, .ref (sdX X 0 0)), (1, .int v1), (3, .int v3)]) F 4 dX7_letterFor_106 rfl (in_1 _) (by decide) rfl ?_
      refine aw_go (tgt := 67) F dX7_letterFor_109 (by decide) ?_
      refine aw_sub [2, 3, 4, 0] rfl ?_
      exact K67 _ _ _ _ h
    · replace h := h.2 c_21
      refine aw_bi F dX7_letterFor_97 bi_26 ?_
      refine aw_il F 4 dX7_letterFor_99 rfl ?_
      refine aw_imul F dX7_letterFor_101 ?_
      refine aw_il F 0 dX7_letterFor_102 rfl ?_
      refine aw_iadd F dX7_letterFor_104 ?_
      exact aw_iretX F T (Nat.le_of_ble_eq_true rfl) (Nat.le_of_ble_eq_true rfl) ⟨_, rfl, h⟩ dX7_letterFor_105
set_option maxRecDepth 100000 in
set_option maxHeartbeats 4000000 in
theorem k_X7_letterFor {l : Launch} {E : Ev} {P : Nat → Prop} {sd : Nat → Nat → Nat} {G : GH} {post : Int32 → GH → Prop} {px : Nat → GH → Prop} {x1 x2 : Int32} (hl0 : l.stackTraces = false) (hPP : ∀ o, stt o = true → P o) (h : wp_X7_letterFor post px x1 x2 G) : CtX l yX7_letterFor cX7_letterFor 6 (some .int) 7 2 12 E P sd G [.ref (sd 0 0), .int x1, .int x2] (pI post) px := by
  refine ctx_of hl0 (own := "MarkField") (by decide) rfl (Nat.le_of_ble_eq_true rfl) hPP (fun X F T el eP es => ?_)
  subst el; subst eP; subst es
  have hP := F.P
  change AW E X 6 0 [(0, .ref (sdX X 0 0)), (1, .int x1), (2, .int x2)] [] G 0 0
  refine aw_al_n F 0 dX7_letterFor_0 rfl rfl ?_
  refine aw_il_n F 1 dX7_letterFor_1 rfl rfl ?_
  refine aw_cVXv (stk := []) F T [.int x1] (k_X7_needMark T.tr hP h) mv_X7_needMark w_752 cf7 (lo_s rfl) (hP _ rfl) rfl (by decide) rfl rfl (Nat.le_of_ble_eq_true rfl) ⟨(Nat.le_of_ble_eq_true rfl), (Nat.le_of_ble_eq_true rfl)⟩ ⟨(Nat.le_of_ble_eq_true rfl), (Nat.le_of_ble_eq_true rfl)⟩ ⟨rfl, rfl⟩ dX7_letterFor_2 (fun _ _ q => q) (fun G_1 h => ?_)
  refine aw_il_n F 2 dX7_letterFor_5 rfl rfl ?_
  refine aw_cSXv (stk := []) F T [.int x2] (k_X7_needDay T.tr hP h) ms_X7_needDay w_822 rfl rfl (Nat.le_of_ble_eq_true rfl) ⟨(Nat.le_of_ble_eq_true rfl), (Nat.le_of_ble_eq_true rfl)⟩ ⟨(Nat.le_of_ble_eq_true rfl), (Nat.le_of_ble_eq_true rfl)⟩ ⟨rfl, rfl⟩ dX7_letterFor_6 (fun _ _ q => q) (fun G_3 h => ?_)
  refine aw_al_n F 0 dX7_letterFor_9 rfl rfl ?_
  refine gr7_8 F (lo_s rfl) (hP _ rfl) rfl w_302 (hP 9 rfl) dX7_letterFor_10 ?_
  refine aw_al_n F 0 dX7_letterFor_13 rfl rfl ?_
  refine gr7_7 F (lo_s rfl) (hP _ rfl) rfl w_301 (hP 8 rfl) dX7_letterFor_14 ?_
  refine aw_cVv (stk := []) F T.room [.ref (sdX X 8 0)] (k_X4_copy hP (hP _ rfl) (lo_s rfl) rfl (hP _ rfl) (lo_s rfl) rfl h) mv_X4_copy w_362 cf4 (lo_s rfl) (hP _ rfl) rfl (by decide) rfl rfl (Nat.le_of_ble_eq_true rfl) ⟨(Nat.le_of_ble_eq_true rfl), (Nat.le_of_ble_eq_true rfl)⟩ ⟨(Nat.le_of_ble_eq_true rfl), (Nat.le_of_ble_eq_true rfl)⟩ dX7_letterFor_17 (fun G_5 h => ?_)
  refine aw_al_n F 0 dX7_letterFor_20 rfl rfl ?_
  refine gr7_6 F (lo_s rfl) (hP _ rfl) rfl w_300 (hP 7 rfl) dX7_letterFor_21 ?_
  refine aw_al_n F 0 dX7_letterFor_24 rfl rfl ?_
  refine aw_cVr (stk := [.ref (sdX X 7 0)]) F T.room [] (k_X7_likeness hP h) mv_X7_likeness w_635 cf7 (lo_s rfl) (hP _ rfl) rfl (by decide) rfl rfl (Nat.le_of_ble_eq_true rfl) ⟨(Nat.le_of_ble_eq_true rfl), (Nat.le_of_ble_eq_true rfl)⟩ ⟨(Nat.le_of_ble_eq_true rfl), (Nat.le_of_ble_eq_true rfl)⟩ dX7_letterFor_25 (fun G_7 h => ?_)
  refine aw_cVv (stk := []) F T.room [.ref (sdX X 6 0)] (k_X1_copy hP rfl rfl rfl rfl h) mv_X1_copy w_951 cf1 (lo_s rfl) (hP _ rfl) rfl (by decide) rfl rfl (Nat.le_of_ble_eq_true rfl) ⟨(Nat.le_of_ble_eq_true rfl), (Nat.le_of_ble_eq_true rfl)⟩ ⟨(Nat.le_of_ble_eq_true rfl), (Nat.le_of_ble_eq_true rfl)⟩ dX7_letterFor_28 (fun G_9 h => ?_)
  refine aw_al_n F 0 dX7_letterFor_31 rfl rfl ?_
  refine gr7_4 F (lo_s rfl) (hP _ rfl) rfl w_298 (hP 5 rfl) dX7_letterFor_32 ?_
  refine aw_al_n F 0 dX7_letterFor_35 rfl rfl ?_
  refine gr7_8 F (lo_s rfl) (hP _ rfl) rfl w_302 (hP 9 rfl) dX7_letterFor_36 ?_
  refine aw_il_n F 2 dX7_letterFor_39 rfl rfl ?_
  refine aw_cVv (stk := []) F T.room [.ref (sdX X 9 0), .int x2] (k_X5_rankAll hP rfl rfl h) mv_X5_rankAll w_972 cf5 (lo_s rfl) (hP _ rfl) rfl (by decide) rfl rfl (Nat.le_of_ble_eq_true rfl) ⟨(Nat.le_of_ble_eq_true rfl), (Nat.le_of_ble_eq_true rfl)⟩ ⟨(Nat.le_of_ble_eq_true rfl), (Nat.le_of_ble_eq_true rfl)⟩ dX7_letterFor_40 (fun G_11 h => ?_)
  refine aw_al_n F 0 dX7_letterFor_43 rfl rfl ?_
  refine gr7_7 F (lo_s rfl) (hP _ rfl) rfl w_301 (hP 8 rfl) dX7_letterFor_44 ?_
  refine aw_il_n F 1 dX7_letterFor_47 rfl rfl ?_
  refine aw_il_n F 2 dX7_letterFor_48 rfl rfl ?_
  refine aw_cVi (stk := []) F T.room [.int x1, .int x2] (k_X4_halvesWithPriority hP rfl rfl h) mv_X4_halvesWithPriority w_993 cf4 (lo_s rfl) (hP _ rfl) rfl (by decide) rfl rfl (Nat.le_of_ble_eq_true rfl) ⟨(Nat.le_of_ble_eq_true rfl), (Nat.le_of_ble_eq_true rfl)⟩ ⟨(Nat.le_of_ble_eq_true rfl), (Nat.le_of_ble_eq_true rfl)⟩ dX7_letterFor_49 (fun r_14 G_13 h => ?_)
  refine aw_is_n (lv1 := [(3, .int r_14), (0, .ref (sdX X 0 0)), (1, .int x1), (2, .int x2)]) F dX7_letterFor_52 rfl (by decide) rfl ?_
  refine aw_al_n F 1 dX7_letterFor_53 rfl rfl ?_
  refine aw_il_n F 2 dX7_letterFor_54 rfl rfl ?_
  refine aw_il_n F 0 dX7_letterFor_55 rfl rfl ?_
  refine aw_cVb (stk := []) F T.room [.int x1, .int r_14] (k_X7_wouldHold hP h) mv_X7_wouldHold w_982 cf7 (lo_s rfl) (hP _ rfl) rfl (by decide) rfl rfl (Nat.le_of_ble_eq_true rfl) ⟨(Nat.le_of_ble_eq_true rfl), (Nat.le_of_ble_eq_true rfl)⟩ ⟨(Nat.le_of_ble_eq_true rfl), (Nat.le_of_ble_eq_true rfl)⟩ dX7_letterFor_56 (fun b_16 G_15 h => ?_)
  refine aw_if_eq (tgt := 64) F dX7_letterFor_59 (by decide) (fun c_17 => ?_) (fun c_17 => ?_)
  · replace h := h.1 (bI_2 c_17)
    refine aw_ic F dX7_letterFor_64 ic_0 ?_
    refine aw_is (lv1 := [(4, .int (0 : Int32)), (3, .int r_14), (0, .ref (sdX X 0 0)), (1, .int x1), (2, .int x2)]) F dX7_letterFor_65 (by decide) rfl ?_
    refine aw_sub [2, 3, 1, 0] rfl ?_
    exact kl_X7_letterFor_67 F T h
  · replace h := h.2 (bI_1 c_17)
    refine aw_ic F dX7_letterFor_62 ic_m1 ?_
    exact aw_iretX F T (Nat.le_of_ble_eq_true rfl) (Nat.le_of_ble_eq_true rfl) ⟨_, rfl, h⟩ dX7_letterFor_63
-- X7_group (height 7)
def wp_X7_group (post : Int32 → GH → Prop) (px : Nat → GH → Prop) (x1 : Int32) (G : GH) : Prop :=
  wp_X7_needMark (fun (G_1 : GH) => wp_X7_likeness (fun (G_3 : GH) => wp_X1_groupOf (fun (r_6 : Int32) (G_5 : GH) => post r_6 G_5) 6 8 x1 G_3) G_1) px x1 G
set_option maxRecDepth 100000 in
set_option maxHeartbeats 4000000 in
theorem k_X7_group {l : Launch} {E : Ev} {P : Nat → Prop} {sd : Nat → Nat → Nat} {G : GH} {post : Int32 → GH → Prop} {px : Nat → GH → Prop} {x1 : Int32} (hl0 : l.stackTraces = false) (hPP : ∀ o, stt o = true → P o) (h : wp_X7_group post px x1 G) : CtX l yX7_group cX7_group 2 (some .int) 7 1 6 E P sd G [.ref (sd 0 0), .int x1] (pI post) px := by
  refine ctx_of hl0 (own := "MarkField") (by decide) rfl (Nat.le_of_ble_eq_true rfl) hPP (fun X F T el eP es => ?_)
  subst el; subst eP; subst es
  have hP := F.P
  change AW E X 2 0 [(0, .ref (sdX X 0 0)), (1, .int x1)] [] G 0 0
  refine aw_al_n F 0 dX7_group_0 rfl rfl ?_
  refine aw_il_n F 1 dX7_group_1 rfl rfl ?_
  refine aw_cVXv (stk := []) F T [.int x1] (k_X7_needMark T.tr hP h) mv_X7_needMark w_752 cf7 (lo_s rfl) (hP _ rfl) rfl (by decide) rfl rfl (Nat.le_of_ble_eq_true rfl) ⟨(Nat.le_of_ble_eq_true rfl), (Nat.le_of_ble_eq_true rfl)⟩ ⟨(Nat.le_of_ble_eq_true rfl), (Nat.le_of_ble_eq_true rfl)⟩ ⟨rfl, rfl⟩ dX7_group_2 (fun _ _ q => q) (fun G_1 h => ?_)
  refine aw_al_n F 0 dX7_group_5 rfl rfl ?_
  refine aw_cVr (stk := []) F T.room [] (k_X7_likeness hP h) mv_X7_likeness w_635 cf7 (lo_s rfl) (hP _ rfl) rfl (by decide) rfl rfl (Nat.le_of_ble_eq_true rfl) ⟨(Nat.le_of_ble_eq_true rfl), (Nat.le_of_ble_eq_true rfl)⟩ ⟨(Nat.le_of_ble_eq_true rfl), (Nat.le_of_ble_eq_true rfl)⟩ dX7_group_6 (fun G_3 h => ?_)
  refine aw_al_n F 0 dX7_group_9 rfl rfl ?_
  refine gr7_7 F (lo_s rfl) (hP _ rfl) rfl w_301 (hP 8 rfl) dX7_group_10 ?_
  refine aw_il_n F 1 dX7_group_13 rfl rfl ?_
  refine aw_cVi (stk := []) F T.room [.ref (sdX X 8 0), .int x1] (k_X1_groupOf hP rfl rfl rfl rfl h) mv_X1_groupOf w_839 cf1 (lo_s rfl) (hP _ rfl) rfl (by decide) rfl rfl (Nat.le_of_ble_eq_true rfl) ⟨(Nat.le_of_ble_eq_true rfl), (Nat.le_of_ble_eq_true rfl)⟩ ⟨(Nat.le_of_ble_eq_true rfl), (Nat.le_of_ble_eq_true rfl)⟩ dX7_group_14 (fun r_6 G_5 h => ?_)
  exact aw_iretX F T (Nat.le_of_ble_eq_true rfl) (Nat.le_of_ble_eq_true rfl) ⟨_, rfl, h⟩ dX7_group_17
-- X7_ranked (height 7)
def j_X7_ranked_46 (post : Int32 → GH → Prop) (px : Nat → GH → Prop) (G : GH) : Prop :=
  px 0 G
def wp_X7_ranked (post : Int32 → GH → Prop) (px : Nat → GH → Prop) (x1 x2 x3 : Int32) (G : GH) : Prop :=
  wp_X7_needHalf (fun (G_1 : GH) => wp_X7_needDay (fun (G_3 : GH) => wp_X4_allMarks (fun (r_6 : Int32) (G_5 : GH) => wp_X5_rank (fun (G_7 : GH) => ((x3 < 0 → j_X7_ranked_46 post px G_7) ∧ (¬ x3 < 0 → (vp_in x1 12 ∧ ((x3 < (G_7 5 2 x1.toNatClampNeg) → wp_X5_inOrder (fun (r_12 : Int32) (G_11 : GH) => post r_12 G_11) x1 x3 G_7) ∧ (¬ x3 < (G_7 5 2 x1.toNatClampNeg) → j_X7_ranked_46 post px G_7)))))) 8 x1 x2 r_6 G_5) 8 G_3) px x2 G_1) px x1 G
set_option maxRecDepth 100000 in
set_option maxHeartbeats 4000000 in
theorem kj_X7_ranked_46 {E : Ev} {X : Cx} {post : Int32 → GH → Prop} {px : Nat → GH → Prop} {G : GH} (F : Fx E X "MarkField" cX7_ranked 4) (T : RTX E X 7 3 18 (some .int) (pI post) px) (h : j_X7_ranked_46 post px G) : AW E X 4 46 [] [] G 2 12 := by
  have hP := F.P
  exact aw_thr F T 0 (by decide) 5 (by decide) rfl true (Nat.le_of_ble_eq_true rfl) (Nat.le_of_ble_eq_true rfl) (Nat.le_of_ble_eq_true rfl) (Nat.le_of_ble_eq_true rfl) h dX7_ranked_46 dX7_ranked_49 dX7_ranked_50 dX7_ranked_53 dX7_ranked_56
set_option maxRecDepth 100000 in
set_option maxHeartbeats 4000000 in
theorem k_X7_ranked {l : Launch} {E : Ev} {P : Nat → Prop} {sd : Nat → Nat → Nat} {G : GH} {post : Int32 → GH → Prop} {px : Nat → GH → Prop} {x1 x2 x3 : Int32} (hl0 : l.stackTraces = false) (hPP : ∀ o, stt o = true → P o) (h : wp_X7_ranked post px x1 x2 x3 G) : CtX l yX7_ranked cX7_ranked 4 (some .int) 7 3 18 E P sd G [.ref (sd 0 0), .int x1, .int x2, .int x3] (pI post) px := by
  refine ctx_of hl0 (own := "MarkField") (by decide) rfl (Nat.le_of_ble_eq_true rfl) hPP (fun X F T el eP es => ?_)
  subst el; subst eP; subst es
  have hP := F.P
  change AW E X 4 0 [(0, .ref (sdX X 0 0)), (1, .int x1), (2, .int x2), (3, .int x3)] [] G 0 0
  refine aw_al_n F 0 dX7_ranked_0 rfl rfl ?_
  refine aw_il_n F 1 dX7_ranked_1 rfl rfl ?_
  refine aw_cVXv (stk := []) F T [.int x1] (k_X7_needHalf T.tr hP h) mv_X7_needHalf w_817 cf7 (lo_s rfl) (hP _ rfl) rfl (by decide) rfl rfl (Nat.le_of_ble_eq_true rfl) ⟨(Nat.le_of_ble_eq_true rfl), (Nat.le_of_ble_eq_true rfl)⟩ ⟨(Nat.le_of_ble_eq_true rfl), (Nat.le_of_ble_eq_true rfl)⟩ ⟨rfl, rfl⟩ dX7_ranked_2 (fun _ _ q => q) (fun G_1 h => ?_)
  refine aw_il_n F 2 dX7_ranked_5 rfl rfl ?_
  refine aw_cSXv (stk := []) F T [.int x2] (k_X7_needDay T.tr hP h) ms_X7_needDay w_822 rfl rfl (Nat.le_of_ble_eq_true rfl) ⟨(Nat.le_of_ble_eq_true rfl), (Nat.le_of_ble_eq_true rfl)⟩ ⟨(Nat.le_of_ble_eq_true rfl), (Nat.le_of_ble_eq_true rfl)⟩ ⟨rfl, rfl⟩ dX7_ranked_6 (fun _ _ q => q) (fun G_3 h => ?_)
  refine aw_al_n F 0 dX7_ranked_9 rfl rfl ?_
  refine gr7_4 F (lo_s rfl) (hP _ rfl) rfl w_298 (hP 5 rfl) dX7_ranked_10 ?_
  refine aw_al_n F 0 dX7_ranked_13 rfl rfl ?_
  refine gr7_7 F (lo_s rfl) (hP _ rfl) rfl w_301 (hP 8 rfl) dX7_ranked_14 ?_
  refine aw_il_n F 1 dX7_ranked_17 rfl rfl ?_
  refine aw_il_n F 2 dX7_ranked_18 rfl rfl ?_
  refine aw_al_n F 0 dX7_ranked_19 rfl rfl ?_
  refine gr7_7 F (lo_s rfl) (hP _ rfl) rfl w_301 (hP 8 rfl) dX7_ranked_20 ?_
  refine aw_cVi (stk := [.int x2, .int x1, .ref (sdX X 8 0), .ref (sdX X 5 0)]) F T.room [] (k_X4_allMarks hP rfl rfl h) mv_X4_allMarks w_891 cf4 (lo_s rfl) (hP _ rfl) rfl (by decide) rfl rfl (Nat.le_of_ble_eq_true rfl) ⟨(Nat.le_of_ble_eq_true rfl), (Nat.le_of_ble_eq_true rfl)⟩ ⟨(Nat.le_of_ble_eq_true rfl), (Nat.le_of_ble_eq_true rfl)⟩ dX7_ranked_23 (fun r_6 G_5 h => ?_)
  refine aw_cVv (stk := []) F T.room [.ref (sdX X 8 0), .int x1, .int x2, .int r_6] (k_X5_rank hP rfl rfl h) mv_X5_rank w_843 cf5 (lo_s rfl) (hP _ rfl) rfl (by decide) rfl rfl (Nat.le_of_ble_eq_true rfl) ⟨(Nat.le_of_ble_eq_true rfl), (Nat.le_of_ble_eq_true rfl)⟩ ⟨(Nat.le_of_ble_eq_true rfl), (Nat.le_of_ble_eq_true rfl)⟩ dX7_ranked_26 (fun G_7 h => ?_)
  refine aw_il_n F 3 dX7_ranked_29 rfl rfl ?_
  refine aw_if_lt (tgt := 46) F dX7_ranked_30 (by decide) (fun c_9 => ?_) (fun c_9 => ?_)
  · replace h := h.1 c_9
    refine aw_sub [] rfl ?_
    exact kj_X7_ranked_46 F T h
  · replace h := h.2 c_9
    refine aw_il_n F 3 dX7_ranked_33 rfl rfl ?_
    refine aw_al_n F 0 dX7_ranked_34 rfl rfl ?_
    refine gr7_4 F (lo_s rfl) (hP _ rfl) rfl w_298 (hP 5 rfl) dX7_ranked_35 ?_
    refine gr5_1 F (lo_s rfl) (hP _ rfl) rfl w_211 (hP _ rfl) dX7_ranked_38 ?_
    refine aw_il_n F 1 dX7_ranked_41 rfl rfl ?_
    refine aw_iald F 5 2 (lo_s rfl) (hP _ rfl) rfl h.1 dX7_ranked_42 ?_
    replace h := h.2
    refine aw_icmp_lt (tgt := 57) F dX7_ranked_43 (by decide) (fun c_10 => ?_) (fun c_10 => ?_)
    · replace h := h.1 c_10
      refine aw_al_n F 0 dX7_ranked_57 rfl rfl ?_
      refine gr7_4 F (lo_s rfl) (hP _ rfl) rfl w_298 (hP 5 rfl) dX7_ranked_58 ?_
      refine aw_il_n F 1 dX7_ranked_61 rfl rfl ?_
      refine aw_il_n F 3 dX7_ranked_62 rfl rfl ?_
      refine aw_cVi (stk := []) F T.room [.int x1, .int x3] (k_X5_inOrder hP h) mv_X5_inOrder w_1022 cf5 (lo_s rfl) (hP _ rfl) rfl (by decide) rfl rfl (Nat.le_of_ble_eq_true rfl) ⟨(Nat.le_of_ble_eq_true rfl), (Nat.le_of_ble_eq_true rfl)⟩ ⟨(Nat.le_of_ble_eq_true rfl), (Nat.le_of_ble_eq_true rfl)⟩ dX7_ranked_63 (fun r_12 G_11 h => ?_)
      exact aw_iretX F T (Nat.le_of_ble_eq_true rfl) (Nat.le_of_ble_eq_true rfl) ⟨_, rfl, h⟩ dX7_ranked_66
    · replace h := h.2 c_10
      refine aw_sub [] rfl ?_
      exact kj_X7_ranked_46 F T h
-- X7_ask (height 38)
def wp_X7_ask (post : Int32 → GH → Prop) (px : Nat → GH → Prop) (x1 x2 : Int32) (G : GH) : Prop :=
  wp_X7_needBytes (fun (G_1 : GH) => wp_X7_needDay (fun (G_3 : GH) => ((x1 ≤ (200 : Int32) → wp_X7_likeness (fun (G_6 : GH) => wp_X4_allMarks (fun (r_9 : Int32) (G_8 : GH) => wp_X5_settleAll (fun (G_10 : GH) => wp_X2_read (fun (r_13 : Int32) (G_12 : GH) => (∀ G_14 : GH, G_14 = gs G_12 0 0 (upd (G_12 0 0) 11 (G_12 3 0 5)) → ((r_13 = 0 → post (G_14 3 0 6) G_14) ∧ (¬ r_13 = 0 → post ((-1000000000 : Int32) - r_13) G_14)))) x1 G_10) 8 6 x2 r_9 G_8) 8 G_6) G_3) ∧ (¬ x1 ≤ (200 : Int32) → px 1 G_3))) px x2 G_1) px x1 G
set_option maxRecDepth 100000 in
set_option maxHeartbeats 4000000 in
theorem k_X7_ask {l : Launch} {E : Ev} {P : Nat → Prop} {sd : Nat → Nat → Nat} {G : GH} {post : Int32 → GH → Prop} {px : Nat → GH → Prop} {x1 x2 : Int32} (hl0 : l.stackTraces = false) (hPP : ∀ o, stt o = true → P o) (h : wp_X7_ask post px x1 x2 G) : CtX l yX7_ask cX7_ask 4 (some .int) 38 3 18 E P sd G [.ref (sd 0 0), .int x1, .int x2] (pI post) px := by
  refine ctx_of hl0 (own := "MarkField") (by decide) rfl (Nat.le_of_ble_eq_true rfl) hPP (fun X F T el eP es => ?_)
  subst el; subst eP; subst es
  have hP := F.P
  change AW E X 4 0 [(0, .ref (sdX X 0 0)), (1, .int x1), (2, .int x2)] [] G 0 0
  refine aw_al_n F 0 dX7_ask_0 rfl rfl ?_
  refine aw_il_n F 1 dX7_ask_1 rfl rfl ?_
  refine aw_cVXv (stk := []) F T [.int x1] (k_X7_needBytes T.tr hP h) mv_X7_needBytes w_379 cf7 (lo_s rfl) (hP _ rfl) rfl (by decide) rfl rfl (Nat.le_of_ble_eq_true rfl) ⟨(Nat.le_of_ble_eq_true rfl), (Nat.le_of_ble_eq_true rfl)⟩ ⟨(Nat.le_of_ble_eq_true rfl), (Nat.le_of_ble_eq_true rfl)⟩ ⟨rfl, rfl⟩ dX7_ask_2 (fun _ _ q => q) (fun G_1 h => ?_)
  refine aw_il_n F 2 dX7_ask_5 rfl rfl ?_
  refine aw_cSXv (stk := []) F T [.int x2] (k_X7_needDay T.tr hP h) ms_X7_needDay w_822 rfl rfl (Nat.le_of_ble_eq_true rfl) ⟨(Nat.le_of_ble_eq_true rfl), (Nat.le_of_ble_eq_true rfl)⟩ ⟨(Nat.le_of_ble_eq_true rfl), (Nat.le_of_ble_eq_true rfl)⟩ ⟨rfl, rfl⟩ dX7_ask_6 (fun _ _ q => q) (fun G_3 h => ?_)
  refine aw_il_n F 1 dX7_ask_9 rfl rfl ?_
  refine aw_si F dX7_ask_10 si_200 ?_
  refine aw_icmp_le (tgt := 27) F dX7_ask_13 (by decide) (fun c_5 => ?_) (fun c_5 => ?_)
  · replace h := h.1 c_5
    refine aw_al_n F 0 dX7_ask_27 rfl rfl ?_
    refine gr7_4 F (lo_s rfl) (hP _ rfl) rfl w_298 (hP 5 rfl) dX7_ask_28 ?_
    refine aw_al_n F 0 dX7_ask_31 rfl rfl ?_
    refine gr7_7 F (lo_s rfl) (hP _ rfl) rfl w_301 (hP 8 rfl) dX7_ask_32 ?_
    refine aw_al_n F 0 dX7_ask_35 rfl rfl ?_
    refine aw_cVr (stk := [.ref (sdX X 8 0), .ref (sdX X 5 0)]) F T.room [] (k_X7_likeness hP h) mv_X7_likeness w_635 cf7 (lo_s rfl) (hP _ rfl) rfl (by decide) rfl rfl (Nat.le_of_ble_eq_true rfl) ⟨(Nat.le_of_ble_eq_true rfl), (Nat.le_of_ble_eq_true rfl)⟩ ⟨(Nat.le_of_ble_eq_true rfl), (Nat.le_of_ble_eq_true rfl)⟩ dX7_ask_36 (fun G_6 h => ?_)
    refine aw_il_n F 2 dX7_ask_39 rfl rfl ?_
    refine aw_al_n F 0 dX7_ask_40 rfl rfl ?_
    refine gr7_7 F (lo_s rfl) (hP _ rfl) rfl w_301 (hP 8 rfl) dX7_ask_41 ?_
    refine aw_cVi (stk := [.int x2, .ref (sdX X 6 0), .ref (sdX X 8 0), .ref (sdX X 5 0)]) F T.room [] (k_X4_allMarks hP rfl rfl h) mv_X4_allMarks w_891 cf4 (lo_s rfl) (hP _ rfl) rfl (by decide) rfl rfl (Nat.le_of_ble_eq_true rfl) ⟨(Nat.le_of_ble_eq_true rfl), (Nat.le_of_ble_eq_true rfl)⟩ ⟨(Nat.le_of_ble_eq_true rfl), (Nat.le_of_ble_eq_true rfl)⟩ dX7_ask_44 (fun r_9 G_8 h => ?_)
    refine aw_cVv (stk := []) F T.room [.ref (sdX X 8 0), .ref (sdX X 6 0), .int x2, .int r_9] (k_X5_settleAll hP rfl rfl rfl rfl h) mv_X5_settleAll w_869 cf5 (lo_s rfl) (hP _ rfl) rfl (by decide) rfl rfl (Nat.le_of_ble_eq_true rfl) ⟨(Nat.le_of_ble_eq_true rfl), (Nat.le_of_ble_eq_true rfl)⟩ ⟨(Nat.le_of_ble_eq_true rfl), (Nat.le_of_ble_eq_true rfl)⟩ dX7_ask_47 (fun G_10 h => ?_)
    refine aw_al_n F 0 dX7_ask_50 rfl rfl ?_
    refine gr7_2 F (lo_s rfl) (hP _ rfl) rfl w_296 (hP 3 rfl) dX7_ask_51 ?_
    refine aw_il_n F 1 dX7_ask_54 rfl rfl ?_
    refine aw_cVi (stk := []) F T.room [.int x1] (k_X2_read hP h) mv_X2_read w_1092 cf2 (lo_s rfl) (hP _ rfl) rfl (by decide) rfl rfl (Nat.le_of_ble_eq_true rfl) ⟨(Nat.le_of_ble_eq_true rfl), (Nat.le_of_ble_eq_true rfl)⟩ ⟨(Nat.le_of_ble_eq_true rfl), (Nat.le_of_ble_eq_true rfl)⟩ dX7_ask_55 (fun r_13 G_12 h => ?_)
    refine aw_is_n (lv1 := [(3, .int r_13), (0, .ref (sdX X 0 0)), (1, .int x1), (2, .int x2)]) F dX7_ask_58 rfl (by decide) rfl ?_
    refine aw_al_n F 1 dX7_ask_59 rfl rfl ?_
    refine aw_al_n F 1 dX7_ask_60 rfl rfl ?_
    refine gr7_2 F (lo_s rfl) (hP _ rfl) rfl w_296 (hP 3 rfl) dX7_ask_61 ?_
    refine gf2_5 F (lo_s rfl) (hP _ rfl) rfl w_276 dX7_ask_64 ?_
    refine pf7_11 F (lo_s rfl) (hP _ rfl) rfl w_305 dX7_ask_67 (fun G_14 eG_14 => ?_)
    replace h := h G_14 eG_14
    refine aw_il_n F 0 dX7_ask_70 rfl rfl ?_
    refine aw_if_eq (tgt := 82) F dX7_ask_71 (by decide) (fun c_15 => ?_) (fun c_15 => ?_)
    · replace h := h.1 c_15
      refine aw_al_n F 1 dX7_ask_82 rfl rfl ?_
      refine gr7_2 F (lo_s rfl) (hP _ rfl) rfl w_296 (hP 3 rfl) dX7_ask_83 ?_
      refine gf2_6 F (lo_s rfl) (hP _ rfl) rfl w_278 dX7_ask_86 ?_
      exact aw_iretX F T (Nat.le_of_ble_eq_true rfl) (Nat.le_of_ble_eq_true rfl) ⟨_, rfl, h⟩ dX7_ask_89
    · replace h := h.2 c_15
      refine aw_ldcw F dX7_ask_74 w_946 ?_
      refine aw_il_n F 0 dX7_ask_77 rfl rfl ?_
      refine aw_isub F dX7_ask_78 ?_
      refine aw_go (tgt := 89) F dX7_ask_79 (by decide) ?_
      exact aw_iretX F T (Nat.le_of_ble_eq_true rfl) (Nat.le_of_ble_eq_true rfl) ⟨_, rfl, h⟩ dX7_ask_89
  · replace h := h.2 c_5
    exact aw_thr F T 1 (by decide) 8 (by decide) rfl true (Nat.le_of_ble_eq_true rfl) (Nat.le_of_ble_eq_true rfl) (Nat.le_of_ble_eq_true rfl) (Nat.le_of_ble_eq_true rfl) h dX7_ask_16 dX7_ask_19 dX7_ask_20 dX7_ask_23 dX7_ask_26
