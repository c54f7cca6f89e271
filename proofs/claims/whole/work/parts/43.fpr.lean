theorem si_680 : (Int16.ofInt (680)).toInt32 = (680 : Int32) := by decide
theorem w_294 : (Jvm.Cond.fieldLink "MarkField" (10 : Nat) "MarkField" "tape" "LMarkField$Tape;") ∈ tb := tb_of (List.mem_of_getElem? (i := 294) (by decide +kernel)) rfl
theorem w_41 : (Jvm.Cond.fieldLink "MarkField" (81 : Nat) "MarkField$Tape" "size" "I") ∈ tb := tb_of (List.mem_of_getElem? (i := 41) (by decide +kernel)) rfl
theorem w_341 : (Jvm.Cond.code ({ cls := "MarkField$Tape", name := "append", desc := "(I)V" } : Jvm.MethodName) prog_8_method_2_code (3 : Nat) (Option.none : Option Jvm.ClassFile.FieldType)) ∈ tb := tb_of (List.mem_of_getElem? (i := 341) (by decide +kernel)) rfl
theorem w_339 : (Jvm.Cond.instanceMethod ({ cls := "MarkField$Tape", name := "append", desc := "(I)V" } : Jvm.MethodName)) ∈ tb := tb_of (List.mem_of_getElem? (i := 339) (by decide +kernel)) rfl
theorem w_340 : (Jvm.Cond.selects "MarkField$Tape" ({ cls := "MarkField$Tape", name := "append", desc := "(I)V" } : Jvm.MethodName) ({ cls := "MarkField$Tape", name := "append", desc := "(I)V" } : Jvm.MethodName)) ∈ tb := tb_of (List.mem_of_getElem? (i := 340) (by decide +kernel)) rfl
theorem w_338 : (Jvm.Cond.methodLink "MarkField" (84 : Nat) ({ cls := "MarkField$Tape", name := "append", desc := "(I)V" } : Jvm.MethodName)) ∈ tb := tb_of (List.mem_of_getElem? (i := 338) (by decide +kernel)) rfl
theorem w_305 : (Jvm.Cond.fieldLink "MarkField" (74 : Nat) "MarkField" "faultPlace" "I") ∈ tb := tb_of (List.mem_of_getElem? (i := 305) (by decide +kernel)) rfl
theorem w_306 : (Jvm.Cond.fieldLink "MarkField" (78 : Nat) "MarkField" "stale" "I") ∈ tb := tb_of (List.mem_of_getElem? (i := 306) (by decide +kernel)) rfl
theorem w_299 : (Jvm.Cond.fieldLink "MarkField" (42 : Nat) "MarkField" "known" "LMarkField$Likeness;") ∈ tb := tb_of (List.mem_of_getElem? (i := 299) (by decide +kernel)) rfl
theorem w_301 : (Jvm.Cond.fieldLink "MarkField" (19 : Nat) "MarkField" "now" "LMarkField$Register;") ∈ tb := tb_of (List.mem_of_getElem? (i := 301) (by decide +kernel)) rfl
theorem w_702 : (Jvm.Cond.methodLink "MarkField" (307 : Nat) ({ cls := "MarkField$Likeness", name := "judge", desc := "(LMarkField$Register;)V" } : Jvm.MethodName)) ∈ tb := tb_of (List.mem_of_getElem? (i := 702) (by decide +kernel)) rfl
theorem w_692 : (Jvm.Cond.code ({ cls := "MarkField$Likeness", name := "learnGoods", desc := "(LMarkField$Register;)V" } : Jvm.MethodName) prog_3_method_6_code (3 : Nat) (Option.none : Option Jvm.ClassFile.FieldType)) ∈ tb := tb_of (List.mem_of_getElem? (i := 692) (by decide +kernel)) rfl
theorem w_690 : (Jvm.Cond.instanceMethod ({ cls := "MarkField$Likeness", name := "learnGoods", desc := "(LMarkField$Register;)V" } : Jvm.MethodName)) ∈ tb := tb_of (List.mem_of_getElem? (i := 690) (by decide +kernel)) rfl
theorem w_691 : (Jvm.Cond.selects "MarkField$Likeness" ({ cls := "MarkField$Likeness", name := "learnGoods", desc := "(LMarkField$Register;)V" } : Jvm.MethodName) ({ cls := "MarkField$Likeness", name := "learnGoods", desc := "(LMarkField$Register;)V" } : Jvm.MethodName)) ∈ tb := tb_of (List.mem_of_getElem? (i := 691) (by decide +kernel)) rfl
theorem w_689 : (Jvm.Cond.methodLink "MarkField" (405 : Nat) ({ cls := "MarkField$Likeness", name := "learnGoods", desc := "(LMarkField$Register;)V" } : Jvm.MethodName)) ∈ tb := tb_of (List.mem_of_getElem? (i := 689) (by decide +kernel)) rfl
theorem w_642 : (Jvm.Cond.code ({ cls := "MarkField$Likeness", name := "learnNames", desc := "(LMarkField$Register;)V" } : Jvm.MethodName) prog_3_method_5_code (4 : Nat) (Option.none : Option Jvm.ClassFile.FieldType)) ∈ tb := tb_of (List.mem_of_getElem? (i := 642) (by decide +kernel)) rfl
theorem w_640 : (Jvm.Cond.instanceMethod ({ cls := "MarkField$Likeness", name := "learnNames", desc := "(LMarkField$Register;)V" } : Jvm.MethodName)) ∈ tb := tb_of (List.mem_of_getElem? (i := 640) (by decide +kernel)) rfl
theorem w_641 : (Jvm.Cond.selects "MarkField$Likeness" ({ cls := "MarkField$Likeness", name := "learnNames", desc := "(LMarkField$Register;)V" } : Jvm.MethodName) ({ cls := "MarkField$Likeness", name := "learnNames", desc := "(LMarkField$Register;)V" } : Jvm.MethodName)) ∈ tb := tb_of (List.mem_of_getElem? (i := 641) (by decide +kernel)) rfl
theorem w_639 : (Jvm.Cond.methodLink "MarkField" (402 : Nat) ({ cls := "MarkField$Likeness", name := "learnNames", desc := "(LMarkField$Register;)V" } : Jvm.MethodName)) ∈ tb := tb_of (List.mem_of_getElem? (i := 639) (by decide +kernel)) rfl
theorem w_86 : (Jvm.Cond.fieldLink "MarkField" (105 : Nat) "MarkField$Register" "marks" "I") ∈ tb := tb_of (List.mem_of_getElem? (i := 86) (by decide +kernel)) rfl
theorem w_298 : (Jvm.Cond.fieldLink "MarkField" (52 : Nat) "MarkField" "standing" "LMarkField$Standing;") ∈ tb := tb_of (List.mem_of_getElem? (i := 298) (by decide +kernel)) rfl
theorem w_218 : (Jvm.Cond.fieldLink "MarkField" (262 : Nat) "MarkField$Standing" "held" "[I") ∈ tb := tb_of (List.mem_of_getElem? (i := 218) (by decide +kernel)) rfl
theorem w_184 : (Jvm.Cond.fieldLink "MarkField" (134 : Nat) "MarkField$Likeness" "alike" "[I") ∈ tb := tb_of (List.mem_of_getElem? (i := 184) (by decide +kernel)) rfl
theorem w_909 : (Jvm.Cond.code ({ cls := "MarkField", name := "halvesHeld", desc := "(II)I" } : Jvm.MethodName) prog_1_method_47_code (3 : Nat) (Option.some Jvm.ClassFile.FieldType.int)) ∈ tb := tb_of (List.mem_of_getElem? (i := 909) (by decide +kernel)) rfl
theorem w_908 : (Jvm.Cond.instanceMethod ({ cls := "MarkField", name := "halvesHeld", desc := "(II)I" } : Jvm.MethodName)) ∈ tb := tb_of (List.mem_of_getElem? (i := 908) (by decide +kernel)) rfl
theorem ws_24 : (Jvm.Cond.selects "MarkField" ({ cls := "MarkField", name := "halvesHeld", desc := "(II)I" } : Jvm.MethodName) ({ cls := "MarkField", name := "halvesHeld", desc := "(II)I" } : Jvm.MethodName)) ∈ tb := tb_sel (List.mem_of_getElem? (i := 24) (by decide +kernel)) rfl
theorem w_906 : (Jvm.Cond.methodLink "MarkField" (408 : Nat) ({ cls := "MarkField", name := "halvesHeld", desc := "(II)I" } : Jvm.MethodName)) ∈ tb := tb_of (List.mem_of_getElem? (i := 906) (by decide +kernel)) rfl
theorem w_302 : (Jvm.Cond.fieldLink "MarkField" (23 : Nat) "MarkField" "trial" "LMarkField$Register;") ∈ tb := tb_of (List.mem_of_getElem? (i := 302) (by decide +kernel)) rfl
theorem w_357 : (Jvm.Cond.code ({ cls := "MarkField$Register", name := "copy", desc := "(LMarkField$Register;)V" } : Jvm.MethodName) prog_6_method_3_code (2 : Nat) (Option.none : Option Jvm.ClassFile.FieldType)) ∈ tb := tb_of (List.mem_of_getElem? (i := 357) (by decide +kernel)) rfl
theorem w_355 : (Jvm.Cond.instanceMethod ({ cls := "MarkField$Register", name := "copy", desc := "(LMarkField$Register;)V" } : Jvm.MethodName)) ∈ tb := tb_of (List.mem_of_getElem? (i := 355) (by decide +kernel)) rfl
theorem w_356 : (Jvm.Cond.selects "MarkField$Register" ({ cls := "MarkField$Register", name := "copy", desc := "(LMarkField$Register;)V" } : Jvm.MethodName) ({ cls := "MarkField$Register", name := "copy", desc := "(LMarkField$Register;)V" } : Jvm.MethodName)) ∈ tb := tb_of (List.mem_of_getElem? (i := 356) (by decide +kernel)) rfl
theorem w_362 : (Jvm.Cond.methodLink "MarkField" (98 : Nat) ({ cls := "MarkField$Register", name := "copy", desc := "(LMarkField$Register;)V" } : Jvm.MethodName)) ∈ tb := tb_of (List.mem_of_getElem? (i := 362) (by decide +kernel)) rfl
theorem w_300 : (Jvm.Cond.fieldLink "MarkField" (46 : Nat) "MarkField" "imagined" "LMarkField$Likeness;") ∈ tb := tb_of (List.mem_of_getElem? (i := 300) (by decide +kernel)) rfl
theorem w_954 : (Jvm.Cond.code ({ cls := "MarkField$Likeness", name := "copy", desc := "(LMarkField$Likeness;)V" } : Jvm.MethodName) prog_3_method_4_code (2 : Nat) (Option.none : Option Jvm.ClassFile.FieldType)) ∈ tb := tb_of (List.mem_of_getElem? (i := 954) (by decide +kernel)) rfl
theorem w_952 : (Jvm.Cond.instanceMethod ({ cls := "MarkField$Likeness", name := "copy", desc := "(LMarkField$Likeness;)V" } : Jvm.MethodName)) ∈ tb := tb_of (List.mem_of_getElem? (i := 952) (by decide +kernel)) rfl
theorem w_953 : (Jvm.Cond.selects "MarkField$Likeness" ({ cls := "MarkField$Likeness", name := "copy", desc := "(LMarkField$Likeness;)V" } : Jvm.MethodName) ({ cls := "MarkField$Likeness", name := "copy", desc := "(LMarkField$Likeness;)V" } : Jvm.MethodName)) ∈ tb := tb_of (List.mem_of_getElem? (i := 953) (by decide +kernel)) rfl
theorem w_951 : (Jvm.Cond.methodLink "MarkField" (316 : Nat) ({ cls := "MarkField$Likeness", name := "copy", desc := "(LMarkField$Likeness;)V" } : Jvm.MethodName)) ∈ tb := tb_of (List.mem_of_getElem? (i := 951) (by decide +kernel)) rfl
theorem w_39 : (Jvm.Cond.fieldLink "MarkField" (336 : Nat) "MarkField$Tape" "bytes" "[B") ∈ tb := tb_of (List.mem_of_getElem? (i := 39) (by decide +kernel)) rfl
theorem w_956 : (Jvm.Cond.methodLink "MarkField" (339 : Nat) ({ cls := "MarkField$Register", name := "addMark", desc := "([BIII)I" } : Jvm.MethodName)) ∈ tb := tb_of (List.mem_of_getElem? (i := 956) (by decide +kernel)) rfl
theorem w_93 : (Jvm.Cond.fieldLink "MarkField" (150 : Nat) "MarkField$Register" "classes" "[I") ∈ tb := tb_of (List.mem_of_getElem? (i := 93) (by decide +kernel)) rfl
theorem w_957 : (Jvm.Cond.methodLink "MarkField" (411 : Nat) ({ cls := "MarkField$Likeness", name := "hear", desc := "(LMarkField$Register;I)V" } : Jvm.MethodName)) ∈ tb := tb_of (List.mem_of_getElem? (i := 957) (by decide +kernel)) rfl
theorem w_959 : (Jvm.Cond.methodLink "MarkField" (304 : Nat) ({ cls := "MarkField$Likeness", name := "compareGoods", desc := "(LMarkField$Register;I)V" } : Jvm.MethodName)) ∈ tb := tb_of (List.mem_of_getElem? (i := 959) (by decide +kernel)) rfl
theorem w_958 : (Jvm.Cond.methodLink "MarkField" (414 : Nat) ({ cls := "MarkField$Likeness", name := "compareNames", desc := "(LMarkField$Register;II)V" } : Jvm.MethodName)) ∈ tb := tb_of (List.mem_of_getElem? (i := 958) (by decide +kernel)) rfl
theorem w_842 : (Jvm.Cond.code ({ cls := "MarkField$Likeness", name := "groupOf", desc := "(LMarkField$Register;I)I" } : Jvm.MethodName) prog_3_method_23_code (7 : Nat) (Option.some Jvm.ClassFile.FieldType.int)) ∈ tb := tb_of (List.mem_of_getElem? (i := 842) (by decide +kernel)) rfl
theorem w_840 : (Jvm.Cond.instanceMethod ({ cls := "MarkField$Likeness", name := "groupOf", desc := "(LMarkField$Register;I)I" } : Jvm.MethodName)) ∈ tb := tb_of (List.mem_of_getElem? (i := 840) (by decide +kernel)) rfl
theorem w_841 : (Jvm.Cond.selects "MarkField$Likeness" ({ cls := "MarkField$Likeness", name := "groupOf", desc := "(LMarkField$Register;I)I" } : Jvm.MethodName) ({ cls := "MarkField$Likeness", name := "groupOf", desc := "(LMarkField$Register;I)I" } : Jvm.MethodName)) ∈ tb := tb_of (List.mem_of_getElem? (i := 841) (by decide +kernel)) rfl
theorem w_839 : (Jvm.Cond.methodLink "MarkField" (238 : Nat) ({ cls := "MarkField$Likeness", name := "groupOf", desc := "(LMarkField$Register;I)I" } : Jvm.MethodName)) ∈ tb := tb_of (List.mem_of_getElem? (i := 839) (by decide +kernel)) rfl
theorem w_964 : (Jvm.Cond.constant "MarkField" (418 : Nat) (1000000 : Int32)) ∈ tb := tb_of (List.mem_of_getElem? (i := 964) (by decide +kernel)) rfl
theorem w_90 : (Jvm.Cond.fieldLink "MarkField" (147 : Nat) "MarkField$Register" "filed" "[I") ∈ tb := tb_of (List.mem_of_getElem? (i := 90) (by decide +kernel)) rfl
theorem w_843 : (Jvm.Cond.methodLink "MarkField" (241 : Nat) ({ cls := "MarkField$Standing", name := "rank", desc := "(LMarkField$Register;III)V" } : Jvm.MethodName)) ∈ tb := tb_of (List.mem_of_getElem? (i := 843) (by decide +kernel)) rfl
theorem w_849 : (Jvm.Cond.methodLink "MarkField" (245 : Nat) ({ cls := "MarkField$Standing", name := "settle", desc := "(LMarkField$Register;LMarkField$Likeness;I)V" } : Jvm.MethodName)) ∈ tb := tb_of (List.mem_of_getElem? (i := 849) (by decide +kernel)) rfl
theorem w_223 : (Jvm.Cond.fieldLink "MarkField" (252 : Nat) "MarkField$Standing" "holding" "I") ∈ tb := tb_of (List.mem_of_getElem? (i := 223) (by decide +kernel)) rfl
theorem w_927 : (Jvm.Cond.code ({ cls := "MarkField$Register", name := "nextChange", desc := "(III)I" } : Jvm.MethodName) prog_6_method_16_code (8 : Nat) (Option.some Jvm.ClassFile.FieldType.int)) ∈ tb := tb_of (List.mem_of_getElem? (i := 927) (by decide +kernel)) rfl
theorem w_925 : (Jvm.Cond.instanceMethod ({ cls := "MarkField$Register", name := "nextChange", desc := "(III)I" } : Jvm.MethodName)) ∈ tb := tb_of (List.mem_of_getElem? (i := 925) (by decide +kernel)) rfl
theorem w_926 : (Jvm.Cond.selects "MarkField$Register" ({ cls := "MarkField$Register", name := "nextChange", desc := "(III)I" } : Jvm.MethodName) ({ cls := "MarkField$Register", name := "nextChange", desc := "(III)I" } : Jvm.MethodName)) ∈ tb := tb_of (List.mem_of_getElem? (i := 926) (by decide +kernel)) rfl
theorem w_924 : (Jvm.Cond.methodLink "MarkField" (279 : Nat) ({ cls := "MarkField$Register", name := "nextChange", desc := "(III)I" } : Jvm.MethodName)) ∈ tb := tb_of (List.mem_of_getElem? (i := 924) (by decide +kernel)) rfl
theorem w_625 : (Jvm.Cond.methodLink "MarkField" (111 : Nat) ({ cls := "MarkField$Register", name := "halfCount", desc := "()I" } : Jvm.MethodName)) ∈ tb := tb_of (List.mem_of_getElem? (i := 625) (by decide +kernel)) rfl
theorem w_103 : (Jvm.Cond.fieldLink "MarkField" (177 : Nat) "MarkField$Register" "letters" "[B") ∈ tb := tb_of (List.mem_of_getElem? (i := 103) (by decide +kernel)) rfl
theorem w_1005 : (Jvm.Cond.code ({ cls := "MarkField$Likeness", name := "rename", desc := "(LMarkField$Register;I)V" } : Jvm.MethodName) prog_3_method_20_code (4 : Nat) (Option.none : Option Jvm.ClassFile.FieldType)) ∈ tb := tb_of (List.mem_of_getElem? (i := 1005) (by decide +kernel)) rfl
theorem w_1003 : (Jvm.Cond.instanceMethod ({ cls := "MarkField$Likeness", name := "rename", desc := "(LMarkField$Register;I)V" } : Jvm.MethodName)) ∈ tb := tb_of (List.mem_of_getElem? (i := 1003) (by decide +kernel)) rfl
theorem w_1004 : (Jvm.Cond.selects "MarkField$Likeness" ({ cls := "MarkField$Likeness", name := "rename", desc := "(LMarkField$Register;I)V" } : Jvm.MethodName) ({ cls := "MarkField$Likeness", name := "rename", desc := "(LMarkField$Register;I)V" } : Jvm.MethodName)) ∈ tb := tb_of (List.mem_of_getElem? (i := 1004) (by decide +kernel)) rfl
theorem w_1002 : (Jvm.Cond.methodLink "MarkField" (419 : Nat) ({ cls := "MarkField$Likeness", name := "rename", desc := "(LMarkField$Register;I)V" } : Jvm.MethodName)) ∈ tb := tb_of (List.mem_of_getElem? (i := 1002) (by decide +kernel)) rfl
theorem w_985 : (Jvm.Cond.code ({ cls := "MarkField", name := "wouldHold", desc := "(II)Z" } : Jvm.MethodName) prog_1_method_49_code (4 : Nat) (Option.some Jvm.ClassFile.FieldType.boolean)) ∈ tb := tb_of (List.mem_of_getElem? (i := 985) (by decide +kernel)) rfl
theorem w_984 : (Jvm.Cond.instanceMethod ({ cls := "MarkField", name := "wouldHold", desc := "(II)Z" } : Jvm.MethodName)) ∈ tb := tb_of (List.mem_of_getElem? (i := 984) (by decide +kernel)) rfl
theorem ws_28 : (Jvm.Cond.selects "MarkField" ({ cls := "MarkField", name := "wouldHold", desc := "(II)Z" } : Jvm.MethodName) ({ cls := "MarkField", name := "wouldHold", desc := "(II)Z" } : Jvm.MethodName)) ∈ tb := tb_sel (List.mem_of_getElem? (i := 28) (by decide +kernel)) rfl
theorem w_982 : (Jvm.Cond.methodLink "MarkField" (313 : Nat) ({ cls := "MarkField", name := "wouldHold", desc := "(II)Z" } : Jvm.MethodName)) ∈ tb := tb_of (List.mem_of_getElem? (i := 982) (by decide +kernel)) rfl
theorem mv_X6_append : MV yX6_append cX6_append 3 none 1 := ⟨⟨w_341, w_2, by decide, by decide, by decide +kernel⟩, w_339, w_340⟩
theorem mv_X1_learnGoods : MV yX1_learnGoods cX1_learnGoods 3 none 1 := ⟨⟨w_692, w_6, by decide, by decide, by decide +kernel⟩, w_690, w_691⟩
theorem mv_X1_learnNames : MV yX1_learnNames cX1_learnNames 4 none 1 := ⟨⟨w_642, w_6, by decide, by decide, by decide +kernel⟩, w_640, w_641⟩
theorem mv_X7_halvesHeld : MV yX7_halvesHeld cX7_halvesHeld 3 (some .int) 2 := ⟨⟨w_909, w_1, by decide, by decide, by decide +kernel⟩, w_908, ws_24⟩
theorem mv_X4_copy : MV yX4_copy cX4_copy 2 none 1 := ⟨⟨w_357, w_3, by decide, by decide, by decide +kernel⟩, w_355, w_356⟩
theorem mv_X1_copy : MV yX1_copy cX1_copy 2 none 1 := ⟨⟨w_954, w_6, by decide, by decide, by decide +kernel⟩, w_952, w_953⟩
theorem mv_X1_groupOf : MV yX1_groupOf cX1_groupOf 7 (some .int) 2 := ⟨⟨w_842, w_6, by decide, by decide, by decide +kernel⟩, w_840, w_841⟩
theorem mv_X4_nextChange : MV yX4_nextChange cX4_nextChange 8 (some .int) 3 := ⟨⟨w_927, w_3, by decide, by decide, by decide +kernel⟩, w_925, w_926⟩
theorem mv_X1_rename : MV yX1_rename cX1_rename 4 none 2 := ⟨⟨w_1005, w_6, by decide, by decide, by decide +kernel⟩, w_1003, w_1004⟩
theorem mv_X7_wouldHold : MV yX7_wouldHold cX7_wouldHold 4 (some .boolean) 2 := ⟨⟨w_985, w_1, by decide, by decide, by decide +kernel⟩, w_984, ws_28⟩
-- X7_feed (height 1)
def wp_X7_feed (post : Int32 → GH → Prop) (x1 x2 x3 x4 x5 : Int32) (G : GH) : Prop :=
  (((G 1 0 1) ≤ (680 : Int32) → wp_X6_append (fun (G_2 : GH) => wp_X6_append (fun (G_4 : GH) => wp_X6_append (fun (G_6 : GH) => wp_X6_append (fun (G_8 : GH) => wp_X6_append (fun (G_10 : GH) => post (G_10 1 0 1) G_10) x5 G_8) x4 G_6) x3 G_4) x2 G_2) x1 G) ∧ (¬ (G 1 0 1) ≤ (680 : Int32) → post (-1 : Int32) G))
set_option maxRecDepth 100000 in
set_option maxHeartbeats 4000000 in
theorem k_X7_feed {l : Launch} {E : Ev} {P : Nat → Prop} {sd : Nat → Nat → Nat} {G : GH} {post : Int32 → GH → Prop} {x1 x2 x3 x4 x5 : Int32} (hPP : ∀ o, stt o = true → P o) (h : wp_X7_feed post x1 x2 x3 x4 x5 G) : Ct l yX7_feed cX7_feed 6 (some .int) 1 0 0 E P sd G [.ref (sd 0 0), .int x1, .int x2, .int x3, .int x4, .int x5] (pI post) := by
  refine ct_of (own := "MarkField") (by decide) rfl (Nat.le_of_ble_eq_true rfl) hPP (fun X F T el eP es => ?_)
  subst el; subst eP; subst es
  have hP := F.P
  change AW E X 6 0 [(0, .ref (sdX X 0 0)), (1, .int x1), (2, .int x2), (3, .int x3), (4, .int x4), (5, .int x5)] [] G 0 0
  refine aw_al_n F 0 dX7_feed_0 rfl rfl ?_
  refine gr7_0 F (lo_s rfl) (hP _ rfl) rfl w_294 (hP 1 rfl) dX7_feed_1 ?_
  refine gf6_1 F (lo_s rfl) (hP _ rfl) rfl w_41 dX7_feed_4 ?_
  refine aw_si F dX7_feed_7 si_680 ?_
  refine aw_icmp_le (tgt := 15) F dX7_feed_10 (by decide) (fun c_1 => ?_) (fun c_1 => ?_)
  · replace h := h.1 c_1
    refine aw_al_n F 0 dX7_feed_15 rfl rfl ?_
    refine gr7_0 F (lo_s rfl) (hP _ rfl) rfl w_294 (hP 1 rfl) dX7_feed_16 ?_
    refine aw_il_n F 1 dX7_feed_19 rfl rfl ?_
    refine aw_cVv (stk := []) F T.room [.int x1] (k_X6_append hP h) mv_X6_append w_338 cf6 (lo_s rfl) (hP _ rfl) rfl (by decide) rfl rfl (Nat.le_of_ble_eq_true rfl) ⟨(Nat.le_of_ble_eq_true rfl), (Nat.le_of_ble_eq_true rfl)⟩ ⟨(Nat.le_of_ble_eq_true rfl), (Nat.le_of_ble_eq_true rfl)⟩ dX7_feed_20 (fun G_2 h => ?_)
    refine aw_al_n F 0 dX7_feed_23 rfl rfl ?_
    refine gr7_0 F (lo_s rfl) (hP _ rfl) rfl w_294 (hP 1 rfl) dX7_feed_24 ?_
    refine aw_il_n F 2 dX7_feed_27 rfl rfl ?_
    refine aw_cVv (stk := []) F T.room [.int x2] (k_X6_append hP h) mv_X6_append w_338 cf6 (lo_s rfl) (hP _ rfl) rfl (by decide) rfl rfl (Nat.le_of_ble_eq_true rfl) ⟨(Nat.le_of_ble_eq_true rfl), (Nat.le_of_ble_eq_true rfl)⟩ ⟨(Nat.le_of_ble_eq_true rfl), (Nat.le_of_ble_eq_true rfl)⟩ dX7_feed_28 (fun G_4 h => ?_)
    refine aw_al_n F 0 dX7_feed_31 rfl rfl ?_
    refine gr7_0 F (lo_s rfl) (hP _ rfl) rfl w_294 (hP 1 rfl) dX7_feed_32 ?_
    refine aw_il_n F 3 dX7_feed_35 rfl rfl ?_
    refine aw_cVv (stk := []) F T.room [.int x3] (k_X6_append hP h) mv_X6_append w_338 cf6 (lo_s rfl) (hP _ rfl) rfl (by decide) rfl rfl (Nat.le_of_ble_eq_true rfl) ⟨(Nat.le_of_ble_eq_true rfl), (Nat.le_of_ble_eq_true rfl)⟩ ⟨(Nat.le_of_ble_eq_true rfl), (Nat.le_of_ble_eq_true rfl)⟩ dX7_feed_36 (fun G_6 h => ?_)
    refine aw_al_n F 0 dX7_feed_39 rfl rfl ?_
    refine gr7_0 F (lo_s rfl) (hP _ rfl) rfl w_294 (hP 1 rfl) dX7_feed_40 ?_
    refine aw_il F 4 dX7_feed_43 rfl ?_
    refine aw_cVv (stk := []) F T.room [.int x4] (k_X6_append hP h) mv_X6_append w_338 cf6 (lo_s rfl) (hP _ rfl) rfl (by decide) rfl rfl (Nat.le_of_ble_eq_true rfl) ⟨(Nat.le_of_ble_eq_true rfl), (Nat.le_of_ble_eq_true rfl)⟩ ⟨(Nat.le_of_ble_eq_true rfl), (Nat.le_of_ble_eq_true rfl)⟩ dX7_feed_45 (fun G_8 h => ?_)
    refine aw_al_n F 0 dX7_feed_48 rfl rfl ?_
    refine gr7_0 F (lo_s rfl) (hP _ rfl) rfl w_294 (hP 1 rfl) dX7_feed_49 ?_
    refine aw_il F 5 dX7_feed_52 rfl ?_
    refine aw_cVv (stk := []) F T.room [.int x5] (k_X6_append hP h) mv_X6_append w_338 cf6 (lo_s rfl) (hP _ rfl) rfl (by decide) rfl rfl (Nat.le_of_ble_eq_true rfl) ⟨(Nat.le_of_ble_eq_true rfl), (Nat.le_of_ble_eq_true rfl)⟩ ⟨(Nat.le_of_ble_eq_true rfl), (Nat.le_of_ble_eq_true rfl)⟩ dX7_feed_54 (fun G_10 h => ?_)
    refine aw_al_n F 0 dX7_feed_57 rfl rfl ?_
    refine gr7_0 F (lo_s rfl) (hP _ rfl) rfl w_294 (hP 1 rfl) dX7_feed_58 ?_
    refine gf6_1 F (lo_s rfl) (hP _ rfl) rfl w_41 dX7_feed_61 ?_
    exact aw_iret F T (Nat.le_of_ble_eq_true rfl) (Nat.le_of_ble_eq_true rfl) ⟨_, rfl, h⟩ dX7_feed_64
  · replace h := h.2 c_1
    refine aw_ic F dX7_feed_13 ic_m1 ?_
    exact aw_iret F T (Nat.le_of_ble_eq_true rfl) (Nat.le_of_ble_eq_true rfl) ⟨_, rfl, h⟩ dX7_feed_14
-- X7_fault (height 0)
def wp_X7_fault (post : Int32 → GH → Prop) (G : GH) : Prop :=
  post (G 0 0 11) G
set_option maxRecDepth 100000 in
set_option maxHeartbeats 4000000 in
theorem k_X7_fault {l : Launch} {E : Ev} {P : Nat → Prop} {sd : Nat → Nat → Nat} {G : GH} {post : Int32 → GH → Prop} (hPP : ∀ o, stt o = true → P o) (h : wp_X7_fault post G) : Ct l yX7_fault cX7_fault 1 (some .int) 0 0 0 E P sd G [.ref (sd 0 0)] (pI post) := by
  refine ct_of (own := "MarkField") (by decide) rfl (Nat.le_of_ble_eq_true rfl) hPP (fun X F T el eP es => ?_)
  subst el; subst eP; subst es
  have hP := F.P
  change AW E X 1 0 [(0, .ref (sdX X 0 0))] [] G 0 0
  refine aw_al_n F 0 dX7_fault_0 rfl rfl ?_
  refine gf7_11 F (lo_s rfl) (hP _ rfl) rfl w_305 dX7_fault_1 ?_
  exact aw_iret F T (Nat.le_of_ble_eq_true rfl) (Nat.le_of_ble_eq_true rfl) ⟨_, rfl, h⟩ dX7_fault_4
-- X7_likeness (height 5)
def j_X7_likeness_56 (post : GH → Prop) (G : GH) : Prop :=
  (∀ G_4 : GH, G_4 = gs G 0 0 (upd (G 0 0) 12 (0 : Int32)) → post G_4)
def j_X7_likeness_38 (post : GH → Prop) (G : GH) : Prop :=
  (((G 0 0 12) = 0 → j_X7_likeness_56 post G) ∧ (¬ (G 0 0 12) = 0 → wp_X1_judge (fun (G_5 : GH) => j_X7_likeness_56 post G_5) 6 8 G))
def j_X7_likeness_19 (post : GH → Prop) (G : GH) : Prop :=
  (((G 0 0 12) < (2 : Int32) → j_X7_likeness_38 post G) ∧ (¬ (G 0 0 12) < (2 : Int32) → wp_X1_learnGoods (fun (G_7 : GH) => j_X7_likeness_38 post G_7) 6 8 G))
def wp_X7_likeness (post : GH → Prop) (G : GH) : Prop :=
  (((G 0 0 12) = (3 : Int32) → wp_X1_learnNames (fun (G_9 : GH) => j_X7_likeness_19 post G_9) 6 8 G) ∧ (¬ (G 0 0 12) = (3 : Int32) → j_X7_likeness_19 post G))
set_option maxRecDepth 100000 in
set_option maxHeartbeats 4000000 in
theorem kj_X7_likeness_56 {E : Ev} {X : Cx} {post : GH → Prop} {G : GH} (F : Fx E X "MarkField" cX7_likeness 1) (T : RT E X 5 0 0 (some (.object "MarkField$Likeness")) (pR (sdX X 6 0) post)) (h : j_X7_likeness_56 post G) : AW E X 1 56 [(0, .ref (sdX X 0 0))] [] G 0 0 := by
  have hP := F.P
  refine aw_al_n F 0 dX7_likeness_56 rfl rfl ?_
  refine aw_ic F dX7_likeness_57 ic_0 ?_
  refine pf7_12 F (lo_s rfl) (hP _ rfl) rfl w_306 dX7_likeness_58 (fun G_4 eG_4 => ?_)
  replace h := h G_4 eG_4
  refine aw_al_n F 0 dX7_likeness_61 rfl rfl ?_
  refine gr7_5 F (lo_s rfl) (hP _ rfl) rfl w_299 (hP 6 rfl) dX7_likeness_62 ?_
  exact aw_aret F T (Nat.le_of_ble_eq_true rfl) (Nat.le_of_ble_eq_true rfl) ⟨rfl, h⟩ dX7_likeness_65
set_option maxRecDepth 100000 in
set_option maxHeartbeats 4000000 in
theorem kj_X7_likeness_38 {E : Ev} {X : Cx} {post : GH → Prop} {G : GH} (F : Fx E X "MarkField" cX7_likeness 1) (T : RT E X 5 0 0 (some (.object "MarkField$Likeness")) (pR (sdX X 6 0) post)) (h : j_X7_likeness_38 post G) : AW E X 1 38 [(0, .ref (sdX X 0 0))] [] G 0 0 := by
  have hP := F.P
  refine aw_al_n F 0 dX7_likeness_38 rfl rfl ?_
  refine gf7_12 F (lo_s rfl) (hP _ rfl) rfl w_306 dX7_likeness_39 ?_
  refine aw_if_eq (tgt := 56) F dX7_likeness_42 (by decide) (fun c_3 => ?_) (fun c_3 => ?_)
  · replace h := h.1 c_3
    exact kj_X7_likeness_56 F T h
  · replace h := h.2 c_3
    refine aw_al_n F 0 dX7_likeness_45 rfl rfl ?_
    refine gr7_5 F (lo_s rfl) (hP _ rfl) rfl w_299 (hP 6 rfl) dX7_likeness_46 ?_
    refine aw_al_n F 0 dX7_likeness_49 rfl rfl ?_
    refine gr7_7 F (lo_s rfl) (hP _ rfl) rfl w_301 (hP 8 rfl) dX7_likeness_50 ?_
    refine aw_cVv (stk := []) F T.room [.ref (sdX X 8 0)] (k_X1_judge hP rfl rfl rfl rfl h) mv_X1_judge w_702 cf1 (lo_s rfl) (hP _ rfl) rfl (by decide) rfl rfl (Nat.le_of_ble_eq_true rfl) ⟨(Nat.le_of_ble_eq_true rfl), (Nat.le_of_ble_eq_true rfl)⟩ ⟨(Nat.le_of_ble_eq_true rfl), (Nat.le_of_ble_eq_true rfl)⟩ dX7_likeness_53 (fun G_5 h => ?_)
    exact kj_X7_likeness_56 F T h
set_option maxRecDepth 100000 in
set_option maxHeartbeats 4000000 in
theorem kj_X7_likeness_19 {E : Ev} {X : Cx} {post : GH → Prop} {G : GH} (F : Fx E X "MarkField" cX7_likeness 1) (T : RT E X 5 0 0 (some (.object "MarkField$Likeness")) (pR (sdX X 6 0) post)) (h : j_X7_likeness_19 post G) : AW E X 1 19 [(0, .ref (sdX X 0 0))] [] G 0 0 := by
  have hP := F.P
  refine aw_al_n F 0 dX7_likeness_19 rfl rfl ?_
  refine gf7_12 F (lo_s rfl) (hP _ rfl) rfl w_306 dX7_likeness_20 ?_
  refine aw_ic F dX7_likeness_23 ic_2 ?_
  refine aw_icmp_lt (tgt := 38) F dX7_likeness_24 (by decide) (fun c_2 => ?_) (fun c_2 => ?_)
  · replace h := h.1 c_2
    exact kj_X7_likeness_38 F T h
  · replace h := h.2 c_2
    refine aw_al_n F 0 dX7_likeness_27 rfl rfl ?_
    refine gr7_5 F (lo_s rfl) (hP _ rfl) rfl w_299 (hP 6 rfl) dX7_likeness_28 ?_
    refine aw_al_n F 0 dX7_likeness_31 rfl rfl ?_
    refine gr7_7 F (lo_s rfl) (hP _ rfl) rfl w_301 (hP 8 rfl) dX7_likeness_32 ?_
    refine aw_cVv (stk := []) F T.room [.ref (sdX X 8 0)] (k_X1_learnGoods hP rfl rfl rfl rfl h) mv_X1_learnGoods w_689 cf1 (lo_s rfl) (hP _ rfl) rfl (by decide) rfl rfl (Nat.le_of_ble_eq_true rfl) ⟨(Nat.le_of_ble_eq_true rfl), (Nat.le_of_ble_eq_true rfl)⟩ ⟨(Nat.le_of_ble_eq_true rfl), (Nat.le_of_ble_eq_true rfl)⟩ dX7_likeness_35 (fun G_7 h => ?_)
    exact kj_X7_likeness_38 F T h
set_option maxRecDepth 100000 in
set_option maxHeartbeats 4000000 in
theorem k_X7_likeness {l : Launch} {E : Ev} {P : Nat → Prop} {sd : Nat → Nat → Nat} {G : GH} {post : GH → Prop} (hPP : ∀ o, stt o = true → P o) (h : wp_X7_likeness post G) : Ct l yX7_likeness cX7_likeness 1 (some (.object "MarkField$Likeness")) 5 0 0 E P sd G [.ref (sd 0 0)] (pR (sd 6 0) post) := by
  refine ct_of (own := "MarkField") (by decide) rfl (Nat.le_of_ble_eq_true rfl) hPP (fun X F T el eP es => ?_)
  subst el; subst eP; subst es
  have hP := F.P
  change AW E X 1 0 [(0, .ref (sdX X 0 0))] [] G 0 0
  refine aw_al_n F 0 dX7_likeness_0 rfl rfl ?_
  refine gf7_12 F (lo_s rfl) (hP _ rfl) rfl w_306 dX7_likeness_1 ?_
  refine aw_ic F dX7_likeness_4 ic_3 ?_
  refine aw_icmp_ne (tgt := 19) F dX7_likeness_5 (by decide) (fun c_1 => ?_) (fun c_1 => ?_)
  · replace h := h.2 c_1
    exact kj_X7_likeness_19 F T h
  · replace h := h.1 c_1
    refine aw_al_n F 0 dX7_likeness_8 rfl rfl ?_
    refine gr7_5 F (lo_s rfl) (hP _ rfl) rfl w_299 (hP 6 rfl) dX7_likeness_9 ?_
    refine aw_al_n F 0 dX7_likeness_12 rfl rfl ?_
    refine gr7_7 F (lo_s rfl) (hP _ rfl) rfl w_301 (hP 8 rfl) dX7_likeness_13 ?_
    refine aw_cVv (stk := []) F T.room [.ref (sdX X 8 0)] (k_X1_learnNames hP rfl rfl rfl rfl h) mv_X1_learnNames w_639 cf1 (lo_s rfl) (hP _ rfl) rfl (by decide) rfl rfl (Nat.le_of_ble_eq_true rfl) ⟨(Nat.le_of_ble_eq_true rfl), (Nat.le_of_ble_eq_true rfl)⟩ ⟨(Nat.le_of_ble_eq_true rfl), (Nat.le_of_ble_eq_true rfl)⟩ dX7_likeness_16 (fun G_9 h => ?_)
    exact kj_X7_likeness_19 F T h
-- X7_hasMark (height 0)
def wp_X7_hasMark (post : Bool → GH → Prop) (x1 : Int32) (G : GH) : Prop :=
  ((x1 < 0 → post false G) ∧ (¬ x1 < 0 → (((G 8 0 1) ≤ x1 → post false G) ∧ (¬ (G 8 0 1) ≤ x1 → post true G))))
set_option maxRecDepth 100000 in
set_option maxHeartbeats 4000000 in
theorem k_X7_hasMark {l : Launch} {E : Ev} {P : Nat → Prop} {sd : Nat → Nat → Nat} {G : GH} {post : Bool → GH → Prop} {x1 : Int32} (hPP : ∀ o, stt o = true → P o) (h : wp_X7_hasMark post x1 G) : Ct l yX7_hasMark cX7_hasMark 2 (some .boolean) 0 0 0 E P sd G [.ref (sd 0 0), .int x1] (pB post) := by
  refine ct_of (own := "MarkField") (by decide) rfl (Nat.le_of_ble_eq_true rfl) hPP (fun X F T el eP es => ?_)
  subst el; subst eP; subst es
  have hP := F.P
  change AW E X 2 0 [(0, .ref (sdX X 0 0)), (1, .int x1)] [] G 0 0
  refine aw_il_n F 1 dX7_hasMark_0 rfl rfl ?_
  refine aw_if_lt (tgt := 19) F dX7_hasMark_1 (by decide) (fun c_1 => ?_) (fun c_1 => ?_)
  · replace h := h.1 c_1
    refine aw_ic F dX7_hasMark_19 ic_0 ?_
    exact aw_zret F T false rfl (Nat.le_of_ble_eq_true rfl) (Nat.le_of_ble_eq_true rfl) ⟨_, rfl, h⟩ dX7_hasMark_20
  · replace h := h.2 c_1
    refine aw_il_n F 1 dX7_hasMark_4 rfl rfl ?_
    refine aw_al_n F 0 dX7_hasMark_5 rfl rfl ?_
    refine gr7_7 F (lo_s rfl) (hP _ rfl) rfl w_301 (hP 8 rfl) dX7_hasMark_6 ?_
    refine gf4_1 F (lo_s rfl) (hP _ rfl) rfl w_86 dX7_hasMark_9 ?_
    refine aw_icmp_ge (tgt := 19) F dX7_hasMark_12 (by decide) (fun c_2 => ?_) (fun c_2 => ?_)
    · replace h := h.1 c_2
      refine aw_ic F dX7_hasMark_19 ic_0 ?_
      exact aw_zret F T false rfl (Nat.le_of_ble_eq_true rfl) (Nat.le_of_ble_eq_true rfl) ⟨_, rfl, h⟩ dX7_hasMark_20
    · replace h := h.2 c_2
      refine aw_ic F dX7_hasMark_15 ic_1 ?_
      refine aw_go (tgt := 20) F dX7_hasMark_16 (by decide) ?_
      exact aw_zret F T true rfl (Nat.le_of_ble_eq_true rfl) (Nat.le_of_ble_eq_true rfl) ⟨_, rfl, h⟩ dX7_hasMark_20
-- X7_halvesHeld (height 0)
def wp_X7_halvesHeld (post : Int32 → GH → Prop) (x1 x2 : Int32) (G : GH) : Prop :=
  (vp_in x1 13 ∧ post (((G 5 5 x1.toNatClampNeg) >>> (((2 : Int32) * x2) &&& 31)) &&& (3 : Int32)) G)
set_option maxRecDepth 100000 in
set_option maxHeartbeats 4000000 in
theorem k_X7_halvesHeld {l : Launch} {E : Ev} {P : Nat → Prop} {sd : Nat → Nat → Nat} {G : GH} {post : Int32 → GH → Prop} {x1 x2 : Int32} (hPP : ∀ o, stt o = true → P o) (h : wp_X7_halvesHeld post x1 x2 G) : Ct l yX7_halvesHeld cX7_halvesHeld 3 (some .int) 0 0 0 E P sd G [.ref (sd 0 0), .int x1, .int x2] (pI post) := by
  refine ct_of (own := "MarkField") (by decide) rfl (Nat.le_of_ble_eq_true rfl) hPP (fun X F T el eP es => ?_)
  subst el; subst eP; subst es
  have hP := F.P
  change AW E X 3 0 [(0, .ref (sdX X 0 0)), (1, .int x1), (2, .int x2)] [] G 0 0
  refine aw_al_n F 0 dX7_halvesHeld_0 rfl rfl ?_
  refine gr7_4 F (lo_s rfl) (hP _ rfl) rfl w_298 (hP 5 rfl) dX7_halvesHeld_1 ?_
  refine gr5_4 F (lo_s rfl) (hP _ rfl) rfl w_218 (hP _ rfl) dX7_halvesHeld_4 ?_
  refine aw_il_n F 1 dX7_halvesHeld_7 rfl rfl ?_
  refine aw_iald F 5 5 (lo_s rfl) (hP _ rfl) rfl h.1 dX7_halvesHeld_8 ?_
  replace h := h.2
  refine aw_ic F dX7_halvesHeld_9 ic_2 ?_
  refine aw_il_n F 2 dX7_halvesHeld_10 rfl rfl ?_
  refine aw_imul F dX7_halvesHeld_11 ?_
  refine aw_ishr F dX7_halvesHeld_12 ?_
  refine aw_ic F dX7_halvesHeld_13 ic_3 ?_
  refine aw_iand F dX7_halvesHeld_14 ?_
  exact aw_iret F T (Nat.le_of_ble_eq_true rfl) (Nat.le_of_ble_eq_true rfl) ⟨_, rfl, h⟩ dX7_halvesHeld_15
-- X7_isShared (height 1)
def lb_X7_isShared_16 (post : Bool → GH → Prop) (P2 : Int32 → Int32 → GH → Prop) (o1 : Nat) (P16 : Int32 → Int32 → Int32 → GH → Prop) (v2 v3 v4 : Int32) (G : GH) : Prop :=
  (((G 8 0 1) ≤ v4 → P2 v2 (v3 + (1 : Int32)) G) ∧ (¬ (G 8 0 1) ≤ v4 → (vp_in v3 13 ∧ wp_X7_isIn (fun (b_4 : Bool) (G_3 : GH) => ((b_4 = false → P16 v2 v3 (v4 + (1 : Int32)) G_3) ∧ (b_4 = true → wp_X7_halvesHeld (fun (r_7 : Int32) (G_6 : GH) => ((r_7 = (1 : Int32) → wp_X7_halvesHeld (fun (r_10 : Int32) (G_9 : GH) => ((r_10 = (2 : Int32) → post true G_9) ∧ (¬ r_10 = (2 : Int32) → P16 v2 v3 (v4 + (1 : Int32)) G_9))) v4 v2 G_6) ∧ (¬ r_7 = (1 : Int32) → P16 v2 v3 (v4 + (1 : Int32)) G_6))) v3 v2 G_3))) v4 (G o1 7 v3.toNatClampNeg) G)))
def lp_X7_isShared_16 (post : Bool → GH → Prop) (P2 : Int32 → Int32 → GH → Prop) (o1 : Nat) (v2 v3 v4 : Int32) (G : GH) : Prop := ∀ P16 : Int32 → Int32 → Int32 → GH → Prop, (∀ (v2 v3 v4 : Int32) (G : GH), lb_X7_isShared_16 post P2 o1 P16 v2 v3 v4 G → P16 v2 v3 v4 G) → P16 v2 v3 v4 G
def lb_X7_isShared_2 (post : Bool → GH → Prop) (o1 : Nat) (P2 : Int32 → Int32 → GH → Prop) (v2 v3 : Int32) (G : GH) : Prop :=
  (((G 8 0 1) ≤ v3 → post false G) ∧ (¬ (G 8 0 1) ≤ v3 → lp_X7_isShared_16 post P2 o1 v2 v3 (0 : Int32) G))
def lp_X7_isShared_2 (post : Bool → GH → Prop) (o1 : Nat) (v2 v3 : Int32) (G : GH) : Prop := ∀ P2 : Int32 → Int32 → GH → Prop, (∀ (v2 v3 : Int32) (G : GH), lb_X7_isShared_2 post o1 P2 v2 v3 G → P2 v2 v3 G) → P2 v2 v3 G
def wp_X7_isShared (post : Bool → GH → Prop) (o1 : Nat) (x2 : Int32) (G : GH) : Prop :=
  lp_X7_isShared_2 post o1 x2 (0 : Int32) G
set_option maxRecDepth 100000 in
set_option maxHeartbeats 4000000 in
theorem kl_X7_isShared_16 {E : Ev} {X : Cx} {post : Bool → GH → Prop} {P2 : Int32 → Int32 → GH → Prop} {o1 : Nat} {v2 v3 v4 : Int32} {G : GH} (F : Fx E X "MarkField" cX7_isShared 5) (T : RT E X 1 0 0 (some .boolean) (pB post)) (ho1 : stt o1 = true) (hc1 : oc o1 = 1) (K2 : ∀ (v2 v3 : Int32) (G : GH), P2 v2 v3 G → AW E X 5 2 [(0, .ref (sdX X 0 0)), (1, .ref (sdX X o1 0)), (2, .int v2), (3, .int v3)] [] G 0 0) (h : lp_X7_isShared_16 post P2 o1 v2 v3 v4 G) : AW E X 5 16 [(0, .ref (sdX X 0 0)), (1, .ref (sdX X o1 0)), (2, .int v2), (3, .int v3), (4, .int v4)] [] G 0 0 := by
  have hP := F.P
  have K16 : ∀ (v2 v3 v4 : Int32) (G : GH), AW E X 5 16 [(0, .ref (sdX X 0 0)), (1, .ref (sdX X o1 0)), (2, .int v2), (3, .int v3), (4, .int v4)] [] G 0 0 → AW E X 5 16 [(0, .ref (sdX X 0 0)), (1, .ref (sdX X o1 0)), (2, .int v2), (3, .int v3), (4, .int v4)] [] G 0 0 := fun _ _ _ _ q => q
  refine h (fun (v2 v3 v4 : Int32) (G : GH) => AW E X 5 16 [(0, .ref (sdX X 0 0)), (1, .ref (sdX X o1 0)), (2, .int v2), (3, .int v3), (4, .int v4)] [] G 0 0) (fun (v2 v3 v4 : Int32) (G : GH) h => ?_)
  refine aw_il F 4 dX7_isShared_16 rfl ?_
  refine aw_al_n F 0 dX7_isShared_18 rfl rfl ?_
  refine gr7_7 F (lo_s rfl) (hP _ rfl) rfl w_301 (hP 8 rfl) dX7_isShared_19 ?_
  refine gf4_1 F (lo_s rfl) (hP _ rfl) rfl w_86 dX7_isShared_22 ?_
  refine aw_icmp_ge (tgt := 71) F dX7_isShared_25 (by decide) (fun c_2 => ?_) (fun c_2 => ?_)
  · replace h := h.1 c_2
    refine aw_inc (lv1 := [(3, .int (v3 + (1 : Int32))), (0, .ref (sdX X 0 0)), (1, .ref (sdX X o1 0)), (2, .int v2), (4, .int v4)]) F 3 dX7_isShared_71 rfl (in_1 _) (by decide) rfl ?_
    refine aw_go (tgt := 2) F dX7_isShared_74 (by decide) ?_
    refine aw_sub [1, 2, 3, 0] rfl ?_
    exact K2 _ _ _ h
  · replace h := h.2 c_2
    refine aw_il F 4 dX7_isShared_28 rfl ?_
    refine aw_al_n F 1 dX7_isShared_30 rfl rfl ?_
    refine gr1_6 F (lo_s ho1) (hP _ ho1) hc1 w_184 (hP _ ho1) dX7_isShared_31 ?_
    refine aw_il_n F 3 dX7_isShared_34 rfl rfl ?_
    refine aw_iald F o1 7 (lo_s ho1) (hP _ ho1) (al_of hc1 rfl) h.1 dX7_isShared_35 ?_
    replace h := h.2
    refine aw_cSb (stk := []) F T.room [.int v4, .int (G o1 7 v3.toNatClampNeg)] (k_X7_isIn hP h) ms_X7_isIn w_603 rfl rfl (Nat.le_of_ble_eq_true rfl) ⟨(Nat.le_of_ble_eq_true rfl), (Nat.le_of_ble_eq_true rfl)⟩ ⟨(Nat.le_of_ble_eq_true rfl), (Nat.le_of_ble_eq_true rfl)⟩ dX7_isShared_36 (fun b_4 G_3 h => ?_)
    refine aw_if_eq (tgt := 65) F dX7_isShared_39 (by decide) (fun c_5 => ?_) (fun c_5 => ?_)
    · replace h := h.1 (bI_2 c_5)
      refine aw_inc (lv1 := [(4, .int (v4 + (1 : Int32))), (0, .ref (sdX X 0 0)), (1, .ref (sdX X o1 0)), (2, .int v2), (3, .int v3)]) F 4 dX7_isShared_65 rfl (in_1 _) (by decide) rfl ?_
      refine aw_go (tgt := 16) F dX7_isShared_68 (by decide) ?_
      refine aw_sub [1, 2, 3, 4, 0] rfl ?_
      exact K16 _ _ _ _ h
    · replace h := h.2 (bI_1 c_5)
      refine aw_al_n F 0 dX7_isShared_42 rfl rfl ?_
      refine aw_il_n F 3 dX7_isShared_43 rfl rfl ?_
      refine aw_il_n F 2 dX7_isShared_44 rfl rfl ?_
      refine aw_cVi (stk := []) F T.room [.int v3, .int v2] (k_X7_halvesHeld hP h) mv_X7_halvesHeld w_906 cf7 (lo_s rfl) (hP _ rfl) rfl (by decide) rfl rfl (Nat.le_of_ble_eq_true rfl) ⟨(Nat.le_of_ble_eq_true rfl), (Nat.le_of_ble_eq_true rfl)⟩ ⟨(Nat.le_of_ble_eq_true rfl), (Nat.le_of_ble_eq_true rfl)⟩ dX7_isShared_45 (fun r_7 G_6 h => ?_)
      refine aw_ic F dX7_isShared_48 ic_1 ?_
      refine aw_icmp_ne (tgt := 65) F dX7_isShared_49 (by decide) (fun c_8 => ?_) (fun c_8 => ?_)
      · replace h := h.2 c_8
        refine aw_inc (lv1 := [(4, .int (v4 + (1 : Int32))), (0, .ref (sdX X 0 0)), (1, .ref (sdX X o1 0)), (2, .int v2), (3, .int v3)]) F 4 dX7_isShared_65 rfl (in_1 _) (by decide) rfl ?_
        refine aw_go (tgt := 16) F dX7_isShared_68 (by decide) ?_
        refine aw_sub [1, 2, 3, 4, 0] rfl ?_
        exact K16 _ _ _ _ h
      · replace h := h.1 c_8
        refine aw_al_n F 0 dX7_isShared_52 rfl rfl ?_
        refine aw_il F 4 dX7_isShared_53 rfl ?_
        refine aw_il_n F 2 dX7_isShared_55 rfl rfl ?_
        refine aw_cVi (stk := []) F T.room [.int v4, .int v2] (k_X7_halvesHeld hP h) mv_X7_halvesHeld w_906 cf7 (lo_s rfl) (hP _ rfl) rfl (by decide) rfl rfl (Nat.le_of_ble_eq_true rfl) ⟨(Nat.le_of_ble_eq_true rfl), (Nat.le_of_ble_eq_true rfl)⟩ ⟨(Nat.le_of_ble_eq_true rfl), (Nat.le_of_ble_eq_true rfl)⟩ dX7_isShared_56 (fun r_10 G_9 h => ?_)
        refine aw_ic F dX7_isShared_59 ic_2 ?_
        refine aw_icmp_ne (tgt := 65) F dX7_isShared_60 (by decide) (fun c_11 => ?_) (fun c_11 => ?_)
        · replace h := h.2 c_11
          refine aw_inc (lv1 := [(4, .int (v4 + (1 : Int32))), (0, .ref (sdX X 0 0)), (1, .ref (sdX X o1 0)), (2, .int v2), (3, .int v3)]) F 4 dX7_isShared_65 rfl (in_1 _) (by decide) rfl ?_
          refine aw_go (tgt := 16) F dX7_isShared_68 (by decide) ?_
          refine aw_sub [1, 2, 3, 4, 0] rfl ?_
          exact K16 _ _ _ _ h
        · replace h := h.1 c_11
          refine aw_ic F dX7_isShared_63 ic_1 ?_
          exact aw_zret F T true rfl (Nat.le_of_ble_eq_true rfl) (Nat.le_of_ble_eq_true rfl) ⟨_, rfl, h⟩ dX7_isShared_64
set_option maxRecDepth 100000 in
set_option maxHeartbeats 4000000 in
theorem kl_X7_isShared_2 {E : Ev} {X : Cx} {post : Bool → GH → Prop} {o1 : Nat} {v2 v3 : Int32} {G : GH} (F : Fx E X "MarkField" cX7_isShared 5) (T : RT E X 1 0 0 (some .boolean) (pB post)) (ho1 : stt o1 = true) (hc1 : oc o1 = 1) (h : lp_X7_isShared_2 post o1 v2 v3 G) : AW E X 5 2 [(0, .ref (sdX X 0 0)), (1, .ref (sdX X o1 0)), (2, .int v2), (3, .int v3)] [] G 0 0 := by
  have hP := F.P
  have K2 : ∀ (v2 v3 : Int32) (G : GH), AW E X 5 2 [(0, .ref (sdX X 0 0)), (1, .ref (sdX X o1 0)), (2, .int v2), (3, .int v3)] [] G 0 0 → AW E X 5 2 [(0, .ref (sdX X 0 0)), (1, .ref (sdX X o1 0)), (2, .int v2), (3, .int v3)] [] G 0 0 := fun _ _ _ q => q
  refine h (fun (v2 v3 : Int32) (G : GH) => AW E X 5 2 [(0, .ref (sdX X 0 0)), (1, .ref (sdX X o1 0)), (2, .int v2), (3, .int v3)] [] G 0 0) (fun (v2 v3 : Int32) (G : GH) h => ?_)
  refine aw_il_n F 3 dX7_isShared_2 rfl rfl ?_
  refine aw_al_n F 0 dX7_isShared_3 rfl rfl ?_
  refine gr7_7 F (lo_s rfl) (hP _ rfl) rfl w_301 (hP 8 rfl) dX7_isShared_4 ?_
  refine gf4_1 F (lo_s rfl) (hP _ rfl) rfl w_86 dX7_isShared_7 ?_
  refine aw_icmp_ge (tgt := 77) F dX7_isShared_10 (by decide) (fun c_1 => ?_) (fun c_1 => ?_)
  · replace h := h.1 c_1
    refine aw_ic F dX7_isShared_77 ic_0 ?_
    exact aw_zret F T false rfl (Nat.le_of_ble_eq_true rfl) (Nat.le_of_ble_eq_true rfl) ⟨_, rfl, h⟩ dX7_isShared_78
  · replace h := h.2 c_1
    refine aw_ic F dX7_isShared_13 ic_0 ?_
    refine aw_is (lv1 := [(4, .int (0 : Int32)), (0, .ref (sdX X 0 0)), (1, .ref (sdX X o1 0)), (2, .int v2), (3, .int v3)]) F dX7_isShared_14 (by decide) rfl ?_
    refine aw_sub [1, 2, 3, 4, 0] rfl ?_
    exact kl_X7_isShared_16 F T ho1 hc1 K2 h
set_option maxRecDepth 100000 in
set_option maxHeartbeats 4000000 in
theorem k_X7_isShared {l : Launch} {E : Ev} {P : Nat → Prop} {sd : Nat → Nat → Nat} {G : GH} {post : Bool → GH → Prop} {o1 : Nat} {x2 : Int32} (hPP : ∀ o, stt o = true → P o) (ho1 : stt o1 = true) (hc1 : oc o1 = 1) (h : wp_X7_isShared post o1 x2 G) : Ct l yX7_isShared cX7_isShared 5 (some .boolean) 1 0 0 E P sd G [.ref (sd 0 0), .ref (sd o1 0), .int x2] (pB post) := by
  refine ct_of (own := "MarkField") (by decide) rfl (Nat.le_of_ble_eq_true rfl) hPP (fun X F T el eP es => ?_)
  subst el; subst eP; subst es
  have hP := F.P
  change AW E X 5 0 [(0, .ref (sdX X 0 0)), (1, .ref (sdX X o1 0)), (2, .int x2)] [] G 0 0
  refine aw_ic F dX7_isShared_0 ic_0 ?_
  refine aw_is_n (lv1 := [(3, .int (0 : Int32)), (0, .ref (sdX X 0 0)), (1, .ref (sdX X o1 0)), (2, .int x2)]) F dX7_isShared_1 rfl (by decide) rfl ?_
  refine aw_sub [1, 2, 3, 0] rfl ?_
  exact kl_X7_isShared_2 F T ho1 hc1 h
-- X7_imagine (height 5)
def lb_X7_imagine_66 (post : Int32 → GH → Prop) (o1 : Nat) (P66 : Int32 → Int32 → GH → Prop) (v5 v6 : Int32) (G : GH) : Prop :=
  ((v5 ≤ v6 → wp_X1_compareGoods (fun (G_11 : GH) => wp_X1_judge (fun (G_13 : GH) => post v5 G_13) 7 9 G_11) 7 9 v5 G) ∧ (¬ v5 ≤ v6 → wp_X1_compareNames (fun (G_15 : GH) => P66 v5 (v6 + (1 : Int32)) G_15) 7 9 v5 v6 G))
def lp_X7_imagine_66 (post : Int32 → GH → Prop) (o1 : Nat) (v5 v6 : Int32) (G : GH) : Prop := ∀ P66 : Int32 → Int32 → GH → Prop, (∀ (v5 v6 : Int32) (G : GH), lb_X7_imagine_66 post o1 P66 v5 v6 G → P66 v5 v6 G) → P66 v5 v6 G
def wp_X7_imagine (post : Int32 → GH → Prop) (o1 : Nat) (x2 x3 x4 : Int32) (G : GH) : Prop :=
  wp_X4_copy (fun (G_1 : GH) => wp_X1_copy (fun (G_3 : GH) => wp_X4_addMark (fun (r_6 : Int32) (G_5 : GH) => (vp_in r_6 13 ∧ (∀ G_7 : GH, G_7 = gs G_5 9 4 (upd (G_5 9 4) r_6.toNatClampNeg x3) → wp_X1_hear (fun (G_8 : GH) => lp_X7_imagine_66 post o1 r_6 (0 : Int32) G_8) 7 9 r_6 G_7))) 9 1 1 700 (0 : Int32) x2 x4 G_3) 7 o1 G_1) 9 8 G
set_option maxRecDepth 100000 in
set_option maxHeartbeats 4000000 in
theorem kl_X7_imagine_66 {E : Ev} {X : Cx} {post : Int32 → GH → Prop} {o1 : Nat} {v5 v6 : Int32} {G : GH} (F : Fx E X "MarkField" cX7_imagine 7) (T : RT E X 5 0 0 (some .int) (pI post)) (ho1 : stt o1 = true) (hc1 : oc o1 = 1) (h : lp_X7_imagine_66 post o1 v5 v6 G) : AW E X 7 66 [(0, .ref (sdX X 0 0)), (5, .int v5), (6, .int v6)] [] G 0 0 := by
  have hP := F.P
  have K66 : ∀ (v5 v6 : Int32) (G : GH), AW E X 7 66 [(0, .ref (sdX X 0 0)), (5, .int v5), (6, .int v6)] [] G 0 0 → AW E X 7 66 [(0, .ref (sdX X 0 0)), (5, .int v5), (6, .int v6)] [] G 0 0 := fun _ _ _ q => q
  refine h (fun (v5 v6 : Int32) (G : GH) => AW E X 7 66 [(0, .ref (sdX X 0 0)), (5, .int v5), (6, .int v6)] [] G 0 0) (fun (v5 v6 : Int32) (G : GH) h => ?_)
  refine aw_il F 2 dX7_imagine_66 rfl ?_
  refine aw_il F 1 dX7_imagine_68 rfl ?_
  refine aw_icmp_ge (tgt := 94) F dX7_imagine_70 (by decide) (fun c_10 => ?_) (fun c_10 => ?_)
  · replace h := h.1 c_10
    refine aw_al_n F 0 dX7_imagine_94 rfl rfl ?_
    refine gr7_6 F (lo_s rfl) (hP _ rfl) rfl w_300 (hP 7 rfl) dX7_imagine_95 ?_
    refine aw_al_n F 0 dX7_imagine_98 rfl rfl ?_
    refine gr7_8 F (lo_s rfl) (hP _ rfl) rfl w_302 (hP 9 rfl) dX7_imagine_99 ?_
    refine aw_il F 1 dX7_imagine_102 rfl ?_
    refine aw_cVv (stk := []) F T.room [.ref (sdX X 9 0), .int v5] (k_X1_compareGoods hP rfl rfl rfl rfl h) mv_X1_compareGoods w_959 cf1 (lo_s rfl) (hP _ rfl) rfl (by decide) rfl rfl (Nat.le_of_ble_eq_true rfl) ⟨(Nat.le_of_ble_eq_true rfl), (Nat.le_of_ble_eq_true rfl)⟩ ⟨(Nat.le_of_ble_eq_true rfl), (Nat.le_of_ble_eq_true rfl)⟩ dX7_imagine_104 (fun G_11 h => ?_)
    refine aw_al_n F 0 dX7_imagine_107 rfl rfl ?_
    refine gr7_6 F (lo_s rfl) (hP _ rfl) rfl w_300 (hP 7 rfl) dX7_imagine_108 ?_
    refine aw_al_n F 0 dX7_imagine_111 rfl rfl ?_
    refine gr7_8 F (lo_s rfl) (hP _ rfl) rfl w_302 (hP 9 rfl) dX7_imagine_112 ?_
    refine aw_cVv (stk := []) F T.room [.ref (sdX X 9 0)] (k_X1_judge hP rfl rfl rfl rfl h) mv_X1_judge w_702 cf1 (lo_s rfl) (hP _ rfl) rfl (by decide) rfl rfl (Nat.le_of_ble_eq_true rfl) ⟨(Nat.le_of_ble_eq_true rfl), (Nat.le_of_ble_eq_true rfl)⟩ ⟨(Nat.le_of_ble_eq_true rfl), (Nat.le_of_ble_eq_true rfl)⟩ dX7_imagine_115 (fun G_13 h => ?_)
    refine aw_il F 1 dX7_imagine_118 rfl ?_
    exact aw_iret F T (Nat.le_of_ble_eq_true rfl) (Nat.le_of_ble_eq_true rfl) ⟨_, rfl, h⟩ dX7_imagine_120
  · replace h := h.2 c_10
    refine aw_al_n F 0 dX7_imagine_73 rfl rfl ?_
    refine gr7_6 F (lo_s rfl) (hP _ rfl) rfl w_300 (hP 7 rfl) dX7_imagine_74 ?_
    refine aw_al_n F 0 dX7_imagine_77 rfl rfl ?_
    refine gr7_8 F (lo_s rfl) (hP _ rfl) rfl w_302 (hP 9 rfl) dX7_imagine_78 ?_
    refine aw_il F 1 dX7_imagine_81 rfl ?_
    refine aw_il F 2 dX7_imagine_83 rfl ?_
    refine aw_cVv (stk := []) F T.room [.ref (sdX X 9 0), .int v5, .int v6] (k_X1_compareNames hP rfl rfl rfl rfl h) mv_X1_compareNames w_958 cf1 (lo_s rfl) (hP _ rfl) rfl (by decide) rfl rfl (Nat.le_of_ble_eq_true rfl) ⟨(Nat.le_of_ble_eq_true rfl), (Nat.le_of_ble_eq_true rfl)⟩ ⟨(Nat.le_of_ble_eq_true rfl), (Nat.le_of_ble_eq_true rfl)⟩ dX7_imagine_85 (fun G_15 h => ?_)
    refine aw_inc (lv1 := [(6, .int (v6 + (1 : Int32))), (0, .ref (sdX X 0 0)), (5, .int v5)]) F 2 dX7_imagine_88 rfl (in_1 _) (by decide) rfl ?_
    refine aw_go (tgt := 66) F dX7_imagine_91 (by decide) ?_
    refine aw_sub [1, 2, 0] rfl ?_
    exact K66 _ _ _ h
set_option maxRecDepth 100000 in
set_option maxHeartbeats 4000000 in
theorem k_X7_imagine {l : Launch} {E : Ev} {P : Nat → Prop} {sd : Nat → Nat → Nat} {G : GH} {post : Int32 → GH → Prop} {o1 : Nat} {x2 x3 x4 : Int32} (hPP : ∀ o, stt o = true → P o) (ho1 : stt o1 = true) (hc1 : oc o1 = 1) (h : wp_X7_imagine post o1 x2 x3 x4 G) : Ct l yX7_imagine cX7_imagine 7 (some .int) 5 0 0 E P sd G [.ref (sd 0 0), .ref (sd o1 0), .int x2, .int x3, .int x4] (pI post) := by
  refine ct_of (own := "MarkField") (by decide) rfl (Nat.le_of_ble_eq_true rfl) hPP (fun X F T el eP es => ?_)
  subst el; subst eP; subst es
  have hP := F.P
  change AW E X 7 0 [(0, .ref (sdX X 0 0)), (1, .ref (sdX X o1 0)), (2, .int x2), (3, .int x3), (4, .int x4)] [] G 0 0
  refine aw_al_n F 0 dX7_imagine_0 rfl rfl ?_
  refine gr7_8 F (lo_s rfl) (hP _ rfl) rfl w_302 (hP 9 rfl) dX7_imagine_1 ?_
  refine aw_al_n F 0 dX7_imagine_4 rfl rfl ?_
  refine gr7_7 F (lo_s rfl) (hP _ rfl) rfl w_301 (hP 8 rfl) dX7_imagine_5 ?_
  refine aw_cVv (stk := []) F T.room [.ref (sdX X 8 0)] (k_X4_copy hP (hP _ rfl) (lo_s rfl) rfl (hP _ rfl) (lo_s rfl) rfl h) mv_X4_copy w_362 cf4 (lo_s rfl) (hP _ rfl) rfl (by decide) rfl rfl (Nat.le_of_ble_eq_true rfl) ⟨(Nat.le_of_ble_eq_true rfl), (Nat.le_of_ble_eq_true rfl)⟩ ⟨(Nat.le_of_ble_eq_true rfl), (Nat.le_of_ble_eq_true rfl)⟩ dX7_imagine_8 (fun G_1 h => ?_)
  refine aw_al_n F 0 dX7_imagine_11 rfl rfl ?_
  refine gr7_6 F (lo_s rfl) (hP _ rfl) rfl w_300 (hP 7 rfl) dX7_imagine_12 ?_
  refine aw_al_n F 1 dX7_imagine_15 rfl rfl ?_
  refine aw_cVv (stk := []) F T.room [.ref (sdX X o1 0)] (k_X1_copy hP rfl rfl ho1 hc1 h) mv_X1_copy w_951 cf1 (lo_s rfl) (hP _ rfl) rfl (by decide) rfl rfl (Nat.le_of_ble_eq_true rfl) ⟨(Nat.le_of_ble_eq_true rfl), (Nat.le_of_ble_eq_true rfl)⟩ ⟨(Nat.le_of_ble_eq_true rfl), (Nat.le_of_ble_eq_true rfl)⟩ dX7_imagine_16 (fun G_3 h => ?_)
  refine aw_al_n F 0 dX7_imagine_19 rfl rfl ?_
  refine gr7_8 F (lo_s rfl) (hP _ rfl) rfl w_302 (hP 9 rfl) dX7_imagine_20 ?_
  refine aw_al_n F 0 dX7_imagine_23 rfl rfl ?_
  refine gr7_0 F (lo_s rfl) (hP _ rfl) rfl w_294 (hP 1 rfl) dX7_imagine_24 ?_
  refine gr6_0 F (lo_s rfl) (hP _ rfl) rfl w_39 (hP _ rfl) dX7_imagine_27 ?_
  refine aw_ic F dX7_imagine_30 ic_0 ?_
  refine aw_il_n F 2 dX7_imagine_31 rfl rfl ?_
  refine aw_il F 4 dX7_imagine_32 rfl ?_
  refine aw_cVi (stk := []) F T.room [.ref (sdX X 1 1), .int (0 : Int32), .int x2, .int x4] (k_X4_addMark hP rfl rfl rfl rfl h) mv_X4_addMark w_956 cf4 (lo_s rfl) (hP _ rfl) rfl (by decide) rfl rfl (Nat.le_of_ble_eq_true rfl) ⟨(Nat.le_of_ble_eq_true rfl), (Nat.le_of_ble_eq_true rfl)⟩ ⟨(Nat.le_of_ble_eq_true rfl), (Nat.le_of_ble_eq_true rfl)⟩ dX7_imagine_34 (fun r_6 G_5 h => ?_)
  refine aw_is (lv1 := [(5, .int r_6), (0, .ref (sdX X 0 0)), (1, .ref (sdX X o1 0)), (2, .int x2), (3, .int x3), (4, .int x4)]) F dX7_imagine_37 (by decide) rfl ?_
  refine aw_al_n F 1 dX7_imagine_39 rfl rfl ?_
  refine gr7_8 F (lo_s rfl) (hP _ rfl) rfl w_302 (hP 9 rfl) dX7_imagine_40 ?_
  refine gr4_3 F (lo_s rfl) (hP _ rfl) rfl w_93 (hP _ rfl) dX7_imagine_43 ?_
  refine aw_il F 0 dX7_imagine_46 rfl ?_
  refine aw_il_n F 4 dX7_imagine_48 rfl rfl ?_
  refine aw_iast F 9 4 (lo_s rfl) (hP _ rfl) rfl h.1 dX7_imagine_49 ?_
  refine aw_nG (fun G_7 eG_7 => ?_)
  replace h := h.2 G_7 eG_7
  refine aw_al_n F 1 dX7_imagine_50 rfl rfl ?_
  refine gr7_6 F (lo_s rfl) (hP _ rfl) rfl w_300 (hP 7 rfl) dX7_imagine_51 ?_
  refine aw_al_n F 1 dX7_imagine_54 rfl rfl ?_
  refine gr7_8 F (lo_s rfl) (hP _ rfl) rfl w_302 (hP 9 rfl) dX7_imagine_55 ?_
  refine aw_il F 0 dX7_imagine_58 rfl ?_
  refine aw_cVv (stk := []) F T.room [.ref (sdX X 9 0), .int r_6] (k_X1_hear hP rfl rfl rfl rfl h) mv_X1_hear w_957 cf1 (lo_s rfl) (hP _ rfl) rfl (by decide) rfl rfl (Nat.le_of_ble_eq_true rfl) ⟨(Nat.le_of_ble_eq_true rfl), (Nat.le_of_ble_eq_true rfl)⟩ ⟨(Nat.le_of_ble_eq_true rfl), (Nat.le_of_ble_eq_true rfl)⟩ dX7_imagine_60 (fun G_8 h => ?_)
  refine aw_ic F dX7_imagine_63 ic_0 ?_
  refine aw_is (lv1 := [(6, .int (0 : Int32)), (5, .int r_6), (0, .ref (sdX X 0 0)), (1, .ref (sdX X o1 0)), (2, .int x2), (3, .int x3), (4, .int x4)]) F dX7_imagine_64 (by decide) rfl ?_
  refine aw_sub [2, 1, 0] rfl ?_
  exact kl_X7_imagine_66 F T ho1 hc1 h
-- X7_firstFreeDay (height 4)
def j_X7_firstFreeDay_146 (post : Int32 → GH → Prop) (P25 : Int32 → Int32 → Int32 → Int32 → Int32 → Int32 → GH → Prop) (v1 v3 v4 v5 v6 v7 : Int32) (G : GH) : Prop :=
  wp_X4_halfCount (fun (r_16 : Int32) (G_15 : GH) => ((v6 = r_16 → post v4 G_15) ∧ (¬ v6 = r_16 → P25 v1 v3 v4 v5 v6 (v7 + (1 : Int32)) G_15))) 9 G
def j_X7_firstFreeDay_124 (post : Int32 → GH → Prop) (P25 : Int32 → Int32 → Int32 → Int32 → Int32 → Int32 → GH → Prop) (v1 v3 v4 v6 v7 s0 : Int32) (G : GH) : Prop :=
  j_X7_firstFreeDay_146 post P25 v1 v3 v4 s0 v6 v7 G
def lb_X7_firstFreeDay_25 (post : Int32 → GH → Prop) (P25 : Int32 → Int32 → Int32 → Int32 → Int32 → Int32 → GH → Prop) (v1 v3 v4 v5 v6 v7 : Int32) (G : GH) : Prop :=
  (((1000000 : Int32) ≤ v7 → post (-1 : Int32) G) ∧ (¬ (1000000 : Int32) ≤ v7 → (((9999 : Int32) < v4 → post (-1 : Int32) G) ∧ (¬ (9999 : Int32) < v4 → (vp_in v1 13 ∧ (∀ G_5 : GH, G_5 = gs G 9 3 (upd (G 9 3) v1.toNatClampNeg v4) → wp_X5_rank (fun (G_6 : GH) => wp_X5_settle (fun (G_8 : GH) => wp_X7_isIn (fun (b_11 : Bool) (G_10 : GH) => ((b_11 = false → wp_X4_nextChange (fun (r_14 : Int32) (G_13 : GH) => j_X7_firstFreeDay_146 post P25 v1 v3 r_14 v5 (0 : Int32) v7 G_13) 9 v5 v4 v3 G_10) ∧ (b_11 = true → wp_X4_halfCount (fun (r_19 : Int32) (G_18 : GH) => ((r_19 ≤ (v5 + (1 : Int32)) → j_X7_firstFreeDay_124 post P25 v1 v3 v4 (v6 + (1 : Int32)) v7 (0 : Int32) G_18) ∧ (¬ r_19 ≤ (v5 + (1 : Int32)) → j_X7_firstFreeDay_124 post P25 v1 v3 v4 (v6 + (1 : Int32)) v7 (v5 + (1 : Int32)) G_18))) 9 G_10))) v1 (G_8 5 0 7) G_8) 9 7 v5 G_6) 9 v5 v4 v3 G_5))))))
def lp_X7_firstFreeDay_25 (post : Int32 → GH → Prop) (v1 v3 v4 v5 v6 v7 : Int32) (G : GH) : Prop := ∀ P25 : Int32 → Int32 → Int32 → Int32 → Int32 → Int32 → GH → Prop, (∀ (v1 v3 v4 v5 v6 v7 : Int32) (G : GH), lb_X7_firstFreeDay_25 post P25 v1 v3 v4 v5 v6 v7 G → P25 v1 v3 v4 v5 v6 v7 G) → P25 v1 v3 v4 v5 v6 v7 G
def wp_X7_firstFreeDay (post : Int32 → GH → Prop) (x1 x2 : Int32) (G : GH) : Prop :=
  wp_X1_groupOf (fun (r_2 : Int32) (G_1 : GH) => lp_X7_firstFreeDay_25 post x1 r_2 x2 (0 : Int32) (0 : Int32) (0 : Int32) G_1) 7 9 x1 G
set_option maxRecDepth 100000 in
set_option maxHeartbeats 4000000 in
theorem kj_X7_firstFreeDay_146 {E : Ev} {X : Cx} {post : Int32 → GH → Prop} {P25 : Int32 → Int32 → Int32 → Int32 → Int32 → Int32 → GH → Prop} {v1 v3 v4 v5 v6 v7 : Int32} {G : GH} (F : Fx E X "MarkField" cX7_firstFreeDay 8) (T : RT E X 4 0 0 (some .int) (pI post)) (K25 : ∀ (v1 v3 v4 v5 v6 v7 : Int32) (G : GH), P25 v1 v3 v4 v5 v6 v7 G → AW E X 8 25 [(0, .ref (sdX X 0 0)), (1, .int v1), (3, .int v3), (4, .int v4), (5, .int v5), (6, .int v6), (7, .int v7)] [] G 0 0) (h : j_X7_firstFreeDay_146 post P25 v1 v3 v4 v5 v6 v7 G) : AW E X 8 146 [(0, .ref (sdX X 0 0)), (1, .int v1), (3, .int v3), (4, .int v4), (5, .int v5), (6, .int v6), (7, .int v7)] [] G 0 0 := by
  have hP := F.P
  refine aw_il F 5 dX7_firstFreeDay_146 rfl ?_
  refine aw_al_n F 0 dX7_firstFreeDay_148 rfl rfl ?_
  refine gr7_8 F (lo_s rfl) (hP _ rfl) rfl w_302 (hP 9 rfl) dX7_firstFreeDay_149 ?_
  refine aw_cVi (stk := [.int v6]) F T.room [] (k_X4_halfCount hP rfl rfl h) mv_X4_halfCount w_625 cf4 (lo_s rfl) (hP _ rfl) rfl (by decide) rfl rfl (Nat.le_of_ble_eq_true rfl) ⟨(Nat.le_of_ble_eq_true rfl), (Nat.le_of_ble_eq_true rfl)⟩ ⟨(Nat.le_of_ble_eq_true rfl), (Nat.le_of_ble_eq_true rfl)⟩ dX7_firstFreeDay_152 (fun r_16 G_15 h => ?_)
  refine aw_icmp_ne (tgt := 161) F dX7_firstFreeDay_155 (by decide) (fun c_17 => ?_) (fun c_17 => ?_)
  · replace h := h.2 c_17
    refine aw_inc (lv1 := [(7, .int (v7 + (1 : Int32))), (0, .ref (sdX X 0 0)), (1, .int v1), (3, .int v3), (4, .int v4), (5, .int v5), (6, .int v6)]) F 6 dX7_firstFreeDay_161 rfl (in_1 _) (by decide) rfl ?_
    refine aw_go (tgt := 25) F dX7_firstFreeDay_164 (by decide) ?_
    refine aw_sub [1, 2, 3, 4, 5, 6, 0] rfl ?_
    exact K25 _ _ _ _ _ _ _ h
  · replace h := h.1 c_17
    refine aw_il F 3 dX7_firstFreeDay_158 rfl ?_
    exact aw_iret F T (Nat.le_of_ble_eq_true rfl) (Nat.le_of_ble_eq_true rfl) ⟨_, rfl, h⟩ dX7_firstFreeDay_160
set_option maxRecDepth 100000 in
set_option maxHeartbeats 4000000 in
theorem kj_X7_firstFreeDay_124 {E : Ev} {X : Cx} {post : Int32 → GH → Prop} {P25 : Int32 → Int32 → Int32 → Int32 → Int32 → Int32 → GH → Prop} {v1 v3 v4 v6 v7 s0 : Int32} {G : GH} (F : Fx E X "MarkField" cX7_firstFreeDay 8) (T : RT E X 4 0 0 (some .int) (pI post)) (K25 : ∀ (v1 v3 v4 v5 v6 v7 : Int32) (G : GH), P25 v1 v3 v4 v5 v6 v7 G → AW E X 8 25 [(0, .ref (sdX X 0 0)), (1, .int v1), (3, .int v3), (4, .int v4), (5, .int v5), (6, .int v6), (7, .int v7)] [] G 0 0) (h : j_X7_firstFreeDay_124 post P25 v1 v3 v4 v6 v7 s0 G) : AW E X 8 124 [(0, .ref (sdX X 0 0)), (1, .int v1), (3, .int v3), (4, .int v4), (6, .int v6), (7, .int v7)] [.int s0] G 0 0 := by
  have hP := F.P
  refine aw_is (lv1 := [(5, .int s0), (0, .ref (sdX X 0 0)), (1, .int v1), (3, .int v3), (4, .int v4), (6, .int v6), (7, .int v7)]) F dX7_firstFreeDay_124 (by decide) rfl ?_
  refine aw_go (tgt := 146) F dX7_firstFreeDay_126 (by decide) ?_
  refine aw_sub [1, 2, 3, 4, 0, 5, 6] rfl ?_
  exact kj_X7_firstFreeDay_146 F T K25 h
set_option maxRecDepth 100000 in
set_option maxHeartbeats 4000000 in
theorem kl_X7_firstFreeDay_25 {E : Ev} {X : Cx} {post : Int32 → GH → Prop} {v1 v3 v4 v5 v6 v7 : Int32} {G : GH} (F : Fx E X "MarkField" cX7_firstFreeDay 8) (T : RT E X 4 0 0 (some .int) (pI post)) (h : lp_X7_firstFreeDay_25 post v1 v3 v4 v5 v6 v7 G) : AW E X 8 25 [(0, .ref (sdX X 0 0)), (1, .int v1), (3, .int v3), (4, .int v4), (5, .int v5), (6, .int v6), (7, .int v7)] [] G 0 0 := by
  have hP := F.P
  have K25 : ∀ (v1 v3 v4 v5 v6 v7 : Int32) (G : GH), AW E X 8 25 [(0, .ref (sdX X 0 0)), (1, .int v1), (3, .int v3), (4, .int v4), (5, .int v5), (6, .int v6), (7, .int v7)] [] G 0 0 → AW E X 8 25 [(0, .ref (sdX X 0 0)), (1, .int v1), (3, .int v3), (4, .int v4), (5, .int v5), (6, .int v6), (7, .int v7)] [] G 0 0 := fun _ _ _ _ _ _ _ q => q
  refine h (fun (v1 v3 v4 v5 v6 v7 : Int32) (G : GH) => AW E X 8 25 [(0, .ref (sdX X 0 0)), (1, .int v1), (3, .int v3), (4, .int v4), (5, .int v5), (6, .int v6), (7, .int v7)] [] G 0 0) (fun (v1 v3 v4 v5 v6 v7 : Int32) (G : GH) h => ?_)
  refine aw_il F 6 dX7_firstFreeDay_25 rfl ?_
  refine aw_ldcw F dX7_firstFreeDay_27 w_964 ?_
  refine aw_icmp_ge (tgt := 167) F dX7_firstFreeDay_30 (by decide) (fun c_3 => ?_) (fun c_3 => ?_)
  · replace h := h.1 c_3
    refine aw_ic F dX7_firstFreeDay_167 ic_m1 ?_
    exact aw_iret F T (Nat.le_of_ble_eq_true rfl) (Nat.le_of_ble_eq_true rfl) ⟨_, rfl, h⟩ dX7_firstFreeDay_168
  · replace h := h.2 c_3
    refine aw_il F 3 dX7_firstFreeDay_33 rfl ?_
    refine aw_si F dX7_firstFreeDay_35 si_9999 ?_
    refine aw_icmp_gt (tgt := 167) F dX7_firstFreeDay_38 (by decide) (fun c_4 => ?_) (fun c_4 => ?_)
    · replace h := h.1 c_4
      refine aw_ic F dX7_firstFreeDay_167 ic_m1 ?_
      exact aw_iret F T (Nat.le_of_ble_eq_true rfl) (Nat.le_of_ble_eq_true rfl) ⟨_, rfl, h⟩ dX7_firstFreeDay_168
    · replace h := h.2 c_4
      refine aw_al_n F 0 dX7_firstFreeDay_41 rfl rfl ?_
      refine gr7_8 F (lo_s rfl) (hP _ rfl) rfl w_302 (hP 9 rfl) dX7_firstFreeDay_42 ?_
      refine gr4_2 F (lo_s rfl) (hP _ rfl) rfl w_90 (hP _ rfl) dX7_firstFreeDay_45 ?_
      refine aw_il_n F 1 dX7_firstFreeDay_48 rfl rfl ?_
      refine aw_il F 3 dX7_firstFreeDay_49 rfl ?_
      refine aw_iast F 9 3 (lo_s rfl) (hP _ rfl) rfl h.1 dX7_firstFreeDay_51 ?_
      refine aw_nG (fun G_5 eG_5 => ?_)
      replace h := h.2 G_5 eG_5
      refine aw_al_n F 0 dX7_firstFreeDay_52 rfl rfl ?_
      refine gr7_4 F (lo_s rfl) (hP _ rfl) rfl w_298 (hP 5 rfl) dX7_firstFreeDay_53 ?_
      refine aw_al_n F 0 dX7_firstFreeDay_56 rfl rfl ?_
      refine gr7_8 F (lo_s rfl) (hP _ rfl) rfl w_302 (hP 9 rfl) dX7_firstFreeDay_57 ?_
      refine aw_il F 4 dX7_firstFreeDay_60 rfl ?_
      refine aw_il F 3 dX7_firstFreeDay_62 rfl ?_
      refine aw_il_n F 2 dX7_firstFreeDay_64 rfl rfl ?_
      refine aw_cVv (stk := []) F T.room [.ref (sdX X 9 0), .int v5, .int v4, .int v3] (k_X5_rank hP rfl rfl h) mv_X5_rank w_843 cf5 (lo_s rfl) (hP _ rfl) rfl (by decide) rfl rfl (Nat.le_of_ble_eq_true rfl) ⟨(Nat.le_of_ble_eq_true rfl), (Nat.le_of_ble_eq_true rfl)⟩ ⟨(Nat.le_of_ble_eq_true rfl), (Nat.le_of_ble_eq_true rfl)⟩ dX7_firstFreeDay_65 (fun G_6 h => ?_)
      refine aw_al_n F 0 dX7_firstFreeDay_68 rfl rfl ?_
      refine gr7_4 F (lo_s rfl) (hP _ rfl) rfl w_298 (hP 5 rfl) dX7_firstFreeDay_69 ?_
      refine aw_al_n F 0 dX7_firstFreeDay_72 rfl rfl ?_
      refine gr7_8 F (lo_s rfl) (hP _ rfl) rfl w_302 (hP 9 rfl) dX7_firstFreeDay_73 ?_
      refine aw_al_n F 0 dX7_firstFreeDay_76 rfl rfl ?_
      refine gr7_6 F (lo_s rfl) (hP _ rfl) rfl w_300 (hP 7 rfl) dX7_firstFreeDay_77 ?_
      refine aw_il F 4 dX7_firstFreeDay_80 rfl ?_
      refine aw_cVv (stk := []) F T.room [.ref (sdX X 9 0), .ref (sdX X 7 0), .int v5] (k_X5_settle hP rfl rfl rfl rfl h) mv_X5_settle w_849 cf5 (lo_s rfl) (hP _ rfl) rfl (by decide) rfl rfl (Nat.le_of_ble_eq_true rfl) ⟨(Nat.le_of_ble_eq_true rfl), (Nat.le_of_ble_eq_true rfl)⟩ ⟨(Nat.le_of_ble_eq_true rfl), (Nat.le_of_ble_eq_true rfl)⟩ dX7_firstFreeDay_82 (fun G_8 h => ?_)
      refine aw_il_n F 1 dX7_firstFreeDay_85 rfl rfl ?_
      refine aw_al_n F 0 dX7_firstFreeDay_86 rfl rfl ?_
      refine gr7_4 F (lo_s rfl) (hP _ rfl) rfl w_298 (hP 5 rfl) dX7_firstFreeDay_87 ?_
      refine gf5_7 F (lo_s rfl) (hP _ rfl) rfl w_223 dX7_firstFreeDay_90 ?_
      refine aw_cSb (stk := []) F T.room [.int v1, .int (G_8 5 0 7)] (k_X7_isIn hP h) ms_X7_isIn w_603 rfl rfl (Nat.le_of_ble_eq_true rfl) ⟨(Nat.le_of_ble_eq_true rfl), (Nat.le_of_ble_eq_true rfl)⟩ ⟨(Nat.le_of_ble_eq_true rfl), (Nat.le_of_ble_eq_true rfl)⟩ dX7_firstFreeDay_93 (fun b_11 G_10 h => ?_)
      refine aw_if_eq (tgt := 129) F dX7_firstFreeDay_96 (by decide) (fun c_12 => ?_) (fun c_12 => ?_)
      · replace h := h.1 (bI_2 c_12)
        refine aw_ic F dX7_firstFreeDay_129 ic_0 ?_
        refine aw_is (lv1 := [(6, .int (0 : Int32)), (0, .ref (sdX X 0 0)), (1, .int v1), (3, .int v3), (4, .int v4), (5, .int v5), (7, .int v7)]) F dX7_firstFreeDay_130 (by decide) rfl ?_
        refine aw_al_n F 1 dX7_firstFreeDay_132 rfl rfl ?_
        refine gr7_8 F (lo_s rfl) (hP _ rfl) rfl w_302 (hP 9 rfl) dX7_firstFreeDay_133 ?_
        refine aw_il F 5 dX7_firstFreeDay_136 rfl ?_
        refine aw_il F 4 dX7_firstFreeDay_138 rfl ?_
        refine aw_il_n F 3 dX7_firstFreeDay_140 rfl rfl ?_
        refine aw_cVi (stk := []) F T.room [.int v5, .int v4, .int v3] (k_X4_nextChange hP rfl rfl h) mv_X4_nextChange w_924 cf4 (lo_s rfl) (hP _ rfl) rfl (by decide) rfl rfl (Nat.le_of_ble_eq_true rfl) ⟨(Nat.le_of_ble_eq_true rfl), (Nat.le_of_ble_eq_true rfl)⟩ ⟨(Nat.le_of_ble_eq_true rfl), (Nat.le_of_ble_eq_true rfl)⟩ dX7_firstFreeDay_141 (fun r_14 G_13 h => ?_)
        refine aw_is (lv1 := [(4, .int r_14), (6, .int (0 : Int32)), (0, .ref (sdX X 0 0)), (1, .int v1), (3, .int v3), (5, .int v5), (7, .int v7)]) F dX7_firstFreeDay_144 (by decide) rfl ?_
        refine aw_sub [2, 3, 4, 0, 5, 1, 6] rfl ?_
        exact kj_X7_firstFreeDay_146 F T K25 h
      · replace h := h.2 (bI_1 c_12)
        refine aw_inc (lv1 := [(6, .int (v6 + (1 : Int32))), (0, .ref (sdX X 0 0)), (1, .int v1), (3, .int v3), (4, .int v4), (5, .int v5), (7, .int v7)]) F 5 dX7_firstFreeDay_99 rfl (in_1 _) (by decide) rfl ?_
        refine aw_il F 5 dX7_firstFreeDay_102 rfl ?_
        refine aw_ic F dX7_firstFreeDay_104 ic_1 ?_
        refine aw_iadd F dX7_firstFreeDay_105 ?_
        refine aw_al_n F 1 dX7_firstFreeDay_106 rfl rfl ?_
        refine gr7_8 F (lo_s rfl) (hP _ rfl) rfl w_302 (hP 9 rfl) dX7_firstFreeDay_107 ?_
        refine aw_cVi (stk := [.int (v5 + (1 : Int32))]) F T.room [] (k_X4_halfCount hP rfl rfl h) mv_X4_halfCount w_625 cf4 (lo_s rfl) (hP _ rfl) rfl (by decide) rfl rfl (Nat.le_of_ble_eq_true rfl) ⟨(Nat.le_of_ble_eq_true rfl), (Nat.le_of_ble_eq_true rfl)⟩ ⟨(Nat.le_of_ble_eq_true rfl), (Nat.le_of_ble_eq_true rfl)⟩ dX7_firstFreeDay_110 (fun r_19 G_18 h => ?_)
        refine aw_icmp_ge (tgt := 123) F dX7_firstFreeDay_113 (by decide) (fun c_20 => ?_) (fun c_20 => ?_)
        · replace h := h.1 c_20
          refine aw_ic F dX7_firstFreeDay_123 ic_0 ?_
          refine aw_sub [1, 2, 3, 4, 0, 6] rfl ?_
          exact kj_X7_firstFreeDay_124 F T K25 h
        · replace h := h.2 c_20
          refine aw_il F 5 dX7_firstFreeDay_116 rfl ?_
          refine aw_ic F dX7_firstFreeDay_118 ic_1 ?_
          refine aw_iadd F dX7_firstFreeDay_119 ?_
          refine aw_go (tgt := 124) F dX7_firstFreeDay_120 (by decide) ?_
          refine aw_sub [1, 2, 3, 4, 0, 6] rfl ?_
          exact kj_X7_firstFreeDay_124 F T K25 h
set_option maxRecDepth 100000 in
set_option maxHeartbeats 4000000 in
theorem k_X7_firstFreeDay {l : Launch} {E : Ev} {P : Nat → Prop} {sd : Nat → Nat → Nat} {G : GH} {post : Int32 → GH → Prop} {x1 x2 : Int32} (hPP : ∀ o, stt o = true → P o) (h : wp_X7_firstFreeDay post x1 x2 G) : Ct l yX7_firstFreeDay cX7_firstFreeDay 8 (some .int) 4 0 0 E P sd G [.ref (sd 0 0), .int x1, .int x2] (pI post) := by
  refine ct_of (own := "MarkField") (by decide) rfl (Nat.le_of_ble_eq_true rfl) hPP (fun X F T el eP es => ?_)
  subst el; subst eP; subst es
  have hP := F.P
  change AW E X 8 0 [(0, .ref (sdX X 0 0)), (1, .int x1), (2, .int x2)] [] G 0 0
  refine aw_al_n F 0 dX7_firstFreeDay_0 rfl rfl ?_
  refine gr7_6 F (lo_s rfl) (hP _ rfl) rfl w_300 (hP 7 rfl) dX7_firstFreeDay_1 ?_
  refine aw_al_n F 0 dX7_firstFreeDay_4 rfl rfl ?_
  refine gr7_8 F (lo_s rfl) (hP _ rfl) rfl w_302 (hP 9 rfl) dX7_firstFreeDay_5 ?_
  refine aw_il_n F 1 dX7_firstFreeDay_8 rfl rfl ?_
  refine aw_cVi (stk := []) F T.room [.ref (sdX X 9 0), .int x1] (k_X1_groupOf hP rfl rfl rfl rfl h) mv_X1_groupOf w_839 cf1 (lo_s rfl) (hP _ rfl) rfl (by decide) rfl rfl (Nat.le_of_ble_eq_true rfl) ⟨(Nat.le_of_ble_eq_true rfl), (Nat.le_of_ble_eq_true rfl)⟩ ⟨(Nat.le_of_ble_eq_true rfl), (Nat.le_of_ble_eq_true rfl)⟩ dX7_firstFreeDay_9 (fun r_2 G_1 h => ?_)
  refine aw_is_n (lv1 := [(3, .int r_2), (0, .ref (sdX X 0 0)), (1, .int x1), (2, .int x2)]) F dX7_firstFreeDay_12 rfl (by decide) rfl ?_
  refine aw_il_n F 3 dX7_firstFreeDay_13 rfl rfl ?_
  refine aw_is (lv1 := [(4, .int x2), (3, .int r_2), (0, .ref (sdX X 0 0)), (1, .int x1), (2, .int x2)]) F dX7_firstFreeDay_14 (by decide) rfl ?_
  refine aw_ic F dX7_firstFreeDay_16 ic_0 ?_
  refine aw_is (lv1 := [(5, .int (0 : Int32)), (4, .int x2), (3, .int r_2), (0, .ref (sdX X 0 0)), (1, .int x1), (2, .int x2)]) F dX7_firstFreeDay_17 (by decide) rfl ?_
  refine aw_ic F dX7_firstFreeDay_19 ic_0 ?_
  refine aw_is (lv1 := [(6, .int (0 : Int32)), (5, .int (0 : Int32)), (4, .int x2), (3, .int r_2), (0, .ref (sdX X 0 0)), (1, .int x1), (2, .int x2)]) F dX7_firstFreeDay_20 (by decide) rfl ?_
  refine aw_ic F dX7_firstFreeDay_22 ic_0 ?_
  refine aw_is (lv1 := [(7, .int (0 : Int32)), (6, .int (0 : Int32)), (5, .int (0 : Int32)), (4, .int x2), (3, .int r_2), (0, .ref (sdX X 0 0)), (1, .int x1), (2, .int x2)]) F dX7_firstFreeDay_23 (by decide) rfl ?_
  refine aw_sub [5, 6, 4, 3, 2, 1, 0] rfl ?_
  exact kl_X7_firstFreeDay_25 F T h
-- X7_wouldHold (height 3)
def lb_X7_wouldHold_2 (post : Bool → GH → Prop) (P2 : Int32 → Int32 → Int32 → GH → Prop) (v1 v2 v3 : Int32) (G : GH) : Prop :=
  wp_X4_halfCount (fun (r_2 : Int32) (G_1 : GH) => ((r_2 ≤ v3 → post true G_1) ∧ (¬ r_2 ≤ v3 → wp_X7_isIn (fun (b_5 : Bool) (G_4 : GH) => ((b_5 = false → P2 v1 v2 (v3 + (1 : Int32)) G_4) ∧ (b_5 = true → wp_X5_settle (fun (G_7 : GH) => wp_X7_isIn (fun (b_10 : Bool) (G_9 : GH) => ((b_10 = false → post false G_9) ∧ (b_10 = true → P2 v1 v2 (v3 + (1 : Int32)) G_9))) v1 (G_7 5 0 7) G_7) 9 7 v3 G_4))) v3 v2 G_1))) 9 G
def lp_X7_wouldHold_2 (post : Bool → GH → Prop) (v1 v2 v3 : Int32) (G : GH) : Prop := ∀ P2 : Int32 → Int32 → Int32 → GH → Prop, (∀ (v1 v2 v3 : Int32) (G : GH), lb_X7_wouldHold_2 post P2 v1 v2 v3 G → P2 v1 v2 v3 G) → P2 v1 v2 v3 G
def wp_X7_wouldHold (post : Bool → GH → Prop) (x1 x2 : Int32) (G : GH) : Prop :=
  lp_X7_wouldHold_2 post x1 x2 (0 : Int32) G
set_option maxRecDepth 100000 in
set_option maxHeartbeats 4000000 in
theorem kl_X7_wouldHold_2 {E : Ev} {X : Cx} {post : Bool → GH → Prop} {v1 v2 v3 : Int32} {G : GH} (F : Fx E X "MarkField" cX7_wouldHold 4) (T : RT E X 3 0 0 (some .boolean) (pB post)) (h : lp_X7_wouldHold_2 post v1 v2 v3 G) : AW E X 4 2 [(0, .ref (sdX X 0 0)), (1, .int v1), (2, .int v2), (3, .int v3)] [] G 0 0 := by
  have hP := F.P
  have K2 : ∀ (v1 v2 v3 : Int32) (G : GH), AW E X 4 2 [(0, .ref (sdX X 0 0)), (1, .int v1), (2, .int v2), (3, .int v3)] [] G 0 0 → AW E X 4 2 [(0, .ref (sdX X 0 0)), (1, .int v1), (2, .int v2), (3, .int v3)] [] G 0 0 := fun _ _ _ _ q => q
  refine h (fun (v1 v2 v3 : Int32) (G : GH) => AW E X 4 2 [(0, .ref (sdX X 0 0)), (1, .int v1), (2, .int v2), (3, .int v3)] [] G 0 0) (fun (v1 v2 v3 : Int32) (G : GH) h => ?_)
  refine aw_il_n F 3 dX7_wouldHold_2 rfl rfl ?_
  refine aw_al_n F 0 dX7_wouldHold_3 rfl rfl ?_
  refine gr7_8 F (lo_s rfl) (hP _ rfl) rfl w_302 (hP 9 rfl) dX7_wouldHold_4 ?_
  refine aw_cVi (stk := [.int v3]) F T.room [] (k_X4_halfCount hP rfl rfl h) mv_X4_halfCount w_625 cf4 (lo_s rfl) (hP _ rfl) rfl (by decide) rfl rfl (Nat.le_of_ble_eq_true rfl) ⟨(Nat.le_of_ble_eq_true rfl), (Nat.le_of_ble_eq_true rfl)⟩ ⟨(Nat.le_of_ble_eq_true rfl), (Nat.le_of_ble_eq_true rfl)⟩ dX7_wouldHold_7 (fun r_2 G_1 h => ?_)
  refine aw_icmp_ge (tgt := 59) F dX7_wouldHold_10 (by decide) (fun c_3 => ?_) (fun c_3 => ?_)
  · replace h := h.1 c_3
    refine aw_ic F dX7_wouldHold_59 ic_1 ?_
    exact aw_zret F T true rfl (Nat.le_of_ble_eq_true rfl) (Nat.le_of_ble_eq_true rfl) ⟨_, rfl, h⟩ dX7_wouldHold_60
  · replace h := h.2 c_3
    refine aw_il_n F 3 dX7_wouldHold_13 rfl rfl ?_
    refine aw_il_n F 2 dX7_wouldHold_14 rfl rfl ?_
    refine aw_cSb (stk := []) F T.room [.int v3, .int v2] (k_X7_isIn hP h) ms_X7_isIn w_603 rfl rfl (Nat.le_of_ble_eq_true rfl) ⟨(Nat.le_of_ble_eq_true rfl), (Nat.le_of_ble_eq_true rfl)⟩ ⟨(Nat.le_of_ble_eq_true rfl), (Nat.le_of_ble_eq_true rfl)⟩ dX7_wouldHold_15 (fun b_5 G_4 h => ?_)
    refine aw_if_eq (tgt := 53) F dX7_wouldHold_18 (by decide) (fun c_6 => ?_) (fun c_6 => ?_)
    · replace h := h.1 (bI_2 c_6)
      refine aw_inc (lv1 := [(3, .int (v3 + (1 : Int32))), (0, .ref (sdX X 0 0)), (1, .int v1), (2, .int v2)]) F 3 dX7_wouldHold_53 rfl (in_1 _) (by decide) rfl ?_
      refine aw_go (tgt := 2) F dX7_wouldHold_56 (by decide) ?_
      refine aw_sub [1, 2, 3, 0] rfl ?_
      exact K2 _ _ _ _ h
    · replace h := h.2 (bI_1 c_6)
      refine aw_al_n F 0 dX7_wouldHold_21 rfl rfl ?_
      refine gr7_4 F (lo_s rfl) (hP _ rfl) rfl w_298 (hP 5 rfl) dX7_wouldHold_22 ?_
      refine aw_al_n F 0 dX7_wouldHold_25 rfl rfl ?_
      refine gr7_8 F (lo_s rfl) (hP _ rfl) rfl w_302 (hP 9 rfl) dX7_wouldHold_26 ?_
      refine aw_al_n F 0 dX7_wouldHold_29 rfl rfl ?_
      refine gr7_6 F (lo_s rfl) (hP _ rfl) rfl w_300 (hP 7 rfl) dX7_wouldHold_30 ?_
      refine aw_il_n F 3 dX7_wouldHold_33 rfl rfl ?_
      refine aw_cVv (stk := []) F T.room [.ref (sdX X 9 0), .ref (sdX X 7 0), .int v3] (k_X5_settle hP rfl rfl rfl rfl h) mv_X5_settle w_849 cf5 (lo_s rfl) (hP _ rfl) rfl (by decide) rfl rfl (Nat.le_of_ble_eq_true rfl) ⟨(Nat.le_of_ble_eq_true rfl), (Nat.le_of_ble_eq_true rfl)⟩ ⟨(Nat.le_of_ble_eq_true rfl), (Nat.le_of_ble_eq_true rfl)⟩ dX7_wouldHold_34 (fun G_7 h => ?_)
      refine aw_il_n F 1 dX7_wouldHold_37 rfl rfl ?_
      refine aw_al_n F 0 dX7_wouldHold_38 rfl rfl ?_
      refine gr7_4 F (lo_s rfl) (hP _ rfl) rfl w_298 (hP 5 rfl) dX7_wouldHold_39 ?_
      refine gf5_7 F (lo_s rfl) (hP _ rfl) rfl w_223 dX7_wouldHold_42 ?_
      refine aw_cSb (stk := []) F T.room [.int v1, .int (G_7 5 0 7)] (k_X7_isIn hP h) ms_X7_isIn w_603 rfl rfl (Nat.le_of_ble_eq_true rfl) ⟨(Nat.le_of_ble_eq_true rfl), (Nat.le_of_ble_eq_true rfl)⟩ ⟨(Nat.le_of_ble_eq_true rfl), (Nat.le_of_ble_eq_true rfl)⟩ dX7_wouldHold_45 (fun b_10 G_9 h => ?_)
      refine aw_if_ne (tgt := 53) F dX7_wouldHold_48 (by decide) (fun c_11 => ?_) (fun c_11 => ?_)
      · replace h := h.2 (bI_1 c_11)
        refine aw_inc (lv1 := [(3, .int (v3 + (1 : Int32))), (0, .ref (sdX X 0 0)), (1, .int v1), (2, .int v2)]) F 3 dX7_wouldHold_53 rfl (in_1 _) (by decide) rfl ?_
        refine aw_go (tgt := 2) F dX7_wouldHold_56 (by decide) ?_
        refine aw_sub [1, 2, 3, 0] rfl ?_
        exact K2 _ _ _ _ h
      · replace h := h.1 (bI_2 c_11)
        refine aw_ic F dX7_wouldHold_51 ic_0 ?_
        exact aw_zret F T false rfl (Nat.le_of_ble_eq_true rfl) (Nat.le_of_ble_eq_true rfl) ⟨_, rfl, h⟩ dX7_wouldHold_52
set_option maxRecDepth 100000 in
set_option maxHeartbeats 4000000 in
theorem k_X7_wouldHold {l : Launch} {E : Ev} {P : Nat → Prop} {sd : Nat → Nat → Nat} {G : GH} {post : Bool → GH → Prop} {x1 x2 : Int32} (hPP : ∀ o, stt o = true → P o) (h : wp_X7_wouldHold post x1 x2 G) : Ct l yX7_wouldHold cX7_wouldHold 4 (some .boolean) 3 0 0 E P sd G [.ref (sd 0 0), .int x1, .int x2] (pB post) := by
  refine ct_of (own := "MarkField") (by decide) rfl (Nat.le_of_ble_eq_true rfl) hPP (fun X F T el eP es => ?_)
  subst el; subst eP; subst es
  have hP := F.P
  change AW E X 4 0 [(0, .ref (sdX X 0 0)), (1, .int x1), (2, .int x2)] [] G 0 0
  refine aw_ic F dX7_wouldHold_0 ic_0 ?_
  refine aw_is_n (lv1 := [(3, .int (0 : Int32)), (0, .ref (sdX X 0 0)), (1, .int x1), (2, .int x2)]) F dX7_wouldHold_1 rfl (by decide) rfl ?_
  refine aw_sub [1, 2, 3, 0] rfl ?_
  exact kl_X7_wouldHold_2 F T h
-- X7_letterAt (height 6)
def j_X7_letterAt_90 (post : Int32 → GH → Prop) (v4 v5 v6 : Int32) (G : GH) : Prop :=
  (vp_in v4 130 ∧ (∀ G_4 : GH, G_4 = gs G 9 6 (upd (G 9 6) v4.toNatClampNeg v5) → post v6 G_4))
def lb_X7_letterAt_26 (post : Int32 → GH → Prop) (P26 : Int32 → Int32 → Int32 → Int32 → Int32 → Int32 → GH → Prop) (v1 v3 v4 v5 v6 v7 : Int32) (G : GH) : Prop :=
  (((26 : Int32) ≤ v7 → j_X7_letterAt_90 post v4 v5 v6 G) ∧ (¬ (26 : Int32) ≤ v7 → ((v6 = (-1 : Int32) → ((v7 = v5 → P26 v1 v3 v4 v5 v6 (v7 + (1 : Int32)) G) ∧ (¬ v7 = v5 → (vp_in v4 130 ∧ (∀ G_7 : GH, G_7 = gs G 9 6 (upd (G 9 6) v4.toNatClampNeg (nb v7)) → wp_X1_rename (fun (G_8 : GH) => wp_X7_wouldHold (fun (b_11 : Bool) (G_10 : GH) => ((b_11 = false → P26 v1 v3 v4 v5 v6 (v7 + (1 : Int32)) G_10) ∧ (b_11 = true → P26 v1 v3 v4 v5 v7 (v7 + (1 : Int32)) G_10))) v1 v3 G_8) 7 9 v1 G_7))))) ∧ (¬ v6 = (-1 : Int32) → j_X7_letterAt_90 post v4 v5 v6 G))))
def lp_X7_letterAt_26 (post : Int32 → GH → Prop) (v1 v3 v4 v5 v6 v7 : Int32) (G : GH) : Prop := ∀ P26 : Int32 → Int32 → Int32 → Int32 → Int32 → Int32 → GH → Prop, (∀ (v1 v3 v4 v5 v6 v7 : Int32) (G : GH), lb_X7_letterAt_26 post P26 v1 v3 v4 v5 v6 v7 G → P26 v1 v3 v4 v5 v6 v7 G) → P26 v1 v3 v4 v5 v6 v7 G
def wp_X7_letterAt (post : Int32 → GH → Prop) (x1 x2 x3 : Int32) (G : GH) : Prop :=
  (∀ y_1 : Int32, y_1 = ((x1 * (10 : Int32)) + x2) → (vp_in y_1 130 ∧ (∀ y_2 : Int32, y_2 = (nb (G 9 6 y_1.toNatClampNeg)) → lp_X7_letterAt_26 post x1 x3 y_1 y_2 (-1 : Int32) (0 : Int32) G)))
set_option maxRecDepth 100000 in
set_option maxHeartbeats 4000000 in
theorem kj_X7_letterAt_90 {E : Ev} {X : Cx} {post : Int32 → GH → Prop} {v4 v5 v6 : Int32} {G : GH} (F : Fx E X "MarkField" cX7_letterAt 8) (T : RT E X 6 0 0 (some .int) (pI post)) (h : j_X7_letterAt_90 post v4 v5 v6 G) : AW E X 8 90 [(0, .ref (sdX X 0 0)), (4, .int v4), (5, .int v5), (6, .int v6)] [] G 0 0 := by
  have hP := F.P
  refine aw_al_n F 0 dX7_letterAt_90 rfl rfl ?_
  refine gr7_8 F (lo_s rfl) (hP _ rfl) rfl w_302 (hP 9 rfl) dX7_letterAt_91 ?_
  refine gr4_5 F (lo_s rfl) (hP _ rfl) rfl w_103 (hP _ rfl) dX7_letterAt_94 ?_
  refine aw_il F 1 dX7_letterAt_97 rfl ?_
  refine aw_il F 2 dX7_letterAt_99 rfl ?_
  refine aw_bast F 9 6 (lo_s rfl) (hP _ rfl) rfl h.1 dX7_letterAt_101 ?_
  refine aw_nG (fun G_4 eG_4 => ?_)
  replace h := h.2 G_4 eG_4
  refine aw_il F 3 dX7_letterAt_102 rfl ?_
  exact aw_iret F T (Nat.le_of_ble_eq_true rfl) (Nat.le_of_ble_eq_true rfl) ⟨_, rfl, h⟩ dX7_letterAt_104
set_option maxRecDepth 100000 in
set_option maxHeartbeats 4000000 in
theorem kl_X7_letterAt_26 {E : Ev} {X : Cx} {post : Int32 → GH → Prop} {v1 v3 v4 v5 v6 v7 : Int32} {G : GH} (F : Fx E X "MarkField" cX7_letterAt 8) (T : RT E X 6 0 0 (some .int) (pI post)) (h : lp_X7_letterAt_26 post v1 v3 v4 v5 v6 v7 G) : AW E X 8 26 [(0, .ref (sdX X 0 0)), (1, .int v1), (3, .int v3), (4, .int v4), (5, .int v5), (6, .int v6), (7, .int v7)] [] G 0 0 := by
  have hP := F.P
  have K26 : ∀ (v1 v3 v4 v5 v6 v7 : Int32) (G : GH), AW E X 8 26 [(0, .ref (sdX X 0 0)), (1, .int v1), (3, .int v3), (4, .int v4), (5, .int v5), (6, .int v6), (7, .int v7)] [] G 0 0 → AW E X 8 26 [(0, .ref (sdX X 0 0)), (1, .int v1), (3, .int v3), (4, .int v4), (5, .int v5), (6, .int v6), (7, .int v7)] [] G 0 0 := fun _ _ _ _ _ _ _ q => q
  refine h (fun (v1 v3 v4 v5 v6 v7 : Int32) (G : GH) => AW E X 8 26 [(0, .ref (sdX X 0 0)), (1, .int v1), (3, .int v3), (4, .int v4), (5, .int v5), (6, .int v6), (7, .int v7)] [] G 0 0) (fun (v1 v3 v4 v5 v6 v7 : Int32) (G : GH) h => ?_)
  refine aw_il F 6 dX7_letterAt_26 rfl ?_
  refine aw_bi F dX7_letterAt_28 bi_26 ?_
  refine aw_icmp_ge (tgt := 90) F dX7_letterAt_30 (by decide) (fun c_3 => ?_) (fun c_3 => ?_)
  · replace h := h.1 c_3
    refine aw_sub [0, 3, 4, 5] rfl ?_
    exact kj_X7_letterAt_90 F T h
  · replace h := h.2 c_3
    refine aw_il F 5 dX7_letterAt_33 rfl ?_
    refine aw_ic F dX7_letterAt_35 ic_m1 ?_
    refine aw_icmp_ne (tgt := 90) F dX7_letterAt_36 (by decide) (fun c_5 => ?_) (fun c_5 => ?_)
    · replace h := h.2 c_5
      refine aw_sub [0, 3, 4, 5] rfl ?_
      exact kj_X7_letterAt_90 F T h
    · replace h := h.1 c_5
      refine aw_il F 6 dX7_letterAt_39 rfl ?_
      refine aw_il F 4 dX7_letterAt_41 rfl ?_
      refine aw_icmp_eq (tgt := 84) F dX7_letterAt_43 (by decide) (fun c_6 => ?_) (fun c_6 => ?_)
      · replace h := h.1 c_6
        refine aw_inc (lv1 := [(7, .int (v7 + (1 : Int32))), (0, .ref (sdX X 0 0)), (1, .int v1), (3, .int v3), (4, .int v4), (5, .int v5), (6, .int v6)]) F 6 dX7_letterAt_84 rfl (in_1 _) (by decide) rfl ?_
        refine aw_go (tgt := 26) F dX7_letterAt_87 (by decide) ?_
        refine aw_sub [1, 2, 3, 4, 5, 6, 0] rfl ?_
        exact K26 _ _ _ _ _ _ _ h
      · replace h := h.2 c_6
        refine aw_al_n F 0 dX7_letterAt_46 rfl rfl ?_
        refine gr7_8 F (lo_s rfl) (hP _ rfl) rfl w_302 (hP 9 rfl) dX7_letterAt_47 ?_
        refine gr4_5 F (lo_s rfl) (hP _ rfl) rfl w_103 (hP _ rfl) dX7_letterAt_50 ?_
        refine aw_il F 3 dX7_letterAt_53 rfl ?_
        refine aw_il F 6 dX7_letterAt_55 rfl ?_
        refine aw_i2b F dX7_letterAt_57 ?_
        refine aw_bast F 9 6 (lo_s rfl) (hP _ rfl) rfl h.1 dX7_letterAt_58 ?_
        refine aw_nG (fun G_7 eG_7 => ?_)
        replace h := h.2 G_7 eG_7
        refine aw_al_n F 0 dX7_letterAt_59 rfl rfl ?_
        refine gr7_6 F (lo_s rfl) (hP _ rfl) rfl w_300 (hP 7 rfl) dX7_letterAt_60 ?_
        refine aw_al_n F 0 dX7_letterAt_63 rfl rfl ?_
        refine gr7_8 F (lo_s rfl) (hP _ rfl) rfl w_302 (hP 9 rfl) dX7_letterAt_64 ?_
        refine aw_il_n F 1 dX7_letterAt_67 rfl rfl ?_
        refine aw_cVv (stk := []) F T.room [.ref (sdX X 9 0), .int v1] (k_X1_rename hP rfl rfl rfl rfl h) mv_X1_rename w_1002 cf1 (lo_s rfl) (hP _ rfl) rfl (by decide) rfl rfl (Nat.le_of_ble_eq_true rfl) ⟨(Nat.le_of_ble_eq_true rfl), (Nat.le_of_ble_eq_true rfl)⟩ ⟨(Nat.le_of_ble_eq_true rfl), (Nat.le_of_ble_eq_true rfl)⟩ dX7_letterAt_68 (fun G_8 h => ?_)
        refine aw_al_n F 0 dX7_letterAt_71 rfl rfl ?_
        refine aw_il_n F 1 dX7_letterAt_72 rfl rfl ?_
        refine aw_il_n F 2 dX7_letterAt_73 rfl rfl ?_
        refine aw_cVb (stk := []) F T.room [.int v1, .int v3] (k_X7_wouldHold hP h) mv_X7_wouldHold w_982 cf7 (lo_s rfl) (hP _ rfl) rfl (by decide) rfl rfl (Nat.le_of_ble_eq_true rfl) ⟨(Nat.le_of_ble_eq_true rfl), (Nat.le_of_ble_eq_true rfl)⟩ ⟨(Nat.le_of_ble_eq_true rfl), (Nat.le_of_ble_eq_true rfl)⟩ dX7_letterAt_74 (fun b_11 G_10 h => ?_)
        refine aw_if_eq (tgt := 84) F dX7_letterAt_77 (by decide) (fun c_12 => ?_) (fun c_12 => ?_)
        · replace h := h.1 (bI_2 c_12)
          refine aw_inc (lv1 := [(7, .int (v7 + (1 : Int32))), (0, .ref (sdX X 0 0)), (1, .int v1), (3, .int v3), (4, .int v4), (5, .int v5), (6, .int v6)]) F 6 dX7_letterAt_84 rfl (in_1 _) (by decide) rfl ?_
          refine aw_go (tgt := 26) F dX7_letterAt_87 (by decide) ?_
          refine aw_sub [1, 2, 3, 4, 5, 6, 0] rfl ?_
          exact K26 _ _ _ _ _ _ _ h
        · replace h := h.2 (bI_1 c_12)
          refine aw_il F 6 dX7_letterAt_80 rfl ?_
          refine aw_is (lv1 := [(6, .int v7), (0, .ref (sdX X 0 0)), (1, .int v1), (3, .int v3), (4, .int v4), (5, .int v5), (7, .int v7)]) F dX7_letterAt_82 (by decide) rfl ?_
          refine aw_inc (lv1 := [(7, .int (v7 + (1 : Int32))), (6, .int v7), (0, .ref (sdX X 0 0)), (1, .int v1), (3, .int v3), (4, .int v4), (5, .int v5)]) F 6 dX7_letterAt_84 rfl (in_1 _) (by decide) rfl ?_
          refine aw_go (tgt := 26) F dX7_letterAt_87 (by decide) ?_
          refine aw_sub [2, 3, 4, 5, 6, 1, 0] rfl ?_
          exact K26 _ _ _ _ _ _ _ h
set_option maxRecDepth 100000 in
set_option maxHeartbeats 4000000 in
theorem k_X7_letterAt {l : Launch} {E : Ev} {P : Nat → Prop} {sd : Nat → Nat → Nat} {G : GH} {post : Int32 → GH → Prop} {x1 x2 x3 : Int32} (hPP : ∀ o, stt o = true → P o) (h : wp_X7_letterAt post x1 x2 x3 G) : Ct l yX7_letterAt cX7_letterAt 8 (some .int) 6 0 0 E P sd G [.ref (sd 0 0), .int x1, .int x2, .int x3] (pI post) := by
  refine ct_of (own := "MarkField") (by decide) rfl (Nat.le_of_ble_eq_true rfl) hPP (fun X F T el eP es => ?_)
  subst el; subst eP; subst es
  have hP := F.P
  change AW E X 8 0 [(0, .ref (sdX X 0 0)), (1, .int x1), (2, .int x2), (3, .int x3)] [] G 0 0
  refine aw_il_n F 1 dX7_letterAt_0 rfl rfl ?_
  refine aw_bi F dX7_letterAt_1 bi_10 ?_
  refine aw_imul F dX7_letterAt_3 ?_
  refine aw_il_n F 2 dX7_letterAt_4 rfl rfl ?_
  refine aw_iadd F dX7_letterAt_5 ?_
  refine aw_top (fun y_1 ey_1 => ?_)
  replace h := h y_1 ey_1
  refine aw_is (lv1 := [(4, .int y_1), (0, .ref (sdX X 0 0)), (1, .int x1), (2, .int x2), (3, .int x3)]) F dX7_letterAt_6 (by decide) rfl ?_
  refine aw_al_n F 1 dX7_letterAt_8 rfl rfl ?_
  refine gr7_8 F (lo_s rfl) (hP _ rfl) rfl w_302 (hP 9 rfl) dX7_letterAt_9 ?_
  refine gr4_5 F (lo_s rfl) (hP _ rfl) rfl w_103 (hP _ rfl) dX7_letterAt_12 ?_
  refine aw_il F 0 dX7_letterAt_15 rfl ?_
  refine aw_bald F 9 6 (lo_s rfl) (hP _ rfl) rfl h.1 dX7_letterAt_17 ?_
  replace h := h.2
  refine aw_top (fun y_2 ey_2 => ?_)
  replace h := h y_2 ey_2
  refine aw_is (lv1 := [(5, .int y_2), (4, .int y_1), (0, .ref (sdX X 0 0)), (1, .int x1), (2, .int x2), (3, .int x3)]) F dX7_letterAt_18 (by decide) rfl ?_
  refine aw_ic F dX7_letterAt_20 ic_m1 ?_
  refine aw_is (lv1 := [(6, .int (-1 : Int32)), (5, .int y_2), (4, .int y_1), (0, .ref (sdX X 0 0)), (1, .int x1), (2, .int x2), (3, .int x3)]) F dX7_letterAt_21 (by decide) rfl ?_
  refine aw_ic F dX7_letterAt_23 ic_0 ?_
  refine aw_is (lv1 := [(7, .int (0 : Int32)), (6, .int (-1 : Int32)), (5, .int y_2), (4, .int y_1), (0, .ref (sdX X 0 0)), (1, .int x1), (2, .int x2), (3, .int x3)]) F dX7_letterAt_24 (by decide) rfl ?_
  refine aw_sub [4, 5, 7, 3, 2, 1, 0] rfl ?_
  exact kl_X7_letterAt_26 F T h
