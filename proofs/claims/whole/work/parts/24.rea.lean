theorem bi_59 : (Int8.ofInt (59)).toInt32 = (59 : Int32) := by decide
theorem w_250 : (Jvm.Cond.fieldLink "MarkField$Reader" (15 : Nat) "MarkField$Reader" "fault" "I") ∈ tb := tb_of (List.mem_of_getElem? (i := 250) (by decide +kernel)) rfl
theorem w_247 : (Jvm.Cond.fieldLink "MarkField$Reader" (21 : Nat) "MarkField$Reader" "tape" "LMarkField$Tape;") ∈ tb := tb_of (List.mem_of_getElem? (i := 247) (by decide +kernel)) rfl
theorem w_46 : (Jvm.Cond.fieldLink "MarkField$Reader" (53 : Nat) "MarkField$Tape" "start" "I") ∈ tb := tb_of (List.mem_of_getElem? (i := 46) (by decide +kernel)) rfl
theorem w_251 : (Jvm.Cond.fieldLink "MarkField$Reader" (18 : Nat) "MarkField$Reader" "place" "I") ∈ tb := tb_of (List.mem_of_getElem? (i := 251) (by decide +kernel)) rfl
theorem w_43 : (Jvm.Cond.fieldLink "MarkField$Reader" (44 : Nat) "MarkField$Tape" "kind" "I") ∈ tb := tb_of (List.mem_of_getElem? (i := 43) (by decide +kernel)) rfl
theorem w_49 : (Jvm.Cond.fieldLink "MarkField$Reader" (67 : Nat) "MarkField$Tape" "value" "I") ∈ tb := tb_of (List.mem_of_getElem? (i := 49) (by decide +kernel)) rfl
theorem w_541 : (Jvm.Cond.code ({ cls := "MarkField$Reader", name := "fail", desc := "(I)Z" } : Jvm.MethodName) prog_5_method_3_code (2 : Nat) (Option.some Jvm.ClassFile.FieldType.boolean)) ∈ tb := tb_of (List.mem_of_getElem? (i := 541) (by decide +kernel)) rfl
theorem w_8 : (Jvm.Cond.initialized "MarkField$Reader") ∈ tb := tb_of (List.mem_of_getElem? (i := 8) (by decide +kernel)) rfl
theorem w_540 : (Jvm.Cond.instanceMethod ({ cls := "MarkField$Reader", name := "fail", desc := "(I)Z" } : Jvm.MethodName)) ∈ tb := tb_of (List.mem_of_getElem? (i := 540) (by decide +kernel)) rfl
theorem ws_3 : (Jvm.Cond.selects "MarkField$Reader" ({ cls := "MarkField$Reader", name := "fail", desc := "(I)Z" } : Jvm.MethodName) ({ cls := "MarkField$Reader", name := "fail", desc := "(I)Z" } : Jvm.MethodName)) ∈ tb := tb_sel (List.mem_of_getElem? (i := 3) (by decide +kernel)) rfl
theorem w_538 : (Jvm.Cond.methodLink "MarkField$Reader" (60 : Nat) ({ cls := "MarkField$Reader", name := "fail", desc := "(I)Z" } : Jvm.MethodName)) ∈ tb := tb_of (List.mem_of_getElem? (i := 538) (by decide +kernel)) rfl
theorem w_249 : (Jvm.Cond.fieldLink "MarkField$Reader" (9 : Nat) "MarkField$Reader" "taken" "I") ∈ tb := tb_of (List.mem_of_getElem? (i := 249) (by decide +kernel)) rfl
theorem w_542 : (Jvm.Cond.methodLink "MarkField$Reader" (64 : Nat) ({ cls := "MarkField$Tape", name := "advance", desc := "()V" } : Jvm.MethodName)) ∈ tb := tb_of (List.mem_of_getElem? (i := 542) (by decide +kernel)) rfl
theorem w_554 : (Jvm.Cond.code ({ cls := "MarkField$Tape", name := "isSign", desc := "(C)Z" } : Jvm.MethodName) prog_8_method_11_code (2 : Nat) (Option.some Jvm.ClassFile.FieldType.boolean)) ∈ tb := tb_of (List.mem_of_getElem? (i := 554) (by decide +kernel)) rfl
theorem w_552 : (Jvm.Cond.instanceMethod ({ cls := "MarkField$Tape", name := "isSign", desc := "(C)Z" } : Jvm.MethodName)) ∈ tb := tb_of (List.mem_of_getElem? (i := 552) (by decide +kernel)) rfl
theorem w_553 : (Jvm.Cond.selects "MarkField$Tape" ({ cls := "MarkField$Tape", name := "isSign", desc := "(C)Z" } : Jvm.MethodName) ({ cls := "MarkField$Tape", name := "isSign", desc := "(C)Z" } : Jvm.MethodName)) ∈ tb := tb_of (List.mem_of_getElem? (i := 553) (by decide +kernel)) rfl
theorem w_551 : (Jvm.Cond.methodLink "MarkField$Reader" (56 : Nat) ({ cls := "MarkField$Tape", name := "isSign", desc := "(C)Z" } : Jvm.MethodName)) ∈ tb := tb_of (List.mem_of_getElem? (i := 551) (by decide +kernel)) rfl
theorem w_489 : (Jvm.Cond.code ({ cls := "MarkField$Tape", name := "isWord", desc := "(Ljava/lang/String;)Z" } : Jvm.MethodName) prog_8_method_10_code (3 : Nat) (Option.some Jvm.ClassFile.FieldType.boolean)) ∈ tb := tb_of (List.mem_of_getElem? (i := 489) (by decide +kernel)) rfl
theorem w_487 : (Jvm.Cond.instanceMethod ({ cls := "MarkField$Tape", name := "isWord", desc := "(Ljava/lang/String;)Z" } : Jvm.MethodName)) ∈ tb := tb_of (List.mem_of_getElem? (i := 487) (by decide +kernel)) rfl
theorem w_488 : (Jvm.Cond.selects "MarkField$Tape" ({ cls := "MarkField$Tape", name := "isWord", desc := "(Ljava/lang/String;)Z" } : Jvm.MethodName) ({ cls := "MarkField$Tape", name := "isWord", desc := "(Ljava/lang/String;)Z" } : Jvm.MethodName)) ∈ tb := tb_of (List.mem_of_getElem? (i := 488) (by decide +kernel)) rfl
theorem w_486 : (Jvm.Cond.methodLink "MarkField$Reader" (72 : Nat) ({ cls := "MarkField$Tape", name := "isWord", desc := "(Ljava/lang/String;)Z" } : Jvm.MethodName)) ∈ tb := tb_of (List.mem_of_getElem? (i := 486) (by decide +kernel)) rfl
theorem w_546 : (Jvm.Cond.code ({ cls := "MarkField$Reader", name := "takeNumber", desc := "(III)Z" } : Jvm.MethodName) prog_5_method_5_code (4 : Nat) (Option.some Jvm.ClassFile.FieldType.boolean)) ∈ tb := tb_of (List.mem_of_getElem? (i := 546) (by decide +kernel)) rfl
theorem w_545 : (Jvm.Cond.instanceMethod ({ cls := "MarkField$Reader", name := "takeNumber", desc := "(III)Z" } : Jvm.MethodName)) ∈ tb := tb_of (List.mem_of_getElem? (i := 545) (by decide +kernel)) rfl
theorem ws_4 : (Jvm.Cond.selects "MarkField$Reader" ({ cls := "MarkField$Reader", name := "takeNumber", desc := "(III)Z" } : Jvm.MethodName) ({ cls := "MarkField$Reader", name := "takeNumber", desc := "(III)Z" } : Jvm.MethodName)) ∈ tb := tb_sel (List.mem_of_getElem? (i := 4) (by decide +kernel)) rfl
theorem w_543 : (Jvm.Cond.methodLink "MarkField$Reader" (76 : Nat) ({ cls := "MarkField$Reader", name := "takeNumber", desc := "(III)Z" } : Jvm.MethodName)) ∈ tb := tb_of (List.mem_of_getElem? (i := 543) (by decide +kernel)) rfl
theorem w_248 : (Jvm.Cond.fieldLink "MarkField$Reader" (25 : Nat) "MarkField$Reader" "into" "LMarkField$Register;") ∈ tb := tb_of (List.mem_of_getElem? (i := 248) (by decide +kernel)) rfl
theorem w_82 : (Jvm.Cond.fieldLink "MarkField$Reader" (80 : Nat) "MarkField$Register" "lands" "I") ∈ tb := tb_of (List.mem_of_getElem? (i := 82) (by decide +kernel)) rfl
theorem w_550 : (Jvm.Cond.code ({ cls := "MarkField$Reader", name := "takeSemicolon", desc := "()Z" } : Jvm.MethodName) prog_5_method_4_code (1 : Nat) (Option.some Jvm.ClassFile.FieldType.boolean)) ∈ tb := tb_of (List.mem_of_getElem? (i := 550) (by decide +kernel)) rfl
theorem w_549 : (Jvm.Cond.instanceMethod ({ cls := "MarkField$Reader", name := "takeSemicolon", desc := "()Z" } : Jvm.MethodName)) ∈ tb := tb_of (List.mem_of_getElem? (i := 549) (by decide +kernel)) rfl
theorem ws_5 : (Jvm.Cond.selects "MarkField$Reader" ({ cls := "MarkField$Reader", name := "takeSemicolon", desc := "()Z" } : Jvm.MethodName) ({ cls := "MarkField$Reader", name := "takeSemicolon", desc := "()Z" } : Jvm.MethodName)) ∈ tb := tb_sel (List.mem_of_getElem? (i := 5) (by decide +kernel)) rfl
theorem w_547 : (Jvm.Cond.methodLink "MarkField$Reader" (50 : Nat) ({ cls := "MarkField$Reader", name := "takeSemicolon", desc := "()Z" } : Jvm.MethodName)) ∈ tb := tb_of (List.mem_of_getElem? (i := 547) (by decide +kernel)) rfl
theorem w_88 : (Jvm.Cond.fieldLink "MarkField$Reader" (107 : Nat) "MarkField$Register" "marks" "I") ∈ tb := tb_of (List.mem_of_getElem? (i := 88) (by decide +kernel)) rfl
theorem w_567 : (Jvm.Cond.code ({ cls := "MarkField$Tape", name := "tokenLength", desc := "()I" } : Jvm.MethodName) prog_8_method_9_code (1 : Nat) (Option.some Jvm.ClassFile.FieldType.int)) ∈ tb := tb_of (List.mem_of_getElem? (i := 567) (by decide +kernel)) rfl
theorem w_565 : (Jvm.Cond.instanceMethod ({ cls := "MarkField$Tape", name := "tokenLength", desc := "()I" } : Jvm.MethodName)) ∈ tb := tb_of (List.mem_of_getElem? (i := 565) (by decide +kernel)) rfl
theorem w_566 : (Jvm.Cond.selects "MarkField$Tape" ({ cls := "MarkField$Tape", name := "tokenLength", desc := "()I" } : Jvm.MethodName) ({ cls := "MarkField$Tape", name := "tokenLength", desc := "()I" } : Jvm.MethodName)) ∈ tb := tb_of (List.mem_of_getElem? (i := 566) (by decide +kernel)) rfl
theorem w_564 : (Jvm.Cond.methodLink "MarkField$Reader" (132 : Nat) ({ cls := "MarkField$Tape", name := "tokenLength", desc := "()I" } : Jvm.MethodName)) ∈ tb := tb_of (List.mem_of_getElem? (i := 564) (by decide +kernel)) rfl
theorem w_38 : (Jvm.Cond.fieldLink "MarkField$Reader" (135 : Nat) "MarkField$Tape" "bytes" "[B") ∈ tb := tb_of (List.mem_of_getElem? (i := 38) (by decide +kernel)) rfl
theorem w_571 : (Jvm.Cond.code ({ cls := "MarkField$Register", name := "addMark", desc := "([BIII)I" } : Jvm.MethodName) prog_6_method_8_code (7 : Nat) (Option.some Jvm.ClassFile.FieldType.int)) ∈ tb := tb_of (List.mem_of_getElem? (i := 571) (by decide +kernel)) rfl
theorem w_569 : (Jvm.Cond.instanceMethod ({ cls := "MarkField$Register", name := "addMark", desc := "([BIII)I" } : Jvm.MethodName)) ∈ tb := tb_of (List.mem_of_getElem? (i := 569) (by decide +kernel)) rfl
theorem w_570 : (Jvm.Cond.selects "MarkField$Register" ({ cls := "MarkField$Register", name := "addMark", desc := "([BIII)I" } : Jvm.MethodName) ({ cls := "MarkField$Register", name := "addMark", desc := "([BIII)I" } : Jvm.MethodName)) ∈ tb := tb_of (List.mem_of_getElem? (i := 570) (by decide +kernel)) rfl
theorem w_568 : (Jvm.Cond.methodLink "MarkField$Reader" (139 : Nat) ({ cls := "MarkField$Register", name := "addMark", desc := "([BIII)I" } : Jvm.MethodName)) ∈ tb := tb_of (List.mem_of_getElem? (i := 568) (by decide +kernel)) rfl
theorem w_574 : (Jvm.Cond.code ({ cls := "MarkField", name := "isClass", desc := "(I)Z" } : Jvm.MethodName) prog_1_method_33_code (1 : Nat) (Option.some Jvm.ClassFile.FieldType.boolean)) ∈ tb := tb_of (List.mem_of_getElem? (i := 574) (by decide +kernel)) rfl
theorem w_573 : (Jvm.Cond.static ({ cls := "MarkField", name := "isClass", desc := "(I)Z" } : Jvm.MethodName)) ∈ tb := tb_of (List.mem_of_getElem? (i := 573) (by decide +kernel)) rfl
theorem w_94 : (Jvm.Cond.fieldLink "MarkField$Reader" (146 : Nat) "MarkField$Register" "classes" "[I") ∈ tb := tb_of (List.mem_of_getElem? (i := 94) (by decide +kernel)) rfl
theorem w_583 : (Jvm.Cond.methodLink "MarkField$Reader" (156 : Nat) ({ cls := "MarkField$Register", name := "halfCount", desc := "()I" } : Jvm.MethodName)) ∈ tb := tb_of (List.mem_of_getElem? (i := 583) (by decide +kernel)) rfl
theorem w_590 : (Jvm.Cond.code ({ cls := "MarkField$Register", name := "addUse", desc := "(IIII)I" } : Jvm.MethodName) prog_6_method_9_code (7 : Nat) (Option.some Jvm.ClassFile.FieldType.int)) ∈ tb := tb_of (List.mem_of_getElem? (i := 590) (by decide +kernel)) rfl
theorem w_588 : (Jvm.Cond.instanceMethod ({ cls := "MarkField$Register", name := "addUse", desc := "(IIII)I" } : Jvm.MethodName)) ∈ tb := tb_of (List.mem_of_getElem? (i := 588) (by decide +kernel)) rfl
theorem w_589 : (Jvm.Cond.selects "MarkField$Register" ({ cls := "MarkField$Register", name := "addUse", desc := "(IIII)I" } : Jvm.MethodName) ({ cls := "MarkField$Register", name := "addUse", desc := "(IIII)I" } : Jvm.MethodName)) ∈ tb := tb_of (List.mem_of_getElem? (i := 589) (by decide +kernel)) rfl
theorem w_587 : (Jvm.Cond.methodLink "MarkField$Reader" (159 : Nat) ({ cls := "MarkField$Register", name := "addUse", desc := "(IIII)I" } : Jvm.MethodName)) ∈ tb := tb_of (List.mem_of_getElem? (i := 587) (by decide +kernel)) rfl
theorem w_106 : (Jvm.Cond.fieldLink "MarkField$Reader" (153 : Nat) "MarkField$Register" "useCounts" "[I") ∈ tb := tb_of (List.mem_of_getElem? (i := 106) (by decide +kernel)) rfl
theorem w_608 : (Jvm.Cond.code ({ cls := "MarkField$Reader", name := "ruleOfWord", desc := "()I" } : Jvm.MethodName) prog_5_method_8_code (1 : Nat) (Option.some Jvm.ClassFile.FieldType.int)) ∈ tb := tb_of (List.mem_of_getElem? (i := 608) (by decide +kernel)) rfl
theorem w_607 : (Jvm.Cond.instanceMethod ({ cls := "MarkField$Reader", name := "ruleOfWord", desc := "()I" } : Jvm.MethodName)) ∈ tb := tb_of (List.mem_of_getElem? (i := 607) (by decide +kernel)) rfl
theorem ws_10 : (Jvm.Cond.selects "MarkField$Reader" ({ cls := "MarkField$Reader", name := "ruleOfWord", desc := "()I" } : Jvm.MethodName) ({ cls := "MarkField$Reader", name := "ruleOfWord", desc := "()I" } : Jvm.MethodName)) ∈ tb := tb_sel (List.mem_of_getElem? (i := 10) (by decide +kernel)) rfl
theorem w_605 : (Jvm.Cond.methodLink "MarkField$Reader" (110 : Nat) ({ cls := "MarkField$Reader", name := "ruleOfWord", desc := "()I" } : Jvm.MethodName)) ∈ tb := tb_of (List.mem_of_getElem? (i := 605) (by decide +kernel)) rfl
theorem w_119 : (Jvm.Cond.fieldLink "MarkField$Reader" (117 : Nat) "MarkField$Register" "rules" "[I") ∈ tb := tb_of (List.mem_of_getElem? (i := 119) (by decide +kernel)) rfl
theorem w_113 : (Jvm.Cond.fieldLink "MarkField$Reader" (104 : Nat) "MarkField$Register" "consents" "[I") ∈ tb := tb_of (List.mem_of_getElem? (i := 113) (by decide +kernel)) rfl
theorem w_599 : (Jvm.Cond.code ({ cls := "MarkField$Reader", name := "readCouple", desc := "([II)Z" } : Jvm.MethodName) prog_5_method_11_code (4 : Nat) (Option.some Jvm.ClassFile.FieldType.boolean)) ∈ tb := tb_of (List.mem_of_getElem? (i := 599) (by decide +kernel)) rfl
theorem w_598 : (Jvm.Cond.instanceMethod ({ cls := "MarkField$Reader", name := "readCouple", desc := "([II)Z" } : Jvm.MethodName)) ∈ tb := tb_of (List.mem_of_getElem? (i := 598) (by decide +kernel)) rfl
theorem ws_9 : (Jvm.Cond.selects "MarkField$Reader" ({ cls := "MarkField$Reader", name := "readCouple", desc := "([II)Z" } : Jvm.MethodName) ({ cls := "MarkField$Reader", name := "readCouple", desc := "([II)Z" } : Jvm.MethodName)) ∈ tb := tb_sel (List.mem_of_getElem? (i := 9) (by decide +kernel)) rfl
theorem w_596 : (Jvm.Cond.methodLink "MarkField$Reader" (98 : Nat) ({ cls := "MarkField$Reader", name := "readCouple", desc := "([II)Z" } : Jvm.MethodName)) ∈ tb := tb_of (List.mem_of_getElem? (i := 596) (by decide +kernel)) rfl
theorem w_116 : (Jvm.Cond.fieldLink "MarkField$Reader" (94 : Nat) "MarkField$Register" "neighbours" "[I") ∈ tb := tb_of (List.mem_of_getElem? (i := 116) (by decide +kernel)) rfl
theorem w_582 : (Jvm.Cond.code ({ cls := "MarkField$Reader", name := "readUse", desc := "()Z" } : Jvm.MethodName) prog_5_method_10_code (5 : Nat) (Option.some Jvm.ClassFile.FieldType.boolean)) ∈ tb := tb_of (List.mem_of_getElem? (i := 582) (by decide +kernel)) rfl
theorem w_581 : (Jvm.Cond.instanceMethod ({ cls := "MarkField$Reader", name := "readUse", desc := "()Z" } : Jvm.MethodName)) ∈ tb := tb_of (List.mem_of_getElem? (i := 581) (by decide +kernel)) rfl
theorem ws_8 : (Jvm.Cond.selects "MarkField$Reader" ({ cls := "MarkField$Reader", name := "readUse", desc := "()Z" } : Jvm.MethodName) ({ cls := "MarkField$Reader", name := "readUse", desc := "()Z" } : Jvm.MethodName)) ∈ tb := tb_sel (List.mem_of_getElem? (i := 8) (by decide +kernel)) rfl
theorem w_579 : (Jvm.Cond.methodLink "MarkField$Reader" (89 : Nat) ({ cls := "MarkField$Reader", name := "readUse", desc := "()Z" } : Jvm.MethodName)) ∈ tb := tb_of (List.mem_of_getElem? (i := 579) (by decide +kernel)) rfl
theorem w_563 : (Jvm.Cond.code ({ cls := "MarkField$Reader", name := "readMark", desc := "()Z" } : Jvm.MethodName) prog_5_method_9_code (5 : Nat) (Option.some Jvm.ClassFile.FieldType.boolean)) ∈ tb := tb_of (List.mem_of_getElem? (i := 563) (by decide +kernel)) rfl
theorem w_562 : (Jvm.Cond.instanceMethod ({ cls := "MarkField$Reader", name := "readMark", desc := "()Z" } : Jvm.MethodName)) ∈ tb := tb_of (List.mem_of_getElem? (i := 562) (by decide +kernel)) rfl
theorem ws_7 : (Jvm.Cond.selects "MarkField$Reader" ({ cls := "MarkField$Reader", name := "readMark", desc := "()Z" } : Jvm.MethodName) ({ cls := "MarkField$Reader", name := "readMark", desc := "()Z" } : Jvm.MethodName)) ∈ tb := tb_sel (List.mem_of_getElem? (i := 7) (by decide +kernel)) rfl
theorem w_560 : (Jvm.Cond.methodLink "MarkField$Reader" (84 : Nat) ({ cls := "MarkField$Reader", name := "readMark", desc := "()Z" } : Jvm.MethodName)) ∈ tb := tb_of (List.mem_of_getElem? (i := 560) (by decide +kernel)) rfl
theorem w_456 : (Jvm.Cond.code ({ cls := "MarkField$Register", name := "clear", desc := "()V" } : Jvm.MethodName) prog_6_method_2_code (1 : Nat) (Option.none : Option Jvm.ClassFile.FieldType)) ∈ tb := tb_of (List.mem_of_getElem? (i := 456) (by decide +kernel)) rfl
theorem w_454 : (Jvm.Cond.instanceMethod ({ cls := "MarkField$Register", name := "clear", desc := "()V" } : Jvm.MethodName)) ∈ tb := tb_of (List.mem_of_getElem? (i := 454) (by decide +kernel)) rfl
theorem w_455 : (Jvm.Cond.selects "MarkField$Register" ({ cls := "MarkField$Register", name := "clear", desc := "()V" } : Jvm.MethodName) ({ cls := "MarkField$Register", name := "clear", desc := "()V" } : Jvm.MethodName)) ∈ tb := tb_of (List.mem_of_getElem? (i := 455) (by decide +kernel)) rfl
theorem w_453 : (Jvm.Cond.methodLink "MarkField$Reader" (29 : Nat) ({ cls := "MarkField$Register", name := "clear", desc := "()V" } : Jvm.MethodName)) ∈ tb := tb_of (List.mem_of_getElem? (i := 453) (by decide +kernel)) rfl
theorem w_463 : (Jvm.Cond.code ({ cls := "MarkField$Tape", name := "takeText", desc := "(I)V" } : Jvm.MethodName) prog_8_method_3_code (2 : Nat) (Option.none : Option Jvm.ClassFile.FieldType)) ∈ tb := tb_of (List.mem_of_getElem? (i := 463) (by decide +kernel)) rfl
theorem w_461 : (Jvm.Cond.instanceMethod ({ cls := "MarkField$Tape", name := "takeText", desc := "(I)V" } : Jvm.MethodName)) ∈ tb := tb_of (List.mem_of_getElem? (i := 461) (by decide +kernel)) rfl
theorem w_462 : (Jvm.Cond.selects "MarkField$Tape" ({ cls := "MarkField$Tape", name := "takeText", desc := "(I)V" } : Jvm.MethodName) ({ cls := "MarkField$Tape", name := "takeText", desc := "(I)V" } : Jvm.MethodName)) ∈ tb := tb_of (List.mem_of_getElem? (i := 462) (by decide +kernel)) rfl
theorem w_460 : (Jvm.Cond.methodLink "MarkField$Reader" (34 : Nat) ({ cls := "MarkField$Tape", name := "takeText", desc := "(I)V" } : Jvm.MethodName)) ∈ tb := tb_of (List.mem_of_getElem? (i := 460) (by decide +kernel)) rfl
theorem w_484 : (Jvm.Cond.code ({ cls := "MarkField$Reader", name := "readLands", desc := "()Z" } : Jvm.MethodName) prog_5_method_6_code (1 : Nat) (Option.some Jvm.ClassFile.FieldType.boolean)) ∈ tb := tb_of (List.mem_of_getElem? (i := 484) (by decide +kernel)) rfl
theorem w_483 : (Jvm.Cond.instanceMethod ({ cls := "MarkField$Reader", name := "readLands", desc := "()Z" } : Jvm.MethodName)) ∈ tb := tb_of (List.mem_of_getElem? (i := 483) (by decide +kernel)) rfl
theorem ws_2 : (Jvm.Cond.selects "MarkField$Reader" ({ cls := "MarkField$Reader", name := "readLands", desc := "()Z" } : Jvm.MethodName) ({ cls := "MarkField$Reader", name := "readLands", desc := "()Z" } : Jvm.MethodName)) ∈ tb := tb_sel (List.mem_of_getElem? (i := 2) (by decide +kernel)) rfl
theorem w_481 : (Jvm.Cond.methodLink "MarkField$Reader" (40 : Nat) ({ cls := "MarkField$Reader", name := "readLands", desc := "()Z" } : Jvm.MethodName)) ∈ tb := tb_of (List.mem_of_getElem? (i := 481) (by decide +kernel)) rfl
theorem w_558 : (Jvm.Cond.code ({ cls := "MarkField$Reader", name := "readLine", desc := "()Z" } : Jvm.MethodName) prog_5_method_7_code (2 : Nat) (Option.some Jvm.ClassFile.FieldType.boolean)) ∈ tb := tb_of (List.mem_of_getElem? (i := 558) (by decide +kernel)) rfl
theorem w_557 : (Jvm.Cond.instanceMethod ({ cls := "MarkField$Reader", name := "readLine", desc := "()Z" } : Jvm.MethodName)) ∈ tb := tb_of (List.mem_of_getElem? (i := 557) (by decide +kernel)) rfl
theorem ws_6 : (Jvm.Cond.selects "MarkField$Reader" ({ cls := "MarkField$Reader", name := "readLine", desc := "()Z" } : Jvm.MethodName) ({ cls := "MarkField$Reader", name := "readLine", desc := "()Z" } : Jvm.MethodName)) ∈ tb := tb_sel (List.mem_of_getElem? (i := 6) (by decide +kernel)) rfl
theorem w_555 : (Jvm.Cond.methodLink "MarkField$Reader" (47 : Nat) ({ cls := "MarkField$Reader", name := "readLine", desc := "()Z" } : Jvm.MethodName)) ∈ tb := tb_of (List.mem_of_getElem? (i := 555) (by decide +kernel)) rfl
theorem mv_X3_fail : MV yX3_fail cX3_fail 2 (some .boolean) 1 := ⟨⟨w_541, w_8, by decide, by decide, by decide +kernel⟩, w_540, ws_3⟩
theorem mv_X6_isSign : MV yX6_isSign cX6_isSign 2 (some .boolean) 1 := ⟨⟨w_554, w_2, by decide, by decide, by decide +kernel⟩, w_552, w_553⟩
theorem mv_X6_isWord : MV yX6_isWord cX6_isWord 3 (some .boolean) 1 := ⟨⟨w_489, w_2, by decide, by decide, by decide +kernel⟩, w_487, w_488⟩
theorem mv_X3_takeNumber : MV yX3_takeNumber cX3_takeNumber 4 (some .boolean) 3 := ⟨⟨w_546, w_8, by decide, by decide, by decide +kernel⟩, w_545, ws_4⟩
theorem mv_X3_takeSemicolon : MV yX3_takeSemicolon cX3_takeSemicolon 1 (some .boolean) 0 := ⟨⟨w_550, w_8, by decide, by decide, by decide +kernel⟩, w_549, ws_5⟩
theorem mv_X6_tokenLength : MV yX6_tokenLength cX6_tokenLength 1 (some .int) 0 := ⟨⟨w_567, w_2, by decide, by decide, by decide +kernel⟩, w_565, w_566⟩
theorem mv_X4_addMark : MV yX4_addMark cX4_addMark 7 (some .int) 4 := ⟨⟨w_571, w_3, by decide, by decide, by decide +kernel⟩, w_569, w_570⟩
theorem ms_X7_isClass : MS yX7_isClass cX7_isClass 1 (some .boolean) 1 := ⟨⟨w_574, w_1, by decide, by decide, by decide +kernel⟩, w_573⟩
theorem mv_X4_addUse : MV yX4_addUse cX4_addUse 7 (some .int) 4 := ⟨⟨w_590, w_3, by decide, by decide, by decide +kernel⟩, w_588, w_589⟩
theorem mv_X3_ruleOfWord : MV yX3_ruleOfWord cX3_ruleOfWord 1 (some .int) 0 := ⟨⟨w_608, w_8, by decide, by decide, by decide +kernel⟩, w_607, ws_10⟩
theorem mv_X3_readCouple : MV yX3_readCouple cX3_readCouple 4 (some .boolean) 2 := ⟨⟨w_599, w_8, by decide, by decide, by decide +kernel⟩, w_598, ws_9⟩
theorem mv_X3_readUse : MV yX3_readUse cX3_readUse 5 (some .boolean) 0 := ⟨⟨w_582, w_8, by decide, by decide, by decide +kernel⟩, w_581, ws_8⟩
theorem mv_X3_readMark : MV yX3_readMark cX3_readMark 5 (some .boolean) 0 := ⟨⟨w_563, w_8, by decide, by decide, by decide +kernel⟩, w_562, ws_7⟩
theorem mv_X4_clear : MV yX4_clear cX4_clear 1 none 0 := ⟨⟨w_456, w_3, by decide, by decide, by decide +kernel⟩, w_454, w_455⟩
theorem mv_X6_takeText : MV yX6_takeText cX6_takeText 2 none 1 := ⟨⟨w_463, w_2, by decide, by decide, by decide +kernel⟩, w_461, w_462⟩
theorem mv_X3_readLands : MV yX3_readLands cX3_readLands 1 (some .boolean) 0 := ⟨⟨w_484, w_8, by decide, by decide, by decide +kernel⟩, w_483, ws_2⟩
theorem mv_X3_readLine : MV yX3_readLine cX3_readLine 2 (some .boolean) 0 := ⟨⟨w_558, w_8, by decide, by decide, by decide +kernel⟩, w_557, ws_6⟩
-- X3_fail (height 0)
def wp_X3_fail (post : Bool → GH → Prop) (x1 : Int32) (G : GH) : Prop :=
  (∀ G_1 : GH, G_1 = gs G 2 0 (upd (G 2 0) 3 x1) → (∀ G_2 : GH, G_2 = gs G_1 2 0 (upd (G_1 2 0) 4 (G_1 1 0 3)) → post false G_2))
set_option maxRecDepth 100000 in
set_option maxHeartbeats 4000000 in
theorem k_X3_fail {l : Launch} {E : Ev} {P : Nat → Prop} {sd : Nat → Nat → Nat} {G : GH} {post : Bool → GH → Prop} {x1 : Int32} (hPP : ∀ o, stt o = true → P o) (h : wp_X3_fail post x1 G) : Ct l yX3_fail cX3_fail 2 (some .boolean) 0 0 0 E P sd G [.ref (sd 2 0), .int x1] (pB post) := by
  refine ct_of (own := "MarkField$Reader") (by decide) rfl (Nat.le_of_ble_eq_true rfl) hPP (fun X F T el eP es => ?_)
  subst el; subst eP; subst es
  have hP := F.P
  change AW E X 2 0 [(0, .ref (sdX X 2 0)), (1, .int x1)] [] G 0 0
  refine aw_al_n F 0 dX3_fail_0 rfl rfl ?_
  refine aw_il_n F 1 dX3_fail_1 rfl rfl ?_
  refine pf3_3 F (lo_s rfl) (hP _ rfl) rfl w_250 dX3_fail_2 (fun G_1 eG_1 => ?_)
  replace h := h G_1 eG_1
  refine aw_al_n F 0 dX3_fail_5 rfl rfl ?_
  refine aw_al_n F 0 dX3_fail_6 rfl rfl ?_
  refine gr3_0 F (lo_s rfl) (hP _ rfl) rfl w_247 (hP 1 rfl) dX3_fail_7 ?_
  refine gf6_3 F (lo_s rfl) (hP _ rfl) rfl w_46 dX3_fail_10 ?_
  refine pf3_4 F (lo_s rfl) (hP _ rfl) rfl w_251 dX3_fail_13 (fun G_2 eG_2 => ?_)
  replace h := h G_2 eG_2
  refine aw_ic F dX3_fail_16 ic_0 ?_
  exact aw_zret F T false rfl (Nat.le_of_ble_eq_true rfl) (Nat.le_of_ble_eq_true rfl) ⟨_, rfl, h⟩ dX3_fail_17
-- X3_takeNumber (height 2)
def j_X3_takeNumber_50 (post : Bool → GH → Prop) (G : GH) : Prop :=
  wp_X3_fail (fun (b_4 : Bool) (G_3 : GH) => post b_4 G_3) (2 : Int32) G
def wp_X3_takeNumber (post : Bool → GH → Prop) (x1 x2 x3 : Int32) (G : GH) : Prop :=
  (((G 1 0 2) = (2 : Int32) → (((G 1 0 4) < x1 → j_X3_takeNumber_50 post G) ∧ (¬ (G 1 0 4) < x1 → ((x2 < (G 1 0 4) → j_X3_takeNumber_50 post G) ∧ (¬ x2 < (G 1 0 4) → (((G 1 0 4) = x3 → j_X3_takeNumber_50 post G) ∧ (¬ (G 1 0 4) = x3 → (∀ G_7 : GH, G_7 = gs G 2 0 (upd (G 2 0) 2 (G 1 0 4)) → wp_X6_advance (fun (G_8 : GH) => post true G_8) G_7)))))))) ∧ (¬ (G 1 0 2) = (2 : Int32) → wp_X3_fail (fun (b_11 : Bool) (G_10 : GH) => post b_11 G_10) (1 : Int32) G))
set_option maxRecDepth 100000 in
set_option maxHeartbeats 4000000 in
theorem kj_X3_takeNumber_50 {E : Ev} {X : Cx} {post : Bool → GH → Prop} {G : GH} (F : Fx E X "MarkField$Reader" cX3_takeNumber 4) (T : RT E X 2 0 0 (some .boolean) (pB post)) (h : j_X3_takeNumber_50 post G) : AW E X 4 50 [(0, .ref (sdX X 2 0))] [] G 0 0 := by
  have hP := F.P
  refine aw_al_n F 0 dX3_takeNumber_50 rfl rfl ?_
  refine aw_ic F dX3_takeNumber_51 ic_2 ?_
  refine aw_cVb (stk := []) F T.room [.int (2 : Int32)] (k_X3_fail hP h) mv_X3_fail w_538 cf3 (lo_s rfl) (hP _ rfl) rfl (by decide) rfl rfl (Nat.le_of_ble_eq_true rfl) ⟨(Nat.le_of_ble_eq_true rfl), (Nat.le_of_ble_eq_true rfl)⟩ ⟨(Nat.le_of_ble_eq_true rfl), (Nat.le_of_ble_eq_true rfl)⟩ dX3_takeNumber_52 (fun b_4 G_3 h => ?_)
  exact aw_zret F T b_4 rfl (Nat.le_of_ble_eq_true rfl) (Nat.le_of_ble_eq_true rfl) ⟨_, rfl, h⟩ dX3_takeNumber_55
set_option maxRecDepth 100000 in
set_option maxHeartbeats 4000000 in
theorem k_X3_takeNumber {l : Launch} {E : Ev} {P : Nat → Prop} {sd : Nat → Nat → Nat} {G : GH} {post : Bool → GH → Prop} {x1 x2 x3 : Int32} (hPP : ∀ o, stt o = true → P o) (h : wp_X3_takeNumber post x1 x2 x3 G) : Ct l yX3_takeNumber cX3_takeNumber 4 (some .boolean) 2 0 0 E P sd G [.ref (sd 2 0), .int x1, .int x2, .int x3] (pB post) := by
  refine ct_of (own := "MarkField$Reader") (by decide) rfl (Nat.le_of_ble_eq_true rfl) hPP (fun X F T el eP es => ?_)
  subst el; subst eP; subst es
  have hP := F.P
  change AW E X 4 0 [(0, .ref (sdX X 2 0)), (1, .int x1), (2, .int x2), (3, .int x3)] [] G 0 0
  refine aw_al_n F 0 dX3_takeNumber_0 rfl rfl ?_
  refine gr3_0 F (lo_s rfl) (hP _ rfl) rfl w_247 (hP 1 rfl) dX3_takeNumber_1 ?_
  refine gf6_2 F (lo_s rfl) (hP _ rfl) rfl w_43 dX3_takeNumber_4 ?_
  refine aw_ic F dX3_takeNumber_7 ic_2 ?_
  refine aw_icmp_eq (tgt := 17) F dX3_takeNumber_8 (by decide) (fun c_1 => ?_) (fun c_1 => ?_)
  · replace h := h.1 c_1
    refine aw_al_n F 0 dX3_takeNumber_17 rfl rfl ?_
    refine gr3_0 F (lo_s rfl) (hP _ rfl) rfl w_247 (hP 1 rfl) dX3_takeNumber_18 ?_
    refine gf6_4 F (lo_s rfl) (hP _ rfl) rfl w_49 dX3_takeNumber_21 ?_
    refine aw_il_n F 1 dX3_takeNumber_24 rfl rfl ?_
    refine aw_icmp_lt (tgt := 50) F dX3_takeNumber_25 (by decide) (fun c_2 => ?_) (fun c_2 => ?_)
    · replace h := h.1 c_2
      refine aw_sub [0] rfl ?_
      exact kj_X3_takeNumber_50 F T h
    · replace h := h.2 c_2
      refine aw_al_n F 0 dX3_takeNumber_28 rfl rfl ?_
      refine gr3_0 F (lo_s rfl) (hP _ rfl) rfl w_247 (hP 1 rfl) dX3_takeNumber_29 ?_
      refine gf6_4 F (lo_s rfl) (hP _ rfl) rfl w_49 dX3_takeNumber_32 ?_
      refine aw_il_n F 2 dX3_takeNumber_35 rfl rfl ?_
      refine aw_icmp_gt (tgt := 50) F dX3_takeNumber_36 (by decide) (fun c_5 => ?_) (fun c_5 => ?_)
      · replace h := h.1 c_5
        refine aw_sub [0] rfl ?_
        exact kj_X3_takeNumber_50 F T h
      · replace h := h.2 c_5
        refine aw_al_n F 0 dX3_takeNumber_39 rfl rfl ?_
        refine gr3_0 F (lo_s rfl) (hP _ rfl) rfl w_247 (hP 1 rfl) dX3_takeNumber_40 ?_
        refine gf6_4 F (lo_s rfl) (hP _ rfl) rfl w_49 dX3_takeNumber_43 ?_
        refine aw_il_n F 3 dX3_takeNumber_46 rfl rfl ?_
        refine aw_icmp_ne (tgt := 56) F dX3_takeNumber_47 (by decide) (fun c_6 => ?_) (fun c_6 => ?_)
        · replace h := h.2 c_6
          refine aw_al_n F 0 dX3_takeNumber_56 rfl rfl ?_
          refine aw_al_n F 0 dX3_takeNumber_57 rfl rfl ?_
          refine gr3_0 F (lo_s rfl) (hP _ rfl) rfl w_247 (hP 1 rfl) dX3_takeNumber_58 ?_
          refine gf6_4 F (lo_s rfl) (hP _ rfl) rfl w_49 dX3_takeNumber_61 ?_
          refine pf3_2 F (lo_s rfl) (hP _ rfl) rfl w_249 dX3_takeNumber_64 (fun G_7 eG_7 => ?_)
          replace h := h G_7 eG_7
          refine aw_al_n F 0 dX3_takeNumber_67 rfl rfl ?_
          refine gr3_0 F (lo_s rfl) (hP _ rfl) rfl w_247 (hP 1 rfl) dX3_takeNumber_68 ?_
          refine aw_cVv (stk := []) F T.room [] (k_X6_advance hP h) mv_X6_advance w_542 cf6 (lo_s rfl) (hP _ rfl) rfl (by decide) rfl rfl (Nat.le_of_ble_eq_true rfl) ⟨(Nat.le_of_ble_eq_true rfl), (Nat.le_of_ble_eq_true rfl)⟩ ⟨(Nat.le_of_ble_eq_true rfl), (Nat.le_of_ble_eq_true rfl)⟩ dX3_takeNumber_71 (fun G_8 h => ?_)
          refine aw_ic F dX3_takeNumber_74 ic_1 ?_
          exact aw_zret F T true rfl (Nat.le_of_ble_eq_true rfl) (Nat.le_of_ble_eq_true rfl) ⟨_, rfl, h⟩ dX3_takeNumber_75
        · replace h := h.1 c_6
          refine aw_sub [0] rfl ?_
          exact kj_X3_takeNumber_50 F T h
  · replace h := h.2 c_1
    refine aw_al_n F 0 dX3_takeNumber_11 rfl rfl ?_
    refine aw_ic F dX3_takeNumber_12 ic_1 ?_
    refine aw_cVb (stk := []) F T.room [.int (1 : Int32)] (k_X3_fail hP h) mv_X3_fail w_538 cf3 (lo_s rfl) (hP _ rfl) rfl (by decide) rfl rfl (Nat.le_of_ble_eq_true rfl) ⟨(Nat.le_of_ble_eq_true rfl), (Nat.le_of_ble_eq_true rfl)⟩ ⟨(Nat.le_of_ble_eq_true rfl), (Nat.le_of_ble_eq_true rfl)⟩ dX3_takeNumber_13 (fun b_11 G_10 h => ?_)
    exact aw_zret F T b_11 rfl (Nat.le_of_ble_eq_true rfl) (Nat.le_of_ble_eq_true rfl) ⟨_, rfl, h⟩ dX3_takeNumber_16
-- X3_takeSemicolon (height 2)
def wp_X3_takeSemicolon (post : Bool → GH → Prop) (G : GH) : Prop :=
  wp_X6_isSign (fun (b_2 : Bool) (G_1 : GH) => ((b_2 = false → wp_X3_fail (fun (b_7 : Bool) (G_6 : GH) => post b_7 G_6) (1 : Int32) G_1) ∧ (b_2 = true → wp_X6_advance (fun (G_4 : GH) => post true G_4) G_1))) (59 : Int32) G
set_option maxRecDepth 100000 in
set_option maxHeartbeats 4000000 in
theorem k_X3_takeSemicolon {l : Launch} {E : Ev} {P : Nat → Prop} {sd : Nat → Nat → Nat} {G : GH} {post : Bool → GH → Prop} (hPP : ∀ o, stt o = true → P o) (h : wp_X3_takeSemicolon post G) : Ct l yX3_takeSemicolon cX3_takeSemicolon 1 (some .boolean) 2 0 0 E P sd G [.ref (sd 2 0)] (pB post) := by
  refine ct_of (own := "MarkField$Reader") (by decide) rfl (Nat.le_of_ble_eq_true rfl) hPP (fun X F T el eP es => ?_)
  subst el; subst eP; subst es
  have hP := F.P
  change AW E X 1 0 [(0, .ref (sdX X 2 0))] [] G 0 0
  refine aw_al_n F 0 dX3_takeSemicolon_0 rfl rfl ?_
  refine gr3_0 F (lo_s rfl) (hP _ rfl) rfl w_247 (hP 1 rfl) dX3_takeSemicolon_1 ?_
  refine aw_bi F dX3_takeSemicolon_4 bi_59 ?_
  refine aw_cVb (stk := []) F T.room [.int (59 : Int32)] (k_X6_isSign hP h) mv_X6_isSign w_551 cf6 (lo_s rfl) (hP _ rfl) rfl (by decide) rfl rfl (Nat.le_of_ble_eq_true rfl) ⟨(Nat.le_of_ble_eq_true rfl), (Nat.le_of_ble_eq_true rfl)⟩ ⟨(Nat.le_of_ble_eq_true rfl), (Nat.le_of_ble_eq_true rfl)⟩ dX3_takeSemicolon_6 (fun b_2 G_1 h => ?_)
  refine aw_if_ne (tgt := 18) F dX3_takeSemicolon_9 (by decide) (fun c_3 => ?_) (fun c_3 => ?_)
  · replace h := h.2 (bI_1 c_3)
    refine aw_al_n F 0 dX3_takeSemicolon_18 rfl rfl ?_
    refine gr3_0 F (lo_s rfl) (hP _ rfl) rfl w_247 (hP 1 rfl) dX3_takeSemicolon_19 ?_
    refine aw_cVv (stk := []) F T.room [] (k_X6_advance hP h) mv_X6_advance w_542 cf6 (lo_s rfl) (hP _ rfl) rfl (by decide) rfl rfl (Nat.le_of_ble_eq_true rfl) ⟨(Nat.le_of_ble_eq_true rfl), (Nat.le_of_ble_eq_true rfl)⟩ ⟨(Nat.le_of_ble_eq_true rfl), (Nat.le_of_ble_eq_true rfl)⟩ dX3_takeSemicolon_22 (fun G_4 h => ?_)
    refine aw_ic F dX3_takeSemicolon_25 ic_1 ?_
    exact aw_zret F T true rfl (Nat.le_of_ble_eq_true rfl) (Nat.le_of_ble_eq_true rfl) ⟨_, rfl, h⟩ dX3_takeSemicolon_26
  · replace h := h.1 (bI_2 c_3)
    refine aw_al_n F 0 dX3_takeSemicolon_12 rfl rfl ?_
    refine aw_ic F dX3_takeSemicolon_13 ic_1 ?_
    refine aw_cVb (stk := []) F T.room [.int (1 : Int32)] (k_X3_fail hP h) mv_X3_fail w_538 cf3 (lo_s rfl) (hP _ rfl) rfl (by decide) rfl rfl (Nat.le_of_ble_eq_true rfl) ⟨(Nat.le_of_ble_eq_true rfl), (Nat.le_of_ble_eq_true rfl)⟩ ⟨(Nat.le_of_ble_eq_true rfl), (Nat.le_of_ble_eq_true rfl)⟩ dX3_takeSemicolon_14 (fun b_7 G_6 h => ?_)
    exact aw_zret F T b_7 rfl (Nat.le_of_ble_eq_true rfl) (Nat.le_of_ble_eq_true rfl) ⟨_, rfl, h⟩ dX3_takeSemicolon_17
-- X3_readLands (height 8)
def wp_X3_readLands (post : Bool → GH → Prop) (G : GH) : Prop :=
  wp_X6_isWord (fun (b_2 : Bool) (G_1 : GH) => ((b_2 = false → wp_X3_fail (fun (b_13 : Bool) (G_12 : GH) => post b_13 G_12) (1 : Int32) G_1) ∧ (b_2 = true → wp_X6_advance (fun (G_4 : GH) => wp_X3_takeNumber (fun (b_7 : Bool) (G_6 : GH) => ((b_7 = false → post false G_6) ∧ (b_7 = true → (∀ G_9 : GH, G_9 = gs G_6 10 0 (upd (G_6 10 0) 0 (G_6 2 0 2)) → wp_X3_takeSemicolon (fun (b_11 : Bool) (G_10 : GH) => post b_11 G_10) G_9)))) (1 : Int32) (6 : Int32) (-1 : Int32) G_4) G_1))) 29 G
set_option maxRecDepth 100000 in
set_option maxHeartbeats 4000000 in
theorem k_X3_readLands {l : Launch} {E : Ev} {P : Nat → Prop} {sd : Nat → Nat → Nat} {G : GH} {post : Bool → GH → Prop} (hPP : ∀ o, stt o = true → P o) (h : wp_X3_readLands post G) : Ct l yX3_readLands cX3_readLands 1 (some .boolean) 8 0 0 E P sd G [.ref (sd 2 0)] (pB post) := by
  refine ct_of (own := "MarkField$Reader") (by decide) rfl (Nat.le_of_ble_eq_true rfl) hPP (fun X F T el eP es => ?_)
  subst el; subst eP; subst es
  have hP := F.P
  change AW E X 1 0 [(0, .ref (sdX X 2 0))] [] G 0 0
  refine aw_al_n F 0 dX3_readLands_0 rfl rfl ?_
  refine gr3_0 F (lo_s rfl) (hP _ rfl) rfl w_247 (hP 1 rfl) dX3_readLands_1 ?_
  refine aw_ldcS F 29 (by decide) rfl dX3_readLands_4 ?_
  refine aw_cVb (stk := []) F T.room [.ref (E.2.2.2.1 29)] (k_X6_isWord hP (by decide) h) mv_X6_isWord w_486 cf6 (lo_s rfl) (hP _ rfl) rfl (by decide) rfl rfl (Nat.le_of_ble_eq_true rfl) ⟨(Nat.le_of_ble_eq_true rfl), (Nat.le_of_ble_eq_true rfl)⟩ ⟨(Nat.le_of_ble_eq_true rfl), (Nat.le_of_ble_eq_true rfl)⟩ dX3_readLands_6 (fun b_2 G_1 h => ?_)
  refine aw_if_ne (tgt := 18) F dX3_readLands_9 (by decide) (fun c_3 => ?_) (fun c_3 => ?_)
  · replace h := h.2 (bI_1 c_3)
    refine aw_al_n F 0 dX3_readLands_18 rfl rfl ?_
    refine gr3_0 F (lo_s rfl) (hP _ rfl) rfl w_247 (hP 1 rfl) dX3_readLands_19 ?_
    refine aw_cVv (stk := []) F T.room [] (k_X6_advance hP h) mv_X6_advance w_542 cf6 (lo_s rfl) (hP _ rfl) rfl (by decide) rfl rfl (Nat.le_of_ble_eq_true rfl) ⟨(Nat.le_of_ble_eq_true rfl), (Nat.le_of_ble_eq_true rfl)⟩ ⟨(Nat.le_of_ble_eq_true rfl), (Nat.le_of_ble_eq_true rfl)⟩ dX3_readLands_22 (fun G_4 h => ?_)
    refine aw_al_n F 0 dX3_readLands_25 rfl rfl ?_
    refine aw_ic F dX3_readLands_26 ic_1 ?_
    refine aw_bi F dX3_readLands_27 bi_6 ?_
    refine aw_ic F dX3_readLands_29 ic_m1 ?_
    refine aw_cVb (stk := []) F T.room [.int (1 : Int32), .int (6 : Int32), .int (-1 : Int32)] (k_X3_takeNumber hP h) mv_X3_takeNumber w_543 cf3 (lo_s rfl) (hP _ rfl) rfl (by decide) rfl rfl (Nat.le_of_ble_eq_true rfl) ⟨(Nat.le_of_ble_eq_true rfl), (Nat.le_of_ble_eq_true rfl)⟩ ⟨(Nat.le_of_ble_eq_true rfl), (Nat.le_of_ble_eq_true rfl)⟩ dX3_readLands_30 (fun b_7 G_6 h => ?_)
    refine aw_if_ne (tgt := 38) F dX3_readLands_33 (by decide) (fun c_8 => ?_) (fun c_8 => ?_)
    · replace h := h.2 (bI_1 c_8)
      refine aw_al_n F 0 dX3_readLands_38 rfl rfl ?_
      refine gr3_1 F (lo_s rfl) (hP _ rfl) rfl w_248 (hP 10 rfl) dX3_readLands_39 ?_
      refine aw_al_n F 0 dX3_readLands_42 rfl rfl ?_
      refine gf3_2 F (lo_s rfl) (hP _ rfl) rfl w_249 dX3_readLands_43 ?_
      refine pf4_0 F (lo_s rfl) (hP _ rfl) rfl w_82 dX3_readLands_46 (fun G_9 eG_9 => ?_)
      replace h := h G_9 eG_9
      refine aw_al_n F 0 dX3_readLands_49 rfl rfl ?_
      refine aw_cVb (stk := []) F T.room [] (k_X3_takeSemicolon hP h) mv_X3_takeSemicolon w_547 cf3 (lo_s rfl) (hP _ rfl) rfl (by decide) rfl rfl (Nat.le_of_ble_eq_true rfl) ⟨(Nat.le_of_ble_eq_true rfl), (Nat.le_of_ble_eq_true rfl)⟩ ⟨(Nat.le_of_ble_eq_true rfl), (Nat.le_of_ble_eq_true rfl)⟩ dX3_readLands_50 (fun b_11 G_10 h => ?_)
      exact aw_zret F T b_11 rfl (Nat.le_of_ble_eq_true rfl) (Nat.le_of_ble_eq_true rfl) ⟨_, rfl, h⟩ dX3_readLands_53
    · replace h := h.1 (bI_2 c_8)
      refine aw_ic F dX3_readLands_36 ic_0 ?_
      exact aw_zret F T false rfl (Nat.le_of_ble_eq_true rfl) (Nat.le_of_ble_eq_true rfl) ⟨_, rfl, h⟩ dX3_readLands_37
  · replace h := h.1 (bI_2 c_3)
    refine aw_al_n F 0 dX3_readLands_12 rfl rfl ?_
    refine aw_ic F dX3_readLands_13 ic_1 ?_
    refine aw_cVb (stk := []) F T.room [.int (1 : Int32)] (k_X3_fail hP h) mv_X3_fail w_538 cf3 (lo_s rfl) (hP _ rfl) rfl (by decide) rfl rfl (Nat.le_of_ble_eq_true rfl) ⟨(Nat.le_of_ble_eq_true rfl), (Nat.le_of_ble_eq_true rfl)⟩ ⟨(Nat.le_of_ble_eq_true rfl), (Nat.le_of_ble_eq_true rfl)⟩ dX3_readLands_14 (fun b_13 G_12 h => ?_)
    exact aw_zret F T b_13 rfl (Nat.le_of_ble_eq_true rfl) (Nat.le_of_ble_eq_true rfl) ⟨_, rfl, h⟩ dX3_readLands_17
-- X3_readMark (height 3)
def j_X3_readMark_180 (post : Bool → GH → Prop) (P121 : Int32 → Int32 → GH → Prop) (v3 v4 : Int32) (G : GH) : Prop :=
  wp_X3_takeNumber (fun (b_24 : Bool) (G_23 : GH) => ((b_24 = false → post false G_23) ∧ (b_24 = true → (vp_in v3 13 ∧ (vp_in v3 13 ∧ (∀ G_26 : GH, G_26 = gs G_23 10 4 (upd (G_23 10 4) v3.toNatClampNeg ((G_23 10 4 v3.toNatClampNeg) ||| ((1 : Int32) <<< ((G_23 2 0 2) &&& 31)))) → P121 v3 (v4 + (1 : Int32)) G_26)))))) (0 : Int32) (9 : Int32) (-1 : Int32) G
def lb_X3_readMark_121 (post : Bool → GH → Prop) (P121 : Int32 → Int32 → GH → Prop) (v3 v4 : Int32) (G : GH) : Prop :=
  (((10 : Int32) < v4 → post true G) ∧ (¬ (10 : Int32) < v4 → (((G 1 0 2) = (2 : Int32) → wp_X7_isClass (fun (b_21 : Bool) (G_20 : GH) => ((b_21 = false → j_X3_readMark_180 post P121 v3 v4 G_20) ∧ (b_21 = true → (vp_in v3 13 ∧ wp_X7_isIn (fun (b_28 : Bool) (G_27 : GH) => ((b_28 = false → j_X3_readMark_180 post P121 v3 v4 G_27) ∧ (b_28 = true → wp_X3_fail (fun (b_31 : Bool) (G_30 : GH) => post b_31 G_30) (2 : Int32) G_27))) (G_20 1 0 4) (G_20 10 4 v3.toNatClampNeg) G_20)))) (G 1 0 4) G) ∧ (¬ (G 1 0 2) = (2 : Int32) → post true G))))
def lp_X3_readMark_121 (post : Bool → GH → Prop) (v3 v4 : Int32) (G : GH) : Prop := ∀ P121 : Int32 → Int32 → GH → Prop, (∀ (v3 v4 : Int32) (G : GH), lb_X3_readMark_121 post P121 v3 v4 G → P121 v3 v4 G) → P121 v3 v4 G
def wp_X3_readMark (post : Bool → GH → Prop) (G : GH) : Prop :=
  (((G 10 0 1) < (12 : Int32) → wp_X6_advance (fun (G_2 : GH) => (((G_2 1 0 2) = (1 : Int32) → wp_X6_tokenLength (fun (r_6 : Int32) (G_5 : GH) => ((r_6 ≤ (10 : Int32) → (∀ y_8 : Int32, y_8 = (G_5 1 0 3) → wp_X6_tokenLength (fun (r_10 : Int32) (G_9 : GH) => wp_X6_advance (fun (G_11 : GH) => wp_X3_takeNumber (fun (b_14 : Bool) (G_13 : GH) => ((b_14 = false → post false G_13) ∧ (b_14 = true → wp_X4_addMark (fun (r_17 : Int32) (G_16 : GH) => lp_X3_readMark_121 post r_17 (0 : Int32) G_16) 10 1 1 700 y_8 r_10 (G_13 2 0 2) G_13))) (0 : Int32) (9999 : Int32) (-1 : Int32) G_11) G_9) G_5)) ∧ (¬ r_6 ≤ (10 : Int32) → wp_X3_fail (fun (b_33 : Bool) (G_32 : GH) => post b_33 G_32) (3 : Int32) G_5))) G_2) ∧ (¬ (G_2 1 0 2) = (1 : Int32) → wp_X3_fail (fun (b_35 : Bool) (G_34 : GH) => post b_35 G_34) (1 : Int32) G_2))) G) ∧ (¬ (G 10 0 1) < (12 : Int32) → wp_X3_fail (fun (b_37 : Bool) (G_36 : GH) => post b_37 G_36) (4 : Int32) G))
set_option maxRecDepth 100000 in
set_option maxHeartbeats 4000000 in
theorem kj_X3_readMark_180 {E : Ev} {X : Cx} {post : Bool → GH → Prop} {P121 : Int32 → Int32 → GH → Prop} {v3 v4 : Int32} {G : GH} (F : Fx E X "MarkField$Reader" cX3_readMark 5) (T : RT E X 3 0 0 (some .boolean) (pB post)) (K121 : ∀ (v3 v4 : Int32) (G : GH), P121 v3 v4 G → AW E X 5 121 [(0, .ref (sdX X 2 0)), (3, .int v3), (4, .int v4)] [] G 0 0) (h : j_X3_readMark_180 post P121 v3 v4 G) : AW E X 5 180 [(0, .ref (sdX X 2 0)), (3, .int v3), (4, .int v4)] [] G 0 0 := by
  have hP := F.P
  refine aw_al_n F 0 dX3_readMark_180 rfl rfl ?_
  refine aw_ic F dX3_readMark_181 ic_0 ?_
  refine aw_bi F dX3_readMark_182 bi_9 ?_
  refine aw_ic F dX3_readMark_184 ic_m1 ?_
  refine aw_cVb (stk := []) F T.room [.int (0 : Int32), .int (9 : Int32), .int (-1 : Int32)] (k_X3_takeNumber hP h) mv_X3_takeNumber w_543 cf3 (lo_s rfl) (hP _ rfl) rfl (by decide) rfl rfl (Nat.le_of_ble_eq_true rfl) ⟨(Nat.le_of_ble_eq_true rfl), (Nat.le_of_ble_eq_true rfl)⟩ ⟨(Nat.le_of_ble_eq_true rfl), (Nat.le_of_ble_eq_true rfl)⟩ dX3_readMark_185 (fun b_24 G_23 h => ?_)
  refine aw_if_ne (tgt := 193) F dX3_readMark_188 (by decide) (fun c_25 => ?_) (fun c_25 => ?_)
  · replace h := h.2 (bI_1 c_25)
    refine aw_al_n F 0 dX3_readMark_193 rfl rfl ?_
    refine gr3_1 F (lo_s rfl) (hP _ rfl) rfl w_248 (hP 10 rfl) dX3_readMark_194 ?_
    refine gr4_3 F (lo_s rfl) (hP _ rfl) rfl w_94 (hP _ rfl) dX3_readMark_197 ?_
    refine aw_il_n F 1 dX3_readMark_200 rfl rfl ?_
    refine aw_dup2 F dX3_readMark_201 rfl rfl ?_
    refine aw_iald F 10 4 (lo_s rfl) (hP _ rfl) rfl h.1 dX3_readMark_202 ?_
    replace h := h.2
    refine aw_ic F dX3_readMark_203 ic_1 ?_
    refine aw_al_n F 0 dX3_readMark_204 rfl rfl ?_
    refine gf3_2 F (lo_s rfl) (hP _ rfl) rfl w_249 dX3_readMark_205 ?_
    refine aw_ishl F dX3_readMark_208 ?_
    refine aw_ior F dX3_readMark_209 ?_
    refine aw_iast F 10 4 (lo_s rfl) (hP _ rfl) rfl h.1 dX3_readMark_210 ?_
    refine aw_nG (fun G_26 eG_26 => ?_)
    replace h := h.2 G_26 eG_26
    refine aw_inc (lv1 := [(4, .int (v4 + (1 : Int32))), (0, .ref (sdX X 2 0)), (3, .int v3)]) F 2 dX3_readMark_211 rfl (in_1 _) (by decide) rfl ?_
    refine aw_go (tgt := 121) F dX3_readMark_214 (by decide) ?_
    refine aw_sub [1, 2, 0] rfl ?_
    exact K121 _ _ _ h
  · replace h := h.1 (bI_2 c_25)
    refine aw_ic F dX3_readMark_191 ic_0 ?_
    exact aw_zret F T false rfl (Nat.le_of_ble_eq_true rfl) (Nat.le_of_ble_eq_true rfl) ⟨_, rfl, h⟩ dX3_readMark_192
set_option maxRecDepth 100000 in
set_option maxHeartbeats 4000000 in
theorem kl_X3_readMark_121 {E : Ev} {X : Cx} {post : Bool → GH → Prop} {v3 v4 : Int32} {G : GH} (F : Fx E X "MarkField$Reader" cX3_readMark 5) (T : RT E X 3 0 0 (some .boolean) (pB post)) (h : lp_X3_readMark_121 post v3 v4 G) : AW E X 5 121 [(0, .ref (sdX X 2 0)), (3, .int v3), (4, .int v4)] [] G 0 0 := by
  have hP := F.P
  have K121 : ∀ (v3 v4 : Int32) (G : GH), AW E X 5 121 [(0, .ref (sdX X 2 0)), (3, .int v3), (4, .int v4)] [] G 0 0 → AW E X 5 121 [(0, .ref (sdX X 2 0)), (3, .int v3), (4, .int v4)] [] G 0 0 := fun _ _ _ q => q
  refine h (fun (v3 v4 : Int32) (G : GH) => AW E X 5 121 [(0, .ref (sdX X 2 0)), (3, .int v3), (4, .int v4)] [] G 0 0) (fun (v3 v4 : Int32) (G : GH) h => ?_)
  refine aw_il F 2 dX3_readMark_121 rfl ?_
  refine aw_bi F dX3_readMark_123 bi_10 ?_
  refine aw_icmp_gt (tgt := 217) F dX3_readMark_125 (by decide) (fun c_18 => ?_) (fun c_18 => ?_)
  · replace h := h.1 c_18
    refine aw_ic F dX3_readMark_217 ic_1 ?_
    exact aw_zret F T true rfl (Nat.le_of_ble_eq_true rfl) (Nat.le_of_ble_eq_true rfl) ⟨_, rfl, h⟩ dX3_readMark_218
  · replace h := h.2 c_18
    refine aw_al_n F 0 dX3_readMark_128 rfl rfl ?_
    refine gr3_0 F (lo_s rfl) (hP _ rfl) rfl w_247 (hP 1 rfl) dX3_readMark_129 ?_
    refine gf6_2 F (lo_s rfl) (hP _ rfl) rfl w_43 dX3_readMark_132 ?_
    refine aw_ic F dX3_readMark_135 ic_2 ?_
    refine aw_icmp_ne (tgt := 217) F dX3_readMark_136 (by decide) (fun c_19 => ?_) (fun c_19 => ?_)
    · replace h := h.2 c_19
      refine aw_ic F dX3_readMark_217 ic_1 ?_
      exact aw_zret F T true rfl (Nat.le_of_ble_eq_true rfl) (Nat.le_of_ble_eq_true rfl) ⟨_, rfl, h⟩ dX3_readMark_218
    · replace h := h.1 c_19
      refine aw_al_n F 0 dX3_readMark_139 rfl rfl ?_
      refine gr3_0 F (lo_s rfl) (hP _ rfl) rfl w_247 (hP 1 rfl) dX3_readMark_140 ?_
      refine gf6_4 F (lo_s rfl) (hP _ rfl) rfl w_49 dX3_readMark_143 ?_
      refine aw_cSNb (stk := []) F T.room [.int (G 1 0 4)] (k_X7_isClass hP h) ms_X7_isClass (by decide) rfl rfl (Nat.le_of_ble_eq_true rfl) ⟨(Nat.le_of_ble_eq_true rfl), (Nat.le_of_ble_eq_true rfl)⟩ ⟨(Nat.le_of_ble_eq_true rfl), (Nat.le_of_ble_eq_true rfl)⟩ dX3_readMark_146 (fun b_21 G_20 h => ?_)
      refine aw_if_eq (tgt := 180) F dX3_readMark_149 (by decide) (fun c_22 => ?_) (fun c_22 => ?_)
      · replace h := h.1 (bI_2 c_22)
        exact kj_X3_readMark_180 F T K121 h
      · replace h := h.2 (bI_1 c_22)
        refine aw_al_n F 0 dX3_readMark_152 rfl rfl ?_
        refine gr3_0 F (lo_s rfl) (hP _ rfl) rfl w_247 (hP 1 rfl) dX3_readMark_153 ?_
        refine gf6_4 F (lo_s rfl) (hP _ rfl) rfl w_49 dX3_readMark_156 ?_
        refine aw_al_n F 0 dX3_readMark_159 rfl rfl ?_
        refine gr3_1 F (lo_s rfl) (hP _ rfl) rfl w_248 (hP 10 rfl) dX3_readMark_160 ?_
        refine gr4_3 F (lo_s rfl) (hP _ rfl) rfl w_94 (hP _ rfl) dX3_readMark_163 ?_
        refine aw_il_n F 1 dX3_readMark_166 rfl rfl ?_
        refine aw_iald F 10 4 (lo_s rfl) (hP _ rfl) rfl h.1 dX3_readMark_167 ?_
        replace h := h.2
        refine aw_cSNb (stk := []) F T.room [.int (G_20 1 0 4), .int (G_20 10 4 v3.toNatClampNeg)] (k_X7_isIn hP h) ms_X7_isIn (by decide) rfl rfl (Nat.le_of_ble_eq_true rfl) ⟨(Nat.le_of_ble_eq_true rfl), (Nat.le_of_ble_eq_true rfl)⟩ ⟨(Nat.le_of_ble_eq_true rfl), (Nat.le_of_ble_eq_true rfl)⟩ dX3_readMark_168 (fun b_28 G_27 h => ?_)
        refine aw_if_eq (tgt := 180) F dX3_readMark_171 (by decide) (fun c_29 => ?_) (fun c_29 => ?_)
        · replace h := h.1 (bI_2 c_29)
          exact kj_X3_readMark_180 F T K121 h
        · replace h := h.2 (bI_1 c_29)
          refine aw_al_n F 0 dX3_readMark_174 rfl rfl ?_
          refine aw_ic F dX3_readMark_175 ic_2 ?_
          refine aw_cVb (stk := []) F T.room [.int (2 : Int32)] (k_X3_fail hP h) mv_X3_fail w_538 cf3 (lo_s rfl) (hP _ rfl) rfl (by decide) rfl rfl (Nat.le_of_ble_eq_true rfl) ⟨(Nat.le_of_ble_eq_true rfl), (Nat.le_of_ble_eq_true rfl)⟩ ⟨(Nat.le_of_ble_eq_true rfl), (Nat.le_of_ble_eq_true rfl)⟩ dX3_readMark_176 (fun b_31 G_30 h => ?_)
          exact aw_zret F T b_31 rfl (Nat.le_of_ble_eq_true rfl) (Nat.le_of_ble_eq_true rfl) ⟨_, rfl, h⟩ dX3_readMark_179
set_option maxRecDepth 100000 in
set_option maxHeartbeats 4000000 in
theorem k_X3_readMark {l : Launch} {E : Ev} {P : Nat → Prop} {sd : Nat → Nat → Nat} {G : GH} {post : Bool → GH → Prop} (hPP : ∀ o, stt o = true → P o) (h : wp_X3_readMark post G) : Ct l yX3_readMark cX3_readMark 5 (some .boolean) 3 0 0 E P sd G [.ref (sd 2 0)] (pB post) := by
  refine ct_of (own := "MarkField$Reader") (by decide) rfl (Nat.le_of_ble_eq_true rfl) hPP (fun X F T el eP es => ?_)
  subst el; subst eP; subst es
  have hP := F.P
  change AW E X 5 0 [(0, .ref (sdX X 2 0))] [] G 0 0
  refine aw_al_n F 0 dX3_readMark_0 rfl rfl ?_
  refine gr3_1 F (lo_s rfl) (hP _ rfl) rfl w_248 (hP 10 rfl) dX3_readMark_1 ?_
  refine gf4_1 F (lo_s rfl) (hP _ rfl) rfl w_88 dX3_readMark_4 ?_
  refine aw_bi F dX3_readMark_7 bi_12 ?_
  refine aw_icmp_lt (tgt := 18) F dX3_readMark_9 (by decide) (fun c_1 => ?_) (fun c_1 => ?_)
  · replace h := h.1 c_1
    refine aw_al_n F 0 dX3_readMark_18 rfl rfl ?_
    refine gr3_0 F (lo_s rfl) (hP _ rfl) rfl w_247 (hP 1 rfl) dX3_readMark_19 ?_
    refine aw_cVv (stk := []) F T.room [] (k_X6_advance hP h) mv_X6_advance w_542 cf6 (lo_s rfl) (hP _ rfl) rfl (by decide) rfl rfl (Nat.le_of_ble_eq_true rfl) ⟨(Nat.le_of_ble_eq_true rfl), (Nat.le_of_ble_eq_true rfl)⟩ ⟨(Nat.le_of_ble_eq_true rfl), (Nat.le_of_ble_eq_true rfl)⟩ dX3_readMark_22 (fun G_2 h => ?_)
    refine aw_al_n F 0 dX3_readMark_25 rfl rfl ?_
    refine gr3_0 F (lo_s rfl) (hP _ rfl) rfl w_247 (hP 1 rfl) dX3_readMark_26 ?_
    refine gf6_2 F (lo_s rfl) (hP _ rfl) rfl w_43 dX3_readMark_29 ?_
    refine aw_ic F dX3_readMark_32 ic_1 ?_
    refine aw_icmp_eq (tgt := 42) F dX3_readMark_33 (by decide) (fun c_4 => ?_) (fun c_4 => ?_)
    · replace h := h.1 c_4
      refine aw_al_n F 0 dX3_readMark_42 rfl rfl ?_
      refine gr3_0 F (lo_s rfl) (hP _ rfl) rfl w_247 (hP 1 rfl) dX3_readMark_43 ?_
      refine aw_cVi (stk := []) F T.room [] (k_X6_tokenLength hP h) mv_X6_tokenLength w_564 cf6 (lo_s rfl) (hP _ rfl) rfl (by decide) rfl rfl (Nat.le_of_ble_eq_true rfl) ⟨(Nat.le_of_ble_eq_true rfl), (Nat.le_of_ble_eq_true rfl)⟩ ⟨(Nat.le_of_ble_eq_true rfl), (Nat.le_of_ble_eq_true rfl)⟩ dX3_readMark_46 (fun r_6 G_5 h => ?_)
      refine aw_bi F dX3_readMark_49 bi_10 ?_
      refine aw_icmp_le (tgt := 60) F dX3_readMark_51 (by decide) (fun c_7 => ?_) (fun c_7 => ?_)
      · replace h := h.1 c_7
        refine aw_al_n F 0 dX3_readMark_60 rfl rfl ?_
        refine gr3_0 F (lo_s rfl) (hP _ rfl) rfl w_247 (hP 1 rfl) dX3_readMark_61 ?_
        refine gf6_3 F (lo_s rfl) (hP _ rfl) rfl w_46 dX3_readMark_64 ?_
        refine aw_top (fun y_8 ey_8 => ?_)
        replace h := h y_8 ey_8
        refine aw_is_n (lv1 := [(1, .int y_8), (0, .ref (sdX X 2 0))]) F dX3_readMark_67 rfl (by decide) rfl ?_
        refine aw_al_n F 1 dX3_readMark_68 rfl rfl ?_
        refine gr3_0 F (lo_s rfl) (hP _ rfl) rfl w_247 (hP 1 rfl) dX3_readMark_69 ?_
        refine aw_cVi (stk := []) F T.room [] (k_X6_tokenLength hP h) mv_X6_tokenLength w_564 cf6 (lo_s rfl) (hP _ rfl) rfl (by decide) rfl rfl (Nat.le_of_ble_eq_true rfl) ⟨(Nat.le_of_ble_eq_true rfl), (Nat.le_of_ble_eq_true rfl)⟩ ⟨(Nat.le_of_ble_eq_true rfl), (Nat.le_of_ble_eq_true rfl)⟩ dX3_readMark_72 (fun r_10 G_9 h => ?_)
        refine aw_is_n (lv1 := [(2, .int r_10), (1, .int y_8), (0, .ref (sdX X 2 0))]) F dX3_readMark_75 rfl (by decide) rfl ?_
        refine aw_al_n F 2 dX3_readMark_76 rfl rfl ?_
        refine gr3_0 F (lo_s rfl) (hP _ rfl) rfl w_247 (hP 1 rfl) dX3_readMark_77 ?_
        refine aw_cVv (stk := []) F T.room [] (k_X6_advance hP h) mv_X6_advance w_542 cf6 (lo_s rfl) (hP _ rfl) rfl (by decide) rfl rfl (Nat.le_of_ble_eq_true rfl) ⟨(Nat.le_of_ble_eq_true rfl), (Nat.le_of_ble_eq_true rfl)⟩ ⟨(Nat.le_of_ble_eq_true rfl), (Nat.le_of_ble_eq_true rfl)⟩ dX3_readMark_80 (fun G_11 h => ?_)
        refine aw_al_n F 2 dX3_readMark_83 rfl rfl ?_
        refine aw_ic F dX3_readMark_84 ic_0 ?_
        refine aw_si F dX3_readMark_85 si_9999 ?_
        refine aw_ic F dX3_readMark_88 ic_m1 ?_
        refine aw_cVb (stk := []) F T.room [.int (0 : Int32), .int (9999 : Int32), .int (-1 : Int32)] (k_X3_takeNumber hP h) mv_X3_takeNumber w_543 cf3 (lo_s rfl) (hP _ rfl) rfl (by decide) rfl rfl (Nat.le_of_ble_eq_true rfl) ⟨(Nat.le_of_ble_eq_true rfl), (Nat.le_of_ble_eq_true rfl)⟩ ⟨(Nat.le_of_ble_eq_true rfl), (Nat.le_of_ble_eq_true rfl)⟩ dX3_readMark_89 (fun b_14 G_13 h => ?_)
        refine aw_if_ne (tgt := 97) F dX3_readMark_92 (by decide) (fun c_15 => ?_) (fun c_15 => ?_)
        · replace h := h.2 (bI_1 c_15)
          refine aw_al_n F 2 dX3_readMark_97 rfl rfl ?_
          refine gr3_1 F (lo_s rfl) (hP _ rfl) rfl w_248 (hP 10 rfl) dX3_readMark_98 ?_
          refine aw_al_n F 2 dX3_readMark_101 rfl rfl ?_
          refine gr3_0 F (lo_s rfl) (hP _ rfl) rfl w_247 (hP 1 rfl) dX3_readMark_102 ?_
          refine gr6_0 F (lo_s rfl) (hP _ rfl) rfl w_38 (hP _ rfl) dX3_readMark_105 ?_
          refine aw_il_n F 1 dX3_readMark_108 rfl rfl ?_
          refine aw_il_n F 0 dX3_readMark_109 rfl rfl ?_
          refine aw_al_n F 2 dX3_readMark_110 rfl rfl ?_
          refine gf3_2 F (lo_s rfl) (hP _ rfl) rfl w_249 dX3_readMark_111 ?_
          refine aw_cVi (stk := []) F T.room [.ref (sdX X 1 1), .int y_8, .int r_10, .int (G_13 2 0 2)] (k_X4_addMark hP rfl rfl rfl rfl h) mv_X4_addMark w_568 cf4 (lo_s rfl) (hP _ rfl) rfl (by decide) rfl rfl (Nat.le_of_ble_eq_true rfl) ⟨(Nat.le_of_ble_eq_true rfl), (Nat.le_of_ble_eq_true rfl)⟩ ⟨(Nat.le_of_ble_eq_true rfl), (Nat.le_of_ble_eq_true rfl)⟩ dX3_readMark_114 (fun r_17 G_16 h => ?_)
          refine aw_is_n (lv1 := [(3, .int r_17), (2, .int r_10), (1, .int y_8), (0, .ref (sdX X 2 0))]) F dX3_readMark_117 rfl (by decide) rfl ?_
          refine aw_ic F dX3_readMark_118 ic_0 ?_
          refine aw_is (lv1 := [(4, .int (0 : Int32)), (3, .int r_17), (2, .int r_10), (1, .int y_8), (0, .ref (sdX X 2 0))]) F dX3_readMark_119 (by decide) rfl ?_
          refine aw_sub [4, 1, 0] rfl ?_
          exact kl_X3_readMark_121 F T h
        · replace h := h.1 (bI_2 c_15)
          refine aw_ic F dX3_readMark_95 ic_0 ?_
          exact aw_zret F T false rfl (Nat.le_of_ble_eq_true rfl) (Nat.le_of_ble_eq_true rfl) ⟨_, rfl, h⟩ dX3_readMark_96
      · replace h := h.2 c_7
        refine aw_al_n F 0 dX3_readMark_54 rfl rfl ?_
        refine aw_ic F dX3_readMark_55 ic_3 ?_
        refine aw_cVb (stk := []) F T.room [.int (3 : Int32)] (k_X3_fail hP h) mv_X3_fail w_538 cf3 (lo_s rfl) (hP _ rfl) rfl (by decide) rfl rfl (Nat.le_of_ble_eq_true rfl) ⟨(Nat.le_of_ble_eq_true rfl), (Nat.le_of_ble_eq_true rfl)⟩ ⟨(Nat.le_of_ble_eq_true rfl), (Nat.le_of_ble_eq_true rfl)⟩ dX3_readMark_56 (fun b_33 G_32 h => ?_)
        exact aw_zret F T b_33 rfl (Nat.le_of_ble_eq_true rfl) (Nat.le_of_ble_eq_true rfl) ⟨_, rfl, h⟩ dX3_readMark_59
    · replace h := h.2 c_4
      refine aw_al_n F 0 dX3_readMark_36 rfl rfl ?_
      refine aw_ic F dX3_readMark_37 ic_1 ?_
      refine aw_cVb (stk := []) F T.room [.int (1 : Int32)] (k_X3_fail hP h) mv_X3_fail w_538 cf3 (lo_s rfl) (hP _ rfl) rfl (by decide) rfl rfl (Nat.le_of_ble_eq_true rfl) ⟨(Nat.le_of_ble_eq_true rfl), (Nat.le_of_ble_eq_true rfl)⟩ ⟨(Nat.le_of_ble_eq_true rfl), (Nat.le_of_ble_eq_true rfl)⟩ dX3_readMark_38 (fun b_35 G_34 h => ?_)
      exact aw_zret F T b_35 rfl (Nat.le_of_ble_eq_true rfl) (Nat.le_of_ble_eq_true rfl) ⟨_, rfl, h⟩ dX3_readMark_41
  · replace h := h.2 c_1
    refine aw_al_n F 0 dX3_readMark_12 rfl rfl ?_
    refine aw_ic F dX3_readMark_13 ic_4 ?_
    refine aw_cVb (stk := []) F T.room [.int (4 : Int32)] (k_X3_fail hP h) mv_X3_fail w_538 cf3 (lo_s rfl) (hP _ rfl) rfl (by decide) rfl rfl (Nat.le_of_ble_eq_true rfl) ⟨(Nat.le_of_ble_eq_true rfl), (Nat.le_of_ble_eq_true rfl)⟩ ⟨(Nat.le_of_ble_eq_true rfl), (Nat.le_of_ble_eq_true rfl)⟩ dX3_readMark_14 (fun b_37 G_36 h => ?_)
    exact aw_zret F T b_37 rfl (Nat.le_of_ble_eq_true rfl) (Nat.le_of_ble_eq_true rfl) ⟨_, rfl, h⟩ dX3_readMark_17
-- X3_readUse (height 3)
def j_X3_readUse_71 (post : Bool → GH → Prop) (G : GH) : Prop :=
  wp_X3_takeNumber (fun (b_6 : Bool) (G_5 : GH) => ((b_6 = false → post false G_5) ∧ (b_6 = true → (∀ y_8 : Int32, y_8 = (G_5 2 0 2) → wp_X4_halfCount (fun (r_10 : Int32) (G_9 : GH) => wp_X3_takeNumber (fun (b_12 : Bool) (G_11 : GH) => ((b_12 = false → post false G_11) ∧ (b_12 = true → (∀ y_14 : Int32, y_14 = (G_11 2 0 2) → wp_X3_takeNumber (fun (b_16 : Bool) (G_15 : GH) => ((b_16 = false → post false G_15) ∧ (b_16 = true → (∀ y_18 : Int32, y_18 = (G_15 2 0 2) → wp_X3_takeNumber (fun (b_20 : Bool) (G_19 : GH) => ((b_20 = false → post false G_19) ∧ (b_20 = true → wp_X4_addUse (fun (r_23 : Int32) (G_22 : GH) => post true G_22) 10 y_8 y_14 y_18 (G_19 2 0 2) G_19))) y_18 (9999 : Int32) (-1 : Int32) G_15)))) (0 : Int32) (9999 : Int32) (-1 : Int32) G_11)))) (0 : Int32) (r_10 - (1 : Int32)) (-1 : Int32) G_9) 10 G_5)))) (0 : Int32) ((G 10 0 1) - (1 : Int32)) (-1 : Int32) G
def j_X3_readUse_40 (post : Bool → GH → Prop) (s0 : Int32) (G : GH) : Prop :=
  ((s0 = 0 → j_X3_readUse_71 post G) ∧ (¬ s0 = 0 → (vp_in (G 1 0 4) 13 ∧ (((G 10 7 (G 1 0 4).toNatClampNeg) < (12 : Int32) → j_X3_readUse_71 post G) ∧ (¬ (G 10 7 (G 1 0 4).toNatClampNeg) < (12 : Int32) → wp_X3_fail (fun (b_26 : Bool) (G_25 : GH) => post b_26 G_25) (4 : Int32) G)))))
def j_X3_readUse_39 (post : Bool → GH → Prop) (G : GH) : Prop :=
  j_X3_readUse_40 post (0 : Int32) G
def wp_X3_readUse (post : Bool → GH → Prop) (G : GH) : Prop :=
  wp_X6_advance (fun (G_1 : GH) => (((G_1 1 0 2) = (2 : Int32) → (((G_1 10 0 1) ≤ (G_1 1 0 4) → j_X3_readUse_39 post G_1) ∧ (¬ (G_1 10 0 1) ≤ (G_1 1 0 4) → j_X3_readUse_40 post (1 : Int32) G_1))) ∧ (¬ (G_1 1 0 2) = (2 : Int32) → j_X3_readUse_39 post G_1))) G
set_option maxRecDepth 100000 in
set_option maxHeartbeats 4000000 in
theorem kj_X3_readUse_71 {E : Ev} {X : Cx} {post : Bool → GH → Prop} {G : GH} (F : Fx E X "MarkField$Reader" cX3_readUse 5) (T : RT E X 3 0 0 (some .boolean) (pB post)) (h : j_X3_readUse_71 post G) : AW E X 5 71 [(0, .ref (sdX X 2 0))] [] G 0 0 := by
  have hP := F.P
  refine aw_al_n F 0 dX3_readUse_71 rfl rfl ?_
  refine aw_ic F dX3_readUse_72 ic_0 ?_
  refine aw_al_n F 0 dX3_readUse_73 rfl rfl ?_
  refine gr3_1 F (lo_s rfl) (hP _ rfl) rfl w_248 (hP 10 rfl) dX3_readUse_74 ?_
  refine gf4_1 F (lo_s rfl) (hP _ rfl) rfl w_88 dX3_readUse_77 ?_
  refine aw_ic F dX3_readUse_80 ic_1 ?_
  refine aw_isub F dX3_readUse_81 ?_
  refine aw_ic F dX3_readUse_82 ic_m1 ?_
  refine aw_cVb (stk := []) F T.room [.int (0 : Int32), .int ((G 10 0 1) - (1 : Int32)), .int (-1 : Int32)] (k_X3_takeNumber hP h) mv_X3_takeNumber w_543 cf3 (lo_s rfl) (hP _ rfl) rfl (by decide) rfl rfl (Nat.le_of_ble_eq_true rfl) ⟨(Nat.le_of_ble_eq_true rfl), (Nat.le_of_ble_eq_true rfl)⟩ ⟨(Nat.le_of_ble_eq_true rfl), (Nat.le_of_ble_eq_true rfl)⟩ dX3_readUse_83 (fun b_6 G_5 h => ?_)
  refine aw_if_ne (tgt := 91) F dX3_readUse_86 (by decide) (fun c_7 => ?_) (fun c_7 => ?_)
  · replace h := h.2 (bI_1 c_7)
    refine aw_al_n F 0 dX3_readUse_91 rfl rfl ?_
    refine gf3_2 F (lo_s rfl) (hP _ rfl) rfl w_249 dX3_readUse_92 ?_
    refine aw_top (fun y_8 ey_8 => ?_)
    replace h := h y_8 ey_8
    refine aw_is_n (lv1 := [(2, .int y_8), (0, .ref (sdX X 2 0))]) F dX3_readUse_95 rfl (by decide) rfl ?_
    refine aw_al_n F 1 dX3_readUse_96 rfl rfl ?_
    refine aw_ic F dX3_readUse_97 ic_0 ?_
    refine aw_al_n F 1 dX3_readUse_98 rfl rfl ?_
    refine gr3_1 F (lo_s rfl) (hP _ rfl) rfl w_248 (hP 10 rfl) dX3_readUse_99 ?_
    refine aw_cVi (stk := [.int (0 : Int32), .ref (sdX X 2 0)]) F T.room [] (k_X4_halfCount hP rfl rfl h) mv_X4_halfCount w_583 cf4 (lo_s rfl) (hP _ rfl) rfl (by decide) rfl rfl (Nat.le_of_ble_eq_true rfl) ⟨(Nat.le_of_ble_eq_true rfl), (Nat.le_of_ble_eq_true rfl)⟩ ⟨(Nat.le_of_ble_eq_true rfl), (Nat.le_of_ble_eq_true rfl)⟩ dX3_readUse_102 (fun r_10 G_9 h => ?_)
    refine aw_ic F dX3_readUse_105 ic_1 ?_
    refine aw_isub F dX3_readUse_106 ?_
    refine aw_ic F dX3_readUse_107 ic_m1 ?_
    refine aw_cVb (stk := []) F T.room [.int (0 : Int32), .int (r_10 - (1 : Int32)), .int (-1 : Int32)] (k_X3_takeNumber hP h) mv_X3_takeNumber w_543 cf3 (lo_s rfl) (hP _ rfl) rfl (by decide) rfl rfl (Nat.le_of_ble_eq_true rfl) ⟨(Nat.le_of_ble_eq_true rfl), (Nat.le_of_ble_eq_true rfl)⟩ ⟨(Nat.le_of_ble_eq_true rfl), (Nat.le_of_ble_eq_true rfl)⟩ dX3_readUse_108 (fun b_12 G_11 h => ?_)
    refine aw_if_ne (tgt := 116) F dX3_readUse_111 (by decide) (fun c_13 => ?_) (fun c_13 => ?_)
    · replace h := h.2 (bI_1 c_13)
      refine aw_al_n F 1 dX3_readUse_116 rfl rfl ?_
      refine gf3_2 F (lo_s rfl) (hP _ rfl) rfl w_249 dX3_readUse_117 ?_
      refine aw_top (fun y_14 ey_14 => ?_)
      replace h := h y_14 ey_14
      refine aw_is_n (lv1 := [(3, .int y_14), (2, .int y_8), (0, .ref (sdX X 2 0))]) F dX3_readUse_120 rfl (by decide) rfl ?_
      refine aw_al_n F 2 dX3_readUse_121 rfl rfl ?_
      refine aw_ic F dX3_readUse_122 ic_0 ?_
      refine aw_si F dX3_readUse_123 si_9999 ?_
      refine aw_ic F dX3_readUse_126 ic_m1 ?_
      refine aw_cVb (stk := []) F T.room [.int (0 : Int32), .int (9999 : Int32), .int (-1 : Int32)] (k_X3_takeNumber hP h) mv_X3_takeNumber w_543 cf3 (lo_s rfl) (hP _ rfl) rfl (by decide) rfl rfl (Nat.le_of_ble_eq_true rfl) ⟨(Nat.le_of_ble_eq_true rfl), (Nat.le_of_ble_eq_true rfl)⟩ ⟨(Nat.le_of_ble_eq_true rfl), (Nat.le_of_ble_eq_true rfl)⟩ dX3_readUse_127 (fun b_16 G_15 h => ?_)
      refine aw_if_ne (tgt := 135) F dX3_readUse_130 (by decide) (fun c_17 => ?_) (fun c_17 => ?_)
      · replace h := h.2 (bI_1 c_17)
        refine aw_al_n F 2 dX3_readUse_135 rfl rfl ?_
        refine gf3_2 F (lo_s rfl) (hP _ rfl) rfl w_249 dX3_readUse_136 ?_
        refine aw_top (fun y_18 ey_18 => ?_)
        replace h := h y_18 ey_18
        refine aw_is (lv1 := [(4, .int y_18), (3, .int y_14), (2, .int y_8), (0, .ref (sdX X 2 0))]) F dX3_readUse_139 (by decide) rfl ?_
        refine aw_al_n F 3 dX3_readUse_141 rfl rfl ?_
        refine aw_il F 0 dX3_readUse_142 rfl ?_
        refine aw_si F dX3_readUse_144 si_9999 ?_
        refine aw_ic F dX3_readUse_147 ic_m1 ?_
        refine aw_cVb (stk := []) F T.room [.int y_18, .int (9999 : Int32), .int (-1 : Int32)] (k_X3_takeNumber hP h) mv_X3_takeNumber w_543 cf3 (lo_s rfl) (hP _ rfl) rfl (by decide) rfl rfl (Nat.le_of_ble_eq_true rfl) ⟨(Nat.le_of_ble_eq_true rfl), (Nat.le_of_ble_eq_true rfl)⟩ ⟨(Nat.le_of_ble_eq_true rfl), (Nat.le_of_ble_eq_true rfl)⟩ dX3_readUse_148 (fun b_20 G_19 h => ?_)
        refine aw_if_ne (tgt := 156) F dX3_readUse_151 (by decide) (fun c_21 => ?_) (fun c_21 => ?_)
        · replace h := h.2 (bI_1 c_21)
          refine aw_al_n F 3 dX3_readUse_156 rfl rfl ?_
          refine gr3_1 F (lo_s rfl) (hP _ rfl) rfl w_248 (hP 10 rfl) dX3_readUse_157 ?_
          refine aw_il_n F 2 dX3_readUse_160 rfl rfl ?_
          refine aw_il_n F 1 dX3_readUse_161 rfl rfl ?_
          refine aw_il F 0 dX3_readUse_162 rfl ?_
          refine aw_al_n F 3 dX3_readUse_164 rfl rfl ?_
          refine gf3_2 F (lo_s rfl) (hP _ rfl) rfl w_249 dX3_readUse_165 ?_
          refine aw_cVi (stk := []) F T.room [.int y_8, .int y_14, .int y_18, .int (G_19 2 0 2)] (k_X4_addUse hP rfl rfl h) mv_X4_addUse w_587 cf4 (lo_s rfl) (hP _ rfl) rfl (by decide) rfl rfl (Nat.le_of_ble_eq_true rfl) ⟨(Nat.le_of_ble_eq_true rfl), (Nat.le_of_ble_eq_true rfl)⟩ ⟨(Nat.le_of_ble_eq_true rfl), (Nat.le_of_ble_eq_true rfl)⟩ dX3_readUse_168 (fun r_23 G_22 h => ?_)
          refine aw_pop F dX3_readUse_171 rfl ?_
          refine aw_ic F dX3_readUse_172 ic_1 ?_
          exact aw_zret F T true rfl (Nat.le_of_ble_eq_true rfl) (Nat.le_of_ble_eq_true rfl) ⟨_, rfl, h⟩ dX3_readUse_173
        · replace h := h.1 (bI_2 c_21)
          refine aw_ic F dX3_readUse_154 ic_0 ?_
          exact aw_zret F T false rfl (Nat.le_of_ble_eq_true rfl) (Nat.le_of_ble_eq_true rfl) ⟨_, rfl, h⟩ dX3_readUse_155
      · replace h := h.1 (bI_2 c_17)
        refine aw_ic F dX3_readUse_133 ic_0 ?_
        exact aw_zret F T false rfl (Nat.le_of_ble_eq_true rfl) (Nat.le_of_ble_eq_true rfl) ⟨_, rfl, h⟩ dX3_readUse_134
    · replace h := h.1 (bI_2 c_13)
      refine aw_ic F dX3_readUse_114 ic_0 ?_
      exact aw_zret F T false rfl (Nat.le_of_ble_eq_true rfl) (Nat.le_of_ble_eq_true rfl) ⟨_, rfl, h⟩ dX3_readUse_115
  · replace h := h.1 (bI_2 c_7)
    refine aw_ic F dX3_readUse_89 ic_0 ?_
    exact aw_zret F T false rfl (Nat.le_of_ble_eq_true rfl) (Nat.le_of_ble_eq_true rfl) ⟨_, rfl, h⟩ dX3_readUse_90
set_option maxRecDepth 100000 in
set_option maxHeartbeats 4000000 in
theorem kj_X3_readUse_40 {E : Ev} {X : Cx} {post : Bool → GH → Prop} {s0 : Int32} {G : GH} (F : Fx E X "MarkField$Reader" cX3_readUse 5) (T : RT E X 3 0 0 (some .boolean) (pB post)) (h : j_X3_readUse_40 post s0 G) : AW E X 5 40 [(0, .ref (sdX X 2 0))] [.int s0] G 0 0 := by
  have hP := F.P
  refine aw_is_n (lv1 := [(1, .int s0), (0, .ref (sdX X 2 0))]) F dX3_readUse_40 rfl (by decide) rfl ?_
  refine aw_il_n F 0 dX3_readUse_41 rfl rfl ?_
  refine aw_if_eq (tgt := 71) F dX3_readUse_42 (by decide) (fun c_4 => ?_) (fun c_4 => ?_)
  · replace h := h.1 c_4
    refine aw_sub [1] rfl ?_
    exact kj_X3_readUse_71 F T h
  · replace h := h.2 c_4
    refine aw_al_n F 1 dX3_readUse_45 rfl rfl ?_
    refine gr3_1 F (lo_s rfl) (hP _ rfl) rfl w_248 (hP 10 rfl) dX3_readUse_46 ?_
    refine gr4_6 F (lo_s rfl) (hP _ rfl) rfl w_106 (hP _ rfl) dX3_readUse_49 ?_
    refine aw_al_n F 1 dX3_readUse_52 rfl rfl ?_
    refine gr3_0 F (lo_s rfl) (hP _ rfl) rfl w_247 (hP 1 rfl) dX3_readUse_53 ?_
    refine gf6_4 F (lo_s rfl) (hP _ rfl) rfl w_49 dX3_readUse_56 ?_
    refine aw_iald F 10 7 (lo_s rfl) (hP _ rfl) rfl h.1 dX3_readUse_59 ?_
    replace h := h.2
    refine aw_bi F dX3_readUse_60 bi_12 ?_
    refine aw_icmp_lt (tgt := 71) F dX3_readUse_62 (by decide) (fun c_24 => ?_) (fun c_24 => ?_)
    · replace h := h.1 c_24
      refine aw_sub [1] rfl ?_
      exact kj_X3_readUse_71 F T h
    · replace h := h.2 c_24
      refine aw_al_n F 1 dX3_readUse_65 rfl rfl ?_
      refine aw_ic F dX3_readUse_66 ic_4 ?_
      refine aw_cVb (stk := []) F T.room [.int (4 : Int32)] (k_X3_fail hP h) mv_X3_fail w_538 cf3 (lo_s rfl) (hP _ rfl) rfl (by decide) rfl rfl (Nat.le_of_ble_eq_true rfl) ⟨(Nat.le_of_ble_eq_true rfl), (Nat.le_of_ble_eq_true rfl)⟩ ⟨(Nat.le_of_ble_eq_true rfl), (Nat.le_of_ble_eq_true rfl)⟩ dX3_readUse_67 (fun b_26 G_25 h => ?_)
      exact aw_zret F T b_26 rfl (Nat.le_of_ble_eq_true rfl) (Nat.le_of_ble_eq_true rfl) ⟨_, rfl, h⟩ dX3_readUse_70
set_option maxRecDepth 100000 in
set_option maxHeartbeats 4000000 in
theorem kj_X3_readUse_39 {E : Ev} {X : Cx} {post : Bool → GH → Prop} {G : GH} (F : Fx E X "MarkField$Reader" cX3_readUse 5) (T : RT E X 3 0 0 (some .boolean) (pB post)) (h : j_X3_readUse_39 post G) : AW E X 5 39 [(0, .ref (sdX X 2 0))] [] G 0 0 := by
  have hP := F.P
  refine aw_ic F dX3_readUse_39 ic_0 ?_
  exact kj_X3_readUse_40 F T h
set_option maxRecDepth 100000 in
set_option maxHeartbeats 4000000 in
theorem k_X3_readUse {l : Launch} {E : Ev} {P : Nat → Prop} {sd : Nat → Nat → Nat} {G : GH} {post : Bool → GH → Prop} (hPP : ∀ o, stt o = true → P o) (h : wp_X3_readUse post G) : Ct l yX3_readUse cX3_readUse 5 (some .boolean) 3 0 0 E P sd G [.ref (sd 2 0)] (pB post) := by
  refine ct_of (own := "MarkField$Reader") (by decide) rfl (Nat.le_of_ble_eq_true rfl) hPP (fun X F T el eP es => ?_)
  subst el; subst eP; subst es
  have hP := F.P
  change AW E X 5 0 [(0, .ref (sdX X 2 0))] [] G 0 0
  refine aw_al_n F 0 dX3_readUse_0 rfl rfl ?_
  refine gr3_0 F (lo_s rfl) (hP _ rfl) rfl w_247 (hP 1 rfl) dX3_readUse_1 ?_
  refine aw_cVv (stk := []) F T.room [] (k_X6_advance hP h) mv_X6_advance w_542 cf6 (lo_s rfl) (hP _ rfl) rfl (by decide) rfl rfl (Nat.le_of_ble_eq_true rfl) ⟨(Nat.le_of_ble_eq_true rfl), (Nat.le_of_ble_eq_true rfl)⟩ ⟨(Nat.le_of_ble_eq_true rfl), (Nat.le_of_ble_eq_true rfl)⟩ dX3_readUse_4 (fun G_1 h => ?_)
  refine aw_al_n F 0 dX3_readUse_7 rfl rfl ?_
  refine gr3_0 F (lo_s rfl) (hP _ rfl) rfl w_247 (hP 1 rfl) dX3_readUse_8 ?_
  refine gf6_2 F (lo_s rfl) (hP _ rfl) rfl w_43 dX3_readUse_11 ?_
  refine aw_ic F dX3_readUse_14 ic_2 ?_
  refine aw_icmp_ne (tgt := 39) F dX3_readUse_15 (by decide) (fun c_3 => ?_) (fun c_3 => ?_)
  · replace h := h.2 c_3
    exact kj_X3_readUse_39 F T h
  · replace h := h.1 c_3
    refine aw_al_n F 0 dX3_readUse_18 rfl rfl ?_
    refine gr3_0 F (lo_s rfl) (hP _ rfl) rfl w_247 (hP 1 rfl) dX3_readUse_19 ?_
    refine gf6_4 F (lo_s rfl) (hP _ rfl) rfl w_49 dX3_readUse_22 ?_
    refine aw_al_n F 0 dX3_readUse_25 rfl rfl ?_
    refine gr3_1 F (lo_s rfl) (hP _ rfl) rfl w_248 (hP 10 rfl) dX3_readUse_26 ?_
    refine gf4_1 F (lo_s rfl) (hP _ rfl) rfl w_88 dX3_readUse_29 ?_
    refine aw_icmp_ge (tgt := 39) F dX3_readUse_32 (by decide) (fun c_27 => ?_) (fun c_27 => ?_)
    · replace h := h.1 c_27
      exact kj_X3_readUse_39 F T h
    · replace h := h.2 c_27
      refine aw_ic F dX3_readUse_35 ic_1 ?_
      refine aw_go (tgt := 40) F dX3_readUse_36 (by decide) ?_
      exact kj_X3_readUse_40 F T h
-- X3_readCouple (height 3)
def wp_X3_readCouple (post : Bool → GH → Prop) (o1 k1 m1 : Nat) (x2 : Int32) (G : GH) : Prop :=
  wp_X6_advance (fun (G_1 : GH) => wp_X3_takeNumber (fun (b_4 : Bool) (G_3 : GH) => ((b_4 = false → post false G_3) ∧ (b_4 = true → (∀ y_6 : Int32, y_6 = (G_3 2 0 2) → wp_X3_takeNumber (fun (b_8 : Bool) (G_7 : GH) => ((b_8 = false → post false G_7) ∧ (b_8 = true → wp_X7_setCouple (fun (b_11 : Bool) (G_10 : GH) => post true G_10) o1 k1 m1 y_6 (G_7 2 0 2) (1 : Int32) G_7))) (0 : Int32) (x2 - (1 : Int32)) y_6 G_3)))) (0 : Int32) (x2 - (1 : Int32)) (-1 : Int32) G_1) G
set_option maxRecDepth 100000 in
set_option maxHeartbeats 4000000 in
theorem k_X3_readCouple {l : Launch} {E : Ev} {P : Nat → Prop} {sd : Nat → Nat → Nat} {G : GH} {post : Bool → GH → Prop} {o1 k1 m1 : Nat} {x2 : Int32} (hPP : ∀ o, stt o = true → P o) (hs1 : stt o1 = true) (ha1 : al (oc o1) k1 = some (0, m1)) (h : wp_X3_readCouple post o1 k1 m1 x2 G) : Ct l yX3_readCouple cX3_readCouple 4 (some .boolean) 3 0 0 E P sd G [.ref (sd 2 0), .ref (sd o1 k1), .int x2] (pB post) := by
  refine ct_of (own := "MarkField$Reader") (by decide) rfl (Nat.le_of_ble_eq_true rfl) hPP (fun X F T el eP es => ?_)
  subst el; subst eP; subst es
  have hP := F.P
  change AW E X 4 0 [(0, .ref (sdX X 2 0)), (1, .ref (sdX X o1 k1)), (2, .int x2)] [] G 0 0
  refine aw_al_n F 0 dX3_readCouple_0 rfl rfl ?_
  refine gr3_0 F (lo_s rfl) (hP _ rfl) rfl w_247 (hP 1 rfl) dX3_readCouple_1 ?_
  refine aw_cVv (stk := []) F T.room [] (k_X6_advance hP h) mv_X6_advance w_542 cf6 (lo_s rfl) (hP _ rfl) rfl (by decide) rfl rfl (Nat.le_of_ble_eq_true rfl) ⟨(Nat.le_of_ble_eq_true rfl), (Nat.le_of_ble_eq_true rfl)⟩ ⟨(Nat.le_of_ble_eq_true rfl), (Nat.le_of_ble_eq_true rfl)⟩ dX3_readCouple_4 (fun G_1 h => ?_)
  refine aw_al_n F 0 dX3_readCouple_7 rfl rfl ?_
  refine aw_ic F dX3_readCouple_8 ic_0 ?_
  refine aw_il_n F 2 dX3_readCouple_9 rfl rfl ?_
  refine aw_ic F dX3_readCouple_10 ic_1 ?_
  refine aw_isub F dX3_readCouple_11 ?_
  refine aw_ic F dX3_readCouple_12 ic_m1 ?_
  refine aw_cVb (stk := []) F T.room [.int (0 : Int32), .int (x2 - (1 : Int32)), .int (-1 : Int32)] (k_X3_takeNumber hP h) mv_X3_takeNumber w_543 cf3 (lo_s rfl) (hP _ rfl) rfl (by decide) rfl rfl (Nat.le_of_ble_eq_true rfl) ⟨(Nat.le_of_ble_eq_true rfl), (Nat.le_of_ble_eq_true rfl)⟩ ⟨(Nat.le_of_ble_eq_true rfl), (Nat.le_of_ble_eq_true rfl)⟩ dX3_readCouple_13 (fun b_4 G_3 h => ?_)
  refine aw_if_ne (tgt := 21) F dX3_readCouple_16 (by decide) (fun c_5 => ?_) (fun c_5 => ?_)
  · replace h := h.2 (bI_1 c_5)
    refine aw_al_n F 0 dX3_readCouple_21 rfl rfl ?_
    refine gf3_2 F (lo_s rfl) (hP _ rfl) rfl w_249 dX3_readCouple_22 ?_
    refine aw_top (fun y_6 ey_6 => ?_)
    replace h := h y_6 ey_6
    refine aw_is_n (lv1 := [(3, .int y_6), (0, .ref (sdX X 2 0)), (1, .ref (sdX X o1 k1)), (2, .int x2)]) F dX3_readCouple_25 rfl (by decide) rfl ?_
    refine aw_al_n F 1 dX3_readCouple_26 rfl rfl ?_
    refine aw_ic F dX3_readCouple_27 ic_0 ?_
    refine aw_il_n F 3 dX3_readCouple_28 rfl rfl ?_
    refine aw_ic F dX3_readCouple_29 ic_1 ?_
    refine aw_isub F dX3_readCouple_30 ?_
    refine aw_il_n F 0 dX3_readCouple_31 rfl rfl ?_
    refine aw_cVb (stk := []) F T.room [.int (0 : Int32), .int (x2 - (1 : Int32)), .int y_6] (k_X3_takeNumber hP h) mv_X3_takeNumber w_543 cf3 (lo_s rfl) (hP _ rfl) rfl (by decide) rfl rfl (Nat.le_of_ble_eq_true rfl) ⟨(Nat.le_of_ble_eq_true rfl), (Nat.le_of_ble_eq_true rfl)⟩ ⟨(Nat.le_of_ble_eq_true rfl), (Nat.le_of_ble_eq_true rfl)⟩ dX3_readCouple_32 (fun b_8 G_7 h => ?_)
    refine aw_if_ne (tgt := 40) F dX3_readCouple_35 (by decide) (fun c_9 => ?_) (fun c_9 => ?_)
    · replace h := h.2 (bI_1 c_9)
      refine aw_al_n F 2 dX3_readCouple_40 rfl rfl ?_
      refine aw_il_n F 0 dX3_readCouple_41 rfl rfl ?_
      refine aw_al_n F 1 dX3_readCouple_42 rfl rfl ?_
      refine gf3_2 F (lo_s rfl) (hP _ rfl) rfl w_249 dX3_readCouple_43 ?_
      refine aw_ic F dX3_readCouple_46 ic_1 ?_
      refine aw_cSNb (stk := []) F T.room [.ref (sdX X o1 k1), .int y_6, .int (G_7 2 0 2), .int (1 : Int32)] (k_X7_setCouple hP hs1 ha1 h) ms_X7_setCouple (by decide) rfl rfl (Nat.le_of_ble_eq_true rfl) ⟨(Nat.le_of_ble_eq_true rfl), (Nat.le_of_ble_eq_true rfl)⟩ ⟨(Nat.le_of_ble_eq_true rfl), (Nat.le_of_ble_eq_true rfl)⟩ dX3_readCouple_47 (fun b_11 G_10 h => ?_)
      refine aw_pop F dX3_readCouple_50 rfl ?_
      refine aw_ic F dX3_readCouple_51 ic_1 ?_
      exact aw_zret F T true rfl (Nat.le_of_ble_eq_true rfl) (Nat.le_of_ble_eq_true rfl) ⟨_, rfl, h⟩ dX3_readCouple_52
    · replace h := h.1 (bI_2 c_9)
      refine aw_ic F dX3_readCouple_38 ic_0 ?_
      exact aw_zret F T false rfl (Nat.le_of_ble_eq_true rfl) (Nat.le_of_ble_eq_true rfl) ⟨_, rfl, h⟩ dX3_readCouple_39
  · replace h := h.1 (bI_2 c_5)
    refine aw_ic F dX3_readCouple_19 ic_0 ?_
    exact aw_zret F T false rfl (Nat.le_of_ble_eq_true rfl) (Nat.le_of_ble_eq_true rfl) ⟨_, rfl, h⟩ dX3_readCouple_20
-- X3_ruleOfWord (height 8)
def wp_X3_ruleOfWord (post : Int32 → GH → Prop) (G : GH) : Prop :=
  wp_X6_isWord (fun (b_2 : Bool) (G_1 : GH) => ((b_2 = false → wp_X6_isWord (fun (b_5 : Bool) (G_4 : GH) => ((b_5 = false → wp_X6_isWord (fun (b_8 : Bool) (G_7 : GH) => ((b_8 = false → wp_X6_isWord (fun (b_11 : Bool) (G_10 : GH) => ((b_11 = false → wp_X6_isWord (fun (b_14 : Bool) (G_13 : GH) => ((b_14 = false → wp_X6_isWord (fun (b_17 : Bool) (G_16 : GH) => ((b_17 = false → post (-1 : Int32) G_16) ∧ (b_17 = true → post (5 : Int32) G_16))) 39 G_13) ∧ (b_14 = true → post (4 : Int32) G_13))) 38 G_10) ∧ (b_11 = true → post (3 : Int32) G_10))) 37 G_7) ∧ (b_8 = true → post (2 : Int32) G_7))) 36 G_4) ∧ (b_5 = true → post (1 : Int32) G_4))) 35 G_1) ∧ (b_2 = true → post (0 : Int32) G_1))) 34 G
set_option maxRecDepth 100000 in
set_option maxHeartbeats 4000000 in
theorem k_X3_ruleOfWord {l : Launch} {E : Ev} {P : Nat → Prop} {sd : Nat → Nat → Nat} {G : GH} {post : Int32 → GH → Prop} (hPP : ∀ o, stt o = true → P o) (h : wp_X3_ruleOfWord post G) : Ct l yX3_ruleOfWord cX3_ruleOfWord 1 (some .int) 8 0 0 E P sd G [.ref (sd 2 0)] (pI post) := by
  refine ct_of (own := "MarkField$Reader") (by decide) rfl (Nat.le_of_ble_eq_true rfl) hPP (fun X F T el eP es => ?_)
  subst el; subst eP; subst es
  have hP := F.P
  change AW E X 1 0 [(0, .ref (sdX X 2 0))] [] G 0 0
  refine aw_al_n F 0 dX3_ruleOfWord_0 rfl rfl ?_
  refine gr3_0 F (lo_s rfl) (hP _ rfl) rfl w_247 (hP 1 rfl) dX3_ruleOfWord_1 ?_
  refine aw_ldcS F 34 (by decide) rfl dX3_ruleOfWord_4 ?_
  refine aw_cVb (stk := []) F T.room [.ref (E.2.2.2.1 34)] (k_X6_isWord hP (by decide) h) mv_X6_isWord w_486 cf6 (lo_s rfl) (hP _ rfl) rfl (by decide) rfl rfl (Nat.le_of_ble_eq_true rfl) ⟨(Nat.le_of_ble_eq_true rfl), (Nat.le_of_ble_eq_true rfl)⟩ ⟨(Nat.le_of_ble_eq_true rfl), (Nat.le_of_ble_eq_true rfl)⟩ dX3_ruleOfWord_6 (fun b_2 G_1 h => ?_)
  refine aw_if_eq (tgt := 14) F dX3_ruleOfWord_9 (by decide) (fun c_3 => ?_) (fun c_3 => ?_)
  · replace h := h.1 (bI_2 c_3)
    refine aw_al_n F 0 dX3_ruleOfWord_14 rfl rfl ?_
    refine gr3_0 F (lo_s rfl) (hP _ rfl) rfl w_247 (hP 1 rfl) dX3_ruleOfWord_15 ?_
    refine aw_ldcS F 35 (by decide) rfl dX3_ruleOfWord_18 ?_
    refine aw_cVb (stk := []) F T.room [.ref (E.2.2.2.1 35)] (k_X6_isWord hP (by decide) h) mv_X6_isWord w_486 cf6 (lo_s rfl) (hP _ rfl) rfl (by decide) rfl rfl (Nat.le_of_ble_eq_true rfl) ⟨(Nat.le_of_ble_eq_true rfl), (Nat.le_of_ble_eq_true rfl)⟩ ⟨(Nat.le_of_ble_eq_true rfl), (Nat.le_of_ble_eq_true rfl)⟩ dX3_ruleOfWord_20 (fun b_5 G_4 h => ?_)
    refine aw_if_eq (tgt := 28) F dX3_ruleOfWord_23 (by decide) (fun c_6 => ?_) (fun c_6 => ?_)
    · replace h := h.1 (bI_2 c_6)
      refine aw_al_n F 0 dX3_ruleOfWord_28 rfl rfl ?_
      refine gr3_0 F (lo_s rfl) (hP _ rfl) rfl w_247 (hP 1 rfl) dX3_ruleOfWord_29 ?_
      refine aw_ldcS F 36 (by decide) rfl dX3_ruleOfWord_32 ?_
      refine aw_cVb (stk := []) F T.room [.ref (E.2.2.2.1 36)] (k_X6_isWord hP (by decide) h) mv_X6_isWord w_486 cf6 (lo_s rfl) (hP _ rfl) rfl (by decide) rfl rfl (Nat.le_of_ble_eq_true rfl) ⟨(Nat.le_of_ble_eq_true rfl), (Nat.le_of_ble_eq_true rfl)⟩ ⟨(Nat.le_of_ble_eq_true rfl), (Nat.le_of_ble_eq_true rfl)⟩ dX3_ruleOfWord_34 (fun b_8 G_7 h => ?_)
      refine aw_if_eq (tgt := 42) F dX3_ruleOfWord_37 (by decide) (fun c_9 => ?_) (fun c_9 => ?_)
      · replace h := h.1 (bI_2 c_9)
        refine aw_al_n F 0 dX3_ruleOfWord_42 rfl rfl ?_
        refine gr3_0 F (lo_s rfl) (hP _ rfl) rfl w_247 (hP 1 rfl) dX3_ruleOfWord_43 ?_
        refine aw_ldcS F 37 (by decide) rfl dX3_ruleOfWord_46 ?_
        refine aw_cVb (stk := []) F T.room [.ref (E.2.2.2.1 37)] (k_X6_isWord hP (by decide) h) mv_X6_isWord w_486 cf6 (lo_s rfl) (hP _ rfl) rfl (by decide) rfl rfl (Nat.le_of_ble_eq_true rfl) ⟨(Nat.le_of_ble_eq_true rfl), (Nat.le_of_ble_eq_true rfl)⟩ ⟨(Nat.le_of_ble_eq_true rfl), (Nat.le_of_ble_eq_true rfl)⟩ dX3_ruleOfWord_48 (fun b_11 G_10 h => ?_)
        refine aw_if_eq (tgt := 56) F dX3_ruleOfWord_51 (by decide) (fun c_12 => ?_) (fun c_12 => ?_)
        · replace h := h.1 (bI_2 c_12)
          refine aw_al_n F 0 dX3_ruleOfWord_56 rfl rfl ?_
          refine gr3_0 F (lo_s rfl) (hP _ rfl) rfl w_247 (hP 1 rfl) dX3_ruleOfWord_57 ?_
          refine aw_ldcS F 38 (by decide) rfl dX3_ruleOfWord_60 ?_
          refine aw_cVb (stk := []) F T.room [.ref (E.2.2.2.1 38)] (k_X6_isWord hP (by decide) h) mv_X6_isWord w_486 cf6 (lo_s rfl) (hP _ rfl) rfl (by decide) rfl rfl (Nat.le_of_ble_eq_true rfl) ⟨(Nat.le_of_ble_eq_true rfl), (Nat.le_of_ble_eq_true rfl)⟩ ⟨(Nat.le_of_ble_eq_true rfl), (Nat.le_of_ble_eq_true rfl)⟩ dX3_ruleOfWord_62 (fun b_14 G_13 h => ?_)
          refine aw_if_eq (tgt := 70) F dX3_ruleOfWord_65 (by decide) (fun c_15 => ?_) (fun c_15 => ?_)
          · replace h := h.1 (bI_2 c_15)
            refine aw_al_n F 0 dX3_ruleOfWord_70 rfl rfl ?_
            refine gr3_0 F (lo_s rfl) (hP _ rfl) rfl w_247 (hP 1 rfl) dX3_ruleOfWord_71 ?_
            refine aw_ldcS F 39 (by decide) rfl dX3_ruleOfWord_74 ?_
            refine aw_cVb (stk := []) F T.room [.ref (E.2.2.2.1 39)] (k_X6_isWord hP (by decide) h) mv_X6_isWord w_486 cf6 (lo_s rfl) (hP _ rfl) rfl (by decide) rfl rfl (Nat.le_of_ble_eq_true rfl) ⟨(Nat.le_of_ble_eq_true rfl), (Nat.le_of_ble_eq_true rfl)⟩ ⟨(Nat.le_of_ble_eq_true rfl), (Nat.le_of_ble_eq_true rfl)⟩ dX3_ruleOfWord_76 (fun b_17 G_16 h => ?_)
            refine aw_if_eq (tgt := 86) F dX3_ruleOfWord_79 (by decide) (fun c_18 => ?_) (fun c_18 => ?_)
            · replace h := h.1 (bI_2 c_18)
              refine aw_ic F dX3_ruleOfWord_86 ic_m1 ?_
              exact aw_iret F T (Nat.le_of_ble_eq_true rfl) (Nat.le_of_ble_eq_true rfl) ⟨_, rfl, h⟩ dX3_ruleOfWord_87
            · replace h := h.2 (bI_1 c_18)
              refine aw_ic F dX3_ruleOfWord_82 ic_5 ?_
              refine aw_go (tgt := 87) F dX3_ruleOfWord_83 (by decide) ?_
              exact aw_iret F T (Nat.le_of_ble_eq_true rfl) (Nat.le_of_ble_eq_true rfl) ⟨_, rfl, h⟩ dX3_ruleOfWord_87
          · replace h := h.2 (bI_1 c_15)
            refine aw_ic F dX3_ruleOfWord_68 ic_4 ?_
            exact aw_iret F T (Nat.le_of_ble_eq_true rfl) (Nat.le_of_ble_eq_true rfl) ⟨_, rfl, h⟩ dX3_ruleOfWord_69
        · replace h := h.2 (bI_1 c_12)
          refine aw_ic F dX3_ruleOfWord_54 ic_3 ?_
          exact aw_iret F T (Nat.le_of_ble_eq_true rfl) (Nat.le_of_ble_eq_true rfl) ⟨_, rfl, h⟩ dX3_ruleOfWord_55
      · replace h := h.2 (bI_1 c_9)
        refine aw_ic F dX3_ruleOfWord_40 ic_2 ?_
        exact aw_iret F T (Nat.le_of_ble_eq_true rfl) (Nat.le_of_ble_eq_true rfl) ⟨_, rfl, h⟩ dX3_ruleOfWord_41
    · replace h := h.2 (bI_1 c_6)
      refine aw_ic F dX3_ruleOfWord_26 ic_1 ?_
      exact aw_iret F T (Nat.le_of_ble_eq_true rfl) (Nat.le_of_ble_eq_true rfl) ⟨_, rfl, h⟩ dX3_ruleOfWord_27
  · replace h := h.2 (bI_1 c_3)
    refine aw_ic F dX3_ruleOfWord_12 ic_0 ?_
    exact aw_iret F T (Nat.le_of_ble_eq_true rfl) (Nat.le_of_ble_eq_true rfl) ⟨_, rfl, h⟩ dX3_ruleOfWord_13
-- X3_readLine (height 9)
def wp_X3_readLine (post : Bool → GH → Prop) (G : GH) : Prop :=
  wp_X6_isWord (fun (b_2 : Bool) (G_1 : GH) => ((b_2 = false → wp_X6_isWord (fun (b_5 : Bool) (G_4 : GH) => ((b_5 = false → wp_X6_isWord (fun (b_8 : Bool) (G_7 : GH) => ((b_8 = false → wp_X6_isWord (fun (b_11 : Bool) (G_10 : GH) => ((b_11 = false → wp_X3_ruleOfWord (fun (r_14 : Int32) (G_13 : GH) => ((r_14 = (-1 : Int32) → wp_X3_fail (fun (b_23 : Bool) (G_22 : GH) => post b_23 G_22) (1 : Int32) G_13) ∧ (¬ r_14 = (-1 : Int32) → wp_X6_advance (fun (G_16 : GH) => (vp_in r_14 (sTb 1).length ∧ wp_X3_takeNumber (fun (b_19 : Bool) (G_18 : GH) => ((b_19 = false → post false G_18) ∧ (b_19 = true → (vp_in r_14 6 ∧ (∀ G_21 : GH, G_21 = gs G_18 10 11 (upd (G_18 10 11) r_14.toNatClampNeg (G_18 2 0 2)) → post true G_21))))) (0 : Int32) ((sTb 1).getD r_14.toNatClampNeg 0) (-1 : Int32) G_16)) G_13))) G_10) ∧ (b_11 = true → wp_X3_readCouple (fun (b_25 : Bool) (G_24 : GH) => post b_25 G_24) 10 9 13 (G_10 10 0 1) G_10))) 33 G_7) ∧ (b_8 = true → wp_X3_readCouple (fun (b_27 : Bool) (G_26 : GH) => post b_27 G_26) 10 10 10 (10 : Int32) G_7))) 32 G_4) ∧ (b_5 = true → wp_X3_readUse (fun (b_29 : Bool) (G_28 : GH) => post b_29 G_28) G_4))) 31 G_1) ∧ (b_2 = true → wp_X3_readMark (fun (b_31 : Bool) (G_30 : GH) => post b_31 G_30) G_1))) 30 G
set_option maxRecDepth 100000 in
set_option maxHeartbeats 4000000 in
theorem k_X3_readLine {l : Launch} {E : Ev} {P : Nat → Prop} {sd : Nat → Nat → Nat} {G : GH} {post : Bool → GH → Prop} (hPP : ∀ o, stt o = true → P o) (h : wp_X3_readLine post G) : Ct l yX3_readLine cX3_readLine 2 (some .boolean) 9 0 0 E P sd G [.ref (sd 2 0)] (pB post) := by
  refine ct_of (own := "MarkField$Reader") (by decide) rfl (Nat.le_of_ble_eq_true rfl) hPP (fun X F T el eP es => ?_)
  subst el; subst eP; subst es
  have hP := F.P
  change AW E X 2 0 [(0, .ref (sdX X 2 0))] [] G 0 0
  refine aw_al_n F 0 dX3_readLine_0 rfl rfl ?_
  refine gr3_0 F (lo_s rfl) (hP _ rfl) rfl w_247 (hP 1 rfl) dX3_readLine_1 ?_
  refine aw_ldcS F 30 (by decide) rfl dX3_readLine_4 ?_
  refine aw_cVb (stk := []) F T.room [.ref (E.2.2.2.1 30)] (k_X6_isWord hP (by decide) h) mv_X6_isWord w_486 cf6 (lo_s rfl) (hP _ rfl) rfl (by decide) rfl rfl (Nat.le_of_ble_eq_true rfl) ⟨(Nat.le_of_ble_eq_true rfl), (Nat.le_of_ble_eq_true rfl)⟩ ⟨(Nat.le_of_ble_eq_true rfl), (Nat.le_of_ble_eq_true rfl)⟩ dX3_readLine_6 (fun b_2 G_1 h => ?_)
  refine aw_if_eq (tgt := 17) F dX3_readLine_9 (by decide) (fun c_3 => ?_) (fun c_3 => ?_)
  · replace h := h.1 (bI_2 c_3)
    refine aw_al_n F 0 dX3_readLine_17 rfl rfl ?_
    refine gr3_0 F (lo_s rfl) (hP _ rfl) rfl w_247 (hP 1 rfl) dX3_readLine_18 ?_
    refine aw_ldcS F 31 (by decide) rfl dX3_readLine_21 ?_
    refine aw_cVb (stk := []) F T.room [.ref (E.2.2.2.1 31)] (k_X6_isWord hP (by decide) h) mv_X6_isWord w_486 cf6 (lo_s rfl) (hP _ rfl) rfl (by decide) rfl rfl (Nat.le_of_ble_eq_true rfl) ⟨(Nat.le_of_ble_eq_true rfl), (Nat.le_of_ble_eq_true rfl)⟩ ⟨(Nat.le_of_ble_eq_true rfl), (Nat.le_of_ble_eq_true rfl)⟩ dX3_readLine_23 (fun b_5 G_4 h => ?_)
    refine aw_if_eq (tgt := 34) F dX3_readLine_26 (by decide) (fun c_6 => ?_) (fun c_6 => ?_)
    · replace h := h.1 (bI_2 c_6)
      refine aw_al_n F 0 dX3_readLine_34 rfl rfl ?_
      refine gr3_0 F (lo_s rfl) (hP _ rfl) rfl w_247 (hP 1 rfl) dX3_readLine_35 ?_
      refine aw_ldcS F 32 (by decide) rfl dX3_readLine_38 ?_
      refine aw_cVb (stk := []) F T.room [.ref (E.2.2.2.1 32)] (k_X6_isWord hP (by decide) h) mv_X6_isWord w_486 cf6 (lo_s rfl) (hP _ rfl) rfl (by decide) rfl rfl (Nat.le_of_ble_eq_true rfl) ⟨(Nat.le_of_ble_eq_true rfl), (Nat.le_of_ble_eq_true rfl)⟩ ⟨(Nat.le_of_ble_eq_true rfl), (Nat.le_of_ble_eq_true rfl)⟩ dX3_readLine_40 (fun b_8 G_7 h => ?_)
      refine aw_if_eq (tgt := 60) F dX3_readLine_43 (by decide) (fun c_9 => ?_) (fun c_9 => ?_)
      · replace h := h.1 (bI_2 c_9)
        refine aw_al_n F 0 dX3_readLine_60 rfl rfl ?_
        refine gr3_0 F (lo_s rfl) (hP _ rfl) rfl w_247 (hP 1 rfl) dX3_readLine_61 ?_
        refine aw_ldcS F 33 (by decide) rfl dX3_readLine_64 ?_
        refine aw_cVb (stk := []) F T.room [.ref (E.2.2.2.1 33)] (k_X6_isWord hP (by decide) h) mv_X6_isWord w_486 cf6 (lo_s rfl) (hP _ rfl) rfl (by decide) rfl rfl (Nat.le_of_ble_eq_true rfl) ⟨(Nat.le_of_ble_eq_true rfl), (Nat.le_of_ble_eq_true rfl)⟩ ⟨(Nat.le_of_ble_eq_true rfl), (Nat.le_of_ble_eq_true rfl)⟩ dX3_readLine_66 (fun b_11 G_10 h => ?_)
        refine aw_if_eq (tgt := 91) F dX3_readLine_69 (by decide) (fun c_12 => ?_) (fun c_12 => ?_)
        · replace h := h.1 (bI_2 c_12)
          refine aw_al_n F 0 dX3_readLine_91 rfl rfl ?_
          refine aw_cVi (stk := []) F T.room [] (k_X3_ruleOfWord hP h) mv_X3_ruleOfWord w_605 cf3 (lo_s rfl) (hP _ rfl) rfl (by decide) rfl rfl (Nat.le_of_ble_eq_true rfl) ⟨(Nat.le_of_ble_eq_true rfl), (Nat.le_of_ble_eq_true rfl)⟩ ⟨(Nat.le_of_ble_eq_true rfl), (Nat.le_of_ble_eq_true rfl)⟩ dX3_readLine_92 (fun r_14 G_13 h => ?_)
          refine aw_is_n (lv1 := [(1, .int r_14), (0, .ref (sdX X 2 0))]) F dX3_readLine_95 rfl (by decide) rfl ?_
          refine aw_il_n F 0 dX3_readLine_96 rfl rfl ?_
          refine aw_ic F dX3_readLine_97 ic_m1 ?_
          refine aw_icmp_ne (tgt := 107) F dX3_readLine_98 (by decide) (fun c_15 => ?_) (fun c_15 => ?_)
          · replace h := h.2 c_15
            refine aw_al_n F 1 dX3_readLine_107 rfl rfl ?_
            refine gr3_0 F (lo_s rfl) (hP _ rfl) rfl w_247 (hP 1 rfl) dX3_readLine_108 ?_
            refine aw_cVv (stk := []) F T.room [] (k_X6_advance hP h) mv_X6_advance w_542 cf6 (lo_s rfl) (hP _ rfl) rfl (by decide) rfl rfl (Nat.le_of_ble_eq_true rfl) ⟨(Nat.le_of_ble_eq_true rfl), (Nat.le_of_ble_eq_true rfl)⟩ ⟨(Nat.le_of_ble_eq_true rfl), (Nat.le_of_ble_eq_true rfl)⟩ dX3_readLine_111 (fun G_16 h => ?_)
            refine aw_al_n F 1 dX3_readLine_114 rfl rfl ?_
            refine aw_ic F dX3_readLine_115 ic_0 ?_
            refine aw_gstN F 1 (by decide) (by decide) dX3_readLine_116 ?_
            refine aw_il_n F 0 dX3_readLine_119 rfl rfl ?_
            refine aw_sald F 1 (by decide) h.1 dX3_readLine_120 ?_
            replace h := h.2
            refine aw_ic F dX3_readLine_121 ic_m1 ?_
            refine aw_cVb (stk := []) F T.room [.int (0 : Int32), .int ((sTb 1).getD r_14.toNatClampNeg 0), .int (-1 : Int32)] (k_X3_takeNumber hP h) mv_X3_takeNumber w_543 cf3 (lo_s rfl) (hP _ rfl) rfl (by decide) rfl rfl (Nat.le_of_ble_eq_true rfl) ⟨(Nat.le_of_ble_eq_true rfl), (Nat.le_of_ble_eq_true rfl)⟩ ⟨(Nat.le_of_ble_eq_true rfl), (Nat.le_of_ble_eq_true rfl)⟩ dX3_readLine_122 (fun b_19 G_18 h => ?_)
            refine aw_if_ne (tgt := 130) F dX3_readLine_125 (by decide) (fun c_20 => ?_) (fun c_20 => ?_)
            · replace h := h.2 (bI_1 c_20)
              refine aw_al_n F 1 dX3_readLine_130 rfl rfl ?_
              refine gr3_1 F (lo_s rfl) (hP _ rfl) rfl w_248 (hP 10 rfl) dX3_readLine_131 ?_
              refine gr4_10 F (lo_s rfl) (hP _ rfl) rfl w_119 (hP _ rfl) dX3_readLine_134 ?_
              refine aw_il_n F 0 dX3_readLine_137 rfl rfl ?_
              refine aw_al_n F 1 dX3_readLine_138 rfl rfl ?_
              refine gf3_2 F (lo_s rfl) (hP _ rfl) rfl w_249 dX3_readLine_139 ?_
              refine aw_iast F 10 11 (lo_s rfl) (hP _ rfl) rfl h.1 dX3_readLine_142 ?_
              refine aw_nG (fun G_21 eG_21 => ?_)
              replace h := h.2 G_21 eG_21
              refine aw_ic F dX3_readLine_143 ic_1 ?_
              exact aw_zret F T true rfl (Nat.le_of_ble_eq_true rfl) (Nat.le_of_ble_eq_true rfl) ⟨_, rfl, h⟩ dX3_readLine_144
            · replace h := h.1 (bI_2 c_20)
              refine aw_ic F dX3_readLine_128 ic_0 ?_
              exact aw_zret F T false rfl (Nat.le_of_ble_eq_true rfl) (Nat.le_of_ble_eq_true rfl) ⟨_, rfl, h⟩ dX3_readLine_129
          · replace h := h.1 c_15
            refine aw_al_n F 1 dX3_readLine_101 rfl rfl ?_
            refine aw_ic F dX3_readLine_102 ic_1 ?_
            refine aw_cVb (stk := []) F T.room [.int (1 : Int32)] (k_X3_fail hP h) mv_X3_fail w_538 cf3 (lo_s rfl) (hP _ rfl) rfl (by decide) rfl rfl (Nat.le_of_ble_eq_true rfl) ⟨(Nat.le_of_ble_eq_true rfl), (Nat.le_of_ble_eq_true rfl)⟩ ⟨(Nat.le_of_ble_eq_true rfl), (Nat.le_of_ble_eq_true rfl)⟩ dX3_readLine_103 (fun b_23 G_22 h => ?_)
            exact aw_zret F T b_23 rfl (Nat.le_of_ble_eq_true rfl) (Nat.le_of_ble_eq_true rfl) ⟨_, rfl, h⟩ dX3_readLine_106
        · replace h := h.2 (bI_1 c_12)
          refine aw_al_n F 0 dX3_readLine_72 rfl rfl ?_
          refine aw_al_n F 0 dX3_readLine_73 rfl rfl ?_
          refine gr3_1 F (lo_s rfl) (hP _ rfl) rfl w_248 (hP 10 rfl) dX3_readLine_74 ?_
          refine gr4_8 F (lo_s rfl) (hP _ rfl) rfl w_113 (hP _ rfl) dX3_readLine_77 ?_
          refine aw_al_n F 0 dX3_readLine_80 rfl rfl ?_
          refine gr3_1 F (lo_s rfl) (hP _ rfl) rfl w_248 (hP 10 rfl) dX3_readLine_81 ?_
          refine gf4_1 F (lo_s rfl) (hP _ rfl) rfl w_88 dX3_readLine_84 ?_
          refine aw_cVb (stk := []) F T.room [.ref (sdX X 10 9), .int (G_10 10 0 1)] (k_X3_readCouple hP rfl rfl h) mv_X3_readCouple w_596 cf3 (lo_s rfl) (hP _ rfl) rfl (by decide) rfl rfl (Nat.le_of_ble_eq_true rfl) ⟨(Nat.le_of_ble_eq_true rfl), (Nat.le_of_ble_eq_true rfl)⟩ ⟨(Nat.le_of_ble_eq_true rfl), (Nat.le_of_ble_eq_true rfl)⟩ dX3_readLine_87 (fun b_25 G_24 h => ?_)
          exact aw_zret F T b_25 rfl (Nat.le_of_ble_eq_true rfl) (Nat.le_of_ble_eq_true rfl) ⟨_, rfl, h⟩ dX3_readLine_90
      · replace h := h.2 (bI_1 c_9)
        refine aw_al_n F 0 dX3_readLine_46 rfl rfl ?_
        refine aw_al_n F 0 dX3_readLine_47 rfl rfl ?_
        refine gr3_1 F (lo_s rfl) (hP _ rfl) rfl w_248 (hP 10 rfl) dX3_readLine_48 ?_
        refine gr4_9 F (lo_s rfl) (hP _ rfl) rfl w_116 (hP _ rfl) dX3_readLine_51 ?_
        refine aw_bi F dX3_readLine_54 bi_10 ?_
        refine aw_cVb (stk := []) F T.room [.ref (sdX X 10 10), .int (10 : Int32)] (k_X3_readCouple hP rfl rfl h) mv_X3_readCouple w_596 cf3 (lo_s rfl) (hP _ rfl) rfl (by decide) rfl rfl (Nat.le_of_ble_eq_true rfl) ⟨(Nat.le_of_ble_eq_true rfl), (Nat.le_of_ble_eq_true rfl)⟩ ⟨(Nat.le_of_ble_eq_true rfl), (Nat.le_of_ble_eq_true rfl)⟩ dX3_readLine_56 (fun b_27 G_26 h => ?_)
        exact aw_zret F T b_27 rfl (Nat.le_of_ble_eq_true rfl) (Nat.le_of_ble_eq_true rfl) ⟨_, rfl, h⟩ dX3_readLine_59
    · replace h := h.2 (bI_1 c_6)
      refine aw_al_n F 0 dX3_readLine_29 rfl rfl ?_
      refine aw_cVb (stk := []) F T.room [] (k_X3_readUse hP h) mv_X3_readUse w_579 cf3 (lo_s rfl) (hP _ rfl) rfl (by decide) rfl rfl (Nat.le_of_ble_eq_true rfl) ⟨(Nat.le_of_ble_eq_true rfl), (Nat.le_of_ble_eq_true rfl)⟩ ⟨(Nat.le_of_ble_eq_true rfl), (Nat.le_of_ble_eq_true rfl)⟩ dX3_readLine_30 (fun b_29 G_28 h => ?_)
      exact aw_zret F T b_29 rfl (Nat.le_of_ble_eq_true rfl) (Nat.le_of_ble_eq_true rfl) ⟨_, rfl, h⟩ dX3_readLine_33
  · replace h := h.2 (bI_1 c_3)
    refine aw_al_n F 0 dX3_readLine_12 rfl rfl ?_
    refine aw_cVb (stk := []) F T.room [] (k_X3_readMark hP h) mv_X3_readMark w_560 cf3 (lo_s rfl) (hP _ rfl) rfl (by decide) rfl rfl (Nat.le_of_ble_eq_true rfl) ⟨(Nat.le_of_ble_eq_true rfl), (Nat.le_of_ble_eq_true rfl)⟩ ⟨(Nat.le_of_ble_eq_true rfl), (Nat.le_of_ble_eq_true rfl)⟩ dX3_readLine_13 (fun b_31 G_30 h => ?_)
    exact aw_zret F T b_31 rfl (Nat.le_of_ble_eq_true rfl) (Nat.le_of_ble_eq_true rfl) ⟨_, rfl, h⟩ dX3_readLine_16
-- X3_read (height 10)
def lb_X3_read_32 (post : Int32 → GH → Prop) (P32 : Int32 → Int32 → GH → Prop) (v2 v3 : Int32) (G : GH) : Prop :=
  ((v2 = 0 → post (G 2 0 3) G) ∧ (¬ v2 = 0 → (((700 : Int32) ≤ v3 → post (G 2 0 3) G) ∧ (¬ (700 : Int32) ≤ v3 → (((G 1 0 2) = 0 → post (G 2 0 3) G) ∧ (¬ (G 1 0 2) = 0 → wp_X3_readLine (fun (b_13 : Bool) (G_12 : GH) => ((b_13 = false → P32 (0 : Int32) (v3 + (1 : Int32)) G_12) ∧ (b_13 = true → wp_X3_takeSemicolon (fun (b_16 : Bool) (G_15 : GH) => ((b_16 = false → P32 (0 : Int32) (v3 + (1 : Int32)) G_15) ∧ (b_16 = true → P32 (1 : Int32) (v3 + (1 : Int32)) G_15))) G_12))) G))))))
def lp_X3_read_32 (post : Int32 → GH → Prop) (v2 v3 : Int32) (G : GH) : Prop := ∀ P32 : Int32 → Int32 → GH → Prop, (∀ (v2 v3 : Int32) (G : GH), lb_X3_read_32 post P32 v2 v3 G → P32 v2 v3 G) → P32 v2 v3 G
def wp_X3_read (post : Int32 → GH → Prop) (x1 : Int32) (G : GH) : Prop :=
  (∀ G_1 : GH, G_1 = gs G 2 0 (upd (G 2 0) 3 (0 : Int32)) → (∀ G_2 : GH, G_2 = gs G_1 2 0 (upd (G_1 2 0) 4 (-1 : Int32)) → wp_X4_clear (fun (G_3 : GH) => wp_X6_takeText (fun (G_5 : GH) => wp_X3_readLands (fun (b_8 : Bool) (G_7 : GH) => lp_X3_read_32 post (bI b_8) (0 : Int32) G_7) G_5) x1 G_3) 10 G_2))
set_option maxRecDepth 100000 in
set_option maxHeartbeats 4000000 in
theorem kl_X3_read_32 {E : Ev} {X : Cx} {post : Int32 → GH → Prop} {v2 v3 : Int32} {G : GH} (F : Fx E X "MarkField$Reader" cX3_read 4) (T : RT E X 10 0 0 (some .int) (pI post)) (h : lp_X3_read_32 post v2 v3 G) : AW E X 4 32 [(0, .ref (sdX X 2 0)), (2, .int v2), (3, .int v3)] [] G 0 0 := by
  have hP := F.P
  have K32 : ∀ (v2 v3 : Int32) (G : GH), AW E X 4 32 [(0, .ref (sdX X 2 0)), (2, .int v2), (3, .int v3)] [] G 0 0 → AW E X 4 32 [(0, .ref (sdX X 2 0)), (2, .int v2), (3, .int v3)] [] G 0 0 := fun _ _ _ q => q
  refine h (fun (v2 v3 : Int32) (G : GH) => AW E X 4 32 [(0, .ref (sdX X 2 0)), (2, .int v2), (3, .int v3)] [] G 0 0) (fun (v2 v3 : Int32) (G : GH) h => ?_)
  refine aw_il_n F 1 dX3_read_32 rfl rfl ?_
  refine aw_if_eq (tgt := 79) F dX3_read_33 (by decide) (fun c_9 => ?_) (fun c_9 => ?_)
  · replace h := h.1 c_9
    refine aw_al_n F 0 dX3_read_79 rfl rfl ?_
    refine gf3_3 F (lo_s rfl) (hP _ rfl) rfl w_250 dX3_read_80 ?_
    exact aw_iret F T (Nat.le_of_ble_eq_true rfl) (Nat.le_of_ble_eq_true rfl) ⟨_, rfl, h⟩ dX3_read_83
  · replace h := h.2 c_9
    refine aw_il_n F 2 dX3_read_36 rfl rfl ?_
    refine aw_si F dX3_read_37 si_700 ?_
    refine aw_icmp_ge (tgt := 79) F dX3_read_40 (by decide) (fun c_10 => ?_) (fun c_10 => ?_)
    · replace h := h.1 c_10
      refine aw_al_n F 0 dX3_read_79 rfl rfl ?_
      refine gf3_3 F (lo_s rfl) (hP _ rfl) rfl w_250 dX3_read_80 ?_
      exact aw_iret F T (Nat.le_of_ble_eq_true rfl) (Nat.le_of_ble_eq_true rfl) ⟨_, rfl, h⟩ dX3_read_83
    · replace h := h.2 c_10
      refine aw_al_n F 0 dX3_read_43 rfl rfl ?_
      refine gr3_0 F (lo_s rfl) (hP _ rfl) rfl w_247 (hP 1 rfl) dX3_read_44 ?_
      refine gf6_2 F (lo_s rfl) (hP _ rfl) rfl w_43 dX3_read_47 ?_
      refine aw_if_eq (tgt := 79) F dX3_read_50 (by decide) (fun c_11 => ?_) (fun c_11 => ?_)
      · replace h := h.1 c_11
        refine aw_al_n F 0 dX3_read_79 rfl rfl ?_
        refine gf3_3 F (lo_s rfl) (hP _ rfl) rfl w_250 dX3_read_80 ?_
        exact aw_iret F T (Nat.le_of_ble_eq_true rfl) (Nat.le_of_ble_eq_true rfl) ⟨_, rfl, h⟩ dX3_read_83
      · replace h := h.2 c_11
        refine aw_al_n F 0 dX3_read_53 rfl rfl ?_
        refine aw_cVb (stk := []) F T.room [] (k_X3_readLine hP h) mv_X3_readLine w_555 cf3 (lo_s rfl) (hP _ rfl) rfl (by decide) rfl rfl (Nat.le_of_ble_eq_true rfl) ⟨(Nat.le_of_ble_eq_true rfl), (Nat.le_of_ble_eq_true rfl)⟩ ⟨(Nat.le_of_ble_eq_true rfl), (Nat.le_of_ble_eq_true rfl)⟩ dX3_read_54 (fun b_13 G_12 h => ?_)
        refine aw_if_eq (tgt := 71) F dX3_read_57 (by decide) (fun c_14 => ?_) (fun c_14 => ?_)
        · replace h := h.1 (bI_2 c_14)
          refine aw_ic F dX3_read_71 ic_0 ?_
          refine aw_is_n (lv1 := [(2, .int (0 : Int32)), (0, .ref (sdX X 2 0)), (3, .int v3)]) F dX3_read_72 rfl (by decide) rfl ?_
          refine aw_inc (lv1 := [(3, .int (v3 + (1 : Int32))), (2, .int (0 : Int32)), (0, .ref (sdX X 2 0))]) F 2 dX3_read_73 rfl (in_1 _) (by decide) rfl ?_
          refine aw_go (tgt := 32) F dX3_read_76 (by decide) ?_
          refine aw_sub [2, 1, 0] rfl ?_
          exact K32 _ _ _ h
        · replace h := h.2 (bI_1 c_14)
          refine aw_al_n F 0 dX3_read_60 rfl rfl ?_
          refine aw_cVb (stk := []) F T.room [] (k_X3_takeSemicolon hP h) mv_X3_takeSemicolon w_547 cf3 (lo_s rfl) (hP _ rfl) rfl (by decide) rfl rfl (Nat.le_of_ble_eq_true rfl) ⟨(Nat.le_of_ble_eq_true rfl), (Nat.le_of_ble_eq_true rfl)⟩ ⟨(Nat.le_of_ble_eq_true rfl), (Nat.le_of_ble_eq_true rfl)⟩ dX3_read_61 (fun b_16 G_15 h => ?_)
          refine aw_if_eq (tgt := 71) F dX3_read_64 (by decide) (fun c_17 => ?_) (fun c_17 => ?_)
          · replace h := h.1 (bI_2 c_17)
            refine aw_ic F dX3_read_71 ic_0 ?_
            refine aw_is_n (lv1 := [(2, .int (0 : Int32)), (0, .ref (sdX X 2 0)), (3, .int v3)]) F dX3_read_72 rfl (by decide) rfl ?_
            refine aw_inc (lv1 := [(3, .int (v3 + (1 : Int32))), (2, .int (0 : Int32)), (0, .ref (sdX X 2 0))]) F 2 dX3_read_73 rfl (in_1 _) (by decide) rfl ?_
            refine aw_go (tgt := 32) F dX3_read_76 (by decide) ?_
            refine aw_sub [2, 1, 0] rfl ?_
            exact K32 _ _ _ h
          · replace h := h.2 (bI_1 c_17)
            refine aw_ic F dX3_read_67 ic_1 ?_
            refine aw_go (tgt := 72) F dX3_read_68 (by decide) ?_
            refine aw_is_n (lv1 := [(2, .int (1 : Int32)), (0, .ref (sdX X 2 0)), (3, .int v3)]) F dX3_read_72 rfl (by decide) rfl ?_
            refine aw_inc (lv1 := [(3, .int (v3 + (1 : Int32))), (2, .int (1 : Int32)), (0, .ref (sdX X 2 0))]) F 2 dX3_read_73 rfl (in_1 _) (by decide) rfl ?_
            refine aw_go (tgt := 32) F dX3_read_76 (by decide) ?_
            refine aw_sub [2, 1, 0] rfl ?_
            exact K32 _ _ _ h
set_option maxRecDepth 100000 in
set_option maxHeartbeats 4000000 in
theorem k_X3_read {l : Launch} {E : Ev} {P : Nat → Prop} {sd : Nat → Nat → Nat} {G : GH} {post : Int32 → GH → Prop} {x1 : Int32} (hPP : ∀ o, stt o = true → P o) (h : wp_X3_read post x1 G) : Ct l yX3_read cX3_read 4 (some .int) 10 0 0 E P sd G [.ref (sd 2 0), .int x1] (pI post) := by
  refine ct_of (own := "MarkField$Reader") (by decide) rfl (Nat.le_of_ble_eq_true rfl) hPP (fun X F T el eP es => ?_)
  subst el; subst eP; subst es
  have hP := F.P
  change AW E X 4 0 [(0, .ref (sdX X 2 0)), (1, .int x1)] [] G 0 0
  refine aw_al_n F 0 dX3_read_0 rfl rfl ?_
  refine aw_ic F dX3_read_1 ic_0 ?_
  refine pf3_3 F (lo_s rfl) (hP _ rfl) rfl w_250 dX3_read_2 (fun G_1 eG_1 => ?_)
  replace h := h G_1 eG_1
  refine aw_al_n F 0 dX3_read_5 rfl rfl ?_
  refine aw_ic F dX3_read_6 ic_m1 ?_
  refine pf3_4 F (lo_s rfl) (hP _ rfl) rfl w_251 dX3_read_7 (fun G_2 eG_2 => ?_)
  replace h := h G_2 eG_2
  refine aw_al_n F 0 dX3_read_10 rfl rfl ?_
  refine gr3_1 F (lo_s rfl) (hP _ rfl) rfl w_248 (hP 10 rfl) dX3_read_11 ?_
  refine aw_cVv (stk := []) F T.room [] (k_X4_clear hP rfl rfl h) mv_X4_clear w_453 cf4 (lo_s rfl) (hP _ rfl) rfl (by decide) rfl rfl (Nat.le_of_ble_eq_true rfl) ⟨(Nat.le_of_ble_eq_true rfl), (Nat.le_of_ble_eq_true rfl)⟩ ⟨(Nat.le_of_ble_eq_true rfl), (Nat.le_of_ble_eq_true rfl)⟩ dX3_read_14 (fun G_3 h => ?_)
  refine aw_al_n F 0 dX3_read_17 rfl rfl ?_
  refine gr3_0 F (lo_s rfl) (hP _ rfl) rfl w_247 (hP 1 rfl) dX3_read_18 ?_
  refine aw_il_n F 1 dX3_read_21 rfl rfl ?_
  refine aw_cVv (stk := []) F T.room [.int x1] (k_X6_takeText hP h) mv_X6_takeText w_460 cf6 (lo_s rfl) (hP _ rfl) rfl (by decide) rfl rfl (Nat.le_of_ble_eq_true rfl) ⟨(Nat.le_of_ble_eq_true rfl), (Nat.le_of_ble_eq_true rfl)⟩ ⟨(Nat.le_of_ble_eq_true rfl), (Nat.le_of_ble_eq_true rfl)⟩ dX3_read_22 (fun G_5 h => ?_)
  refine aw_al_n F 0 dX3_read_25 rfl rfl ?_
  refine aw_cVb (stk := []) F T.room [] (k_X3_readLands hP h) mv_X3_readLands w_481 cf3 (lo_s rfl) (hP _ rfl) rfl (by decide) rfl rfl (Nat.le_of_ble_eq_true rfl) ⟨(Nat.le_of_ble_eq_true rfl), (Nat.le_of_ble_eq_true rfl)⟩ ⟨(Nat.le_of_ble_eq_true rfl), (Nat.le_of_ble_eq_true rfl)⟩ dX3_read_26 (fun b_8 G_7 h => ?_)
  refine aw_is_n (lv1 := [(2, .int (bI b_8)), (0, .ref (sdX X 2 0)), (1, .int x1)]) F dX3_read_29 rfl (by decide) rfl ?_
  refine aw_ic F dX3_read_30 ic_0 ?_
  refine aw_is_n (lv1 := [(3, .int (0 : Int32)), (2, .int (bI b_8)), (0, .ref (sdX X 2 0)), (1, .int x1)]) F dX3_read_31 rfl (by decide) rfl ?_
  refine aw_sub [2, 1, 0] rfl ?_
  exact kl_X3_read_32 F T h
