theorem si_1023 : (Int16.ofInt (1023)).toInt32 = (1023 : Int32) := by decide
theorem bi_26 : (Int8.ofInt (26)).toInt32 = (26 : Int32) := by decide
theorem si_8172 : (Int16.ofInt (8172)).toInt32 = (8172 : Int32) := by decide
theorem w_1184 : (Jvm.Cond.fieldLink "MarkFieldModel" (197 : Nat) "MarkFieldModel" "ranked" "I") ∈ tb := tb_of (List.mem_of_getElem? (i := 1184) (by decide +kernel)) rfl
theorem w_1483 : (Jvm.Cond.code ({ cls := "MarkFieldModel", name := "priorityOf", desc := "(III)I" } : Jvm.MethodName) prog_10_method_39_code (6 : Nat) (Option.some Jvm.ClassFile.FieldType.int)) ∈ tb := tb_of (List.mem_of_getElem? (i := 1483) (by decide +kernel)) rfl
theorem w_1482 : (Jvm.Cond.instanceMethod ({ cls := "MarkFieldModel", name := "priorityOf", desc := "(III)I" } : Jvm.MethodName)) ∈ tb := tb_of (List.mem_of_getElem? (i := 1482) (by decide +kernel)) rfl
theorem ws_70 : (Jvm.Cond.selects "MarkFieldModel" ({ cls := "MarkFieldModel", name := "priorityOf", desc := "(III)I" } : Jvm.MethodName) ({ cls := "MarkFieldModel", name := "priorityOf", desc := "(III)I" } : Jvm.MethodName)) ∈ tb := tb_sel (List.mem_of_getElem? (i := 70) (by decide +kernel)) rfl
theorem w_1480 : (Jvm.Cond.methodLink "MarkFieldModel" (200 : Nat) ({ cls := "MarkFieldModel", name := "priorityOf", desc := "(III)I" } : Jvm.MethodName)) ∈ tb := tb_of (List.mem_of_getElem? (i := 1480) (by decide +kernel)) rfl
theorem w_1183 : (Jvm.Cond.fieldLink "MarkFieldModel" (67 : Nat) "MarkFieldModel" "refusedFor" "[I") ∈ tb := tb_of (List.mem_of_getElem? (i := 1183) (by decide +kernel)) rfl
theorem w_1182 : (Jvm.Cond.fieldLink "MarkFieldModel" (64 : Nat) "MarkFieldModel" "ranks" "[I") ∈ tb := tb_of (List.mem_of_getElem? (i := 1182) (by decide +kernel)) rfl
theorem w_1487 : (Jvm.Cond.code ({ cls := "MarkFieldModel", name := "isSenior", desc := "(II)Z" } : Jvm.MethodName) prog_10_method_40_code (3 : Nat) (Option.some Jvm.ClassFile.FieldType.boolean)) ∈ tb := tb_of (List.mem_of_getElem? (i := 1487) (by decide +kernel)) rfl
theorem w_1486 : (Jvm.Cond.instanceMethod ({ cls := "MarkFieldModel", name := "isSenior", desc := "(II)Z" } : Jvm.MethodName)) ∈ tb := tb_of (List.mem_of_getElem? (i := 1486) (by decide +kernel)) rfl
theorem ws_71 : (Jvm.Cond.selects "MarkFieldModel" ({ cls := "MarkFieldModel", name := "isSenior", desc := "(II)Z" } : Jvm.MethodName) ({ cls := "MarkFieldModel", name := "isSenior", desc := "(II)Z" } : Jvm.MethodName)) ∈ tb := tb_sel (List.mem_of_getElem? (i := 71) (by decide +kernel)) rfl
theorem w_1484 : (Jvm.Cond.methodLink "MarkFieldModel" (203 : Nat) ({ cls := "MarkFieldModel", name := "isSenior", desc := "(II)Z" } : Jvm.MethodName)) ∈ tb := tb_of (List.mem_of_getElem? (i := 1484) (by decide +kernel)) rfl
theorem w_1304 : (Jvm.Cond.code ({ cls := "MarkFieldModel", name := "lay", desc := "()V" } : Jvm.MethodName) prog_10_method_36_code (3 : Nat) (Option.none : Option Jvm.ClassFile.FieldType)) ∈ tb := tb_of (List.mem_of_getElem? (i := 1304) (by decide +kernel)) rfl
theorem w_1303 : (Jvm.Cond.instanceMethod ({ cls := "MarkFieldModel", name := "lay", desc := "()V" } : Jvm.MethodName)) ∈ tb := tb_of (List.mem_of_getElem? (i := 1303) (by decide +kernel)) rfl
theorem ws_38 : (Jvm.Cond.selects "MarkFieldModel" ({ cls := "MarkFieldModel", name := "lay", desc := "()V" } : Jvm.MethodName) ({ cls := "MarkFieldModel", name := "lay", desc := "()V" } : Jvm.MethodName)) ∈ tb := tb_sel (List.mem_of_getElem? (i := 38) (by decide +kernel)) rfl
theorem w_1301 : (Jvm.Cond.methodLink "MarkFieldModel" (206 : Nat) ({ cls := "MarkFieldModel", name := "lay", desc := "()V" } : Jvm.MethodName)) ∈ tb := tb_of (List.mem_of_getElem? (i := 1301) (by decide +kernel)) rfl
theorem w_1479 : (Jvm.Cond.code ({ cls := "MarkFieldModel", name := "layRanks", desc := "(II)V" } : Jvm.MethodName) prog_10_method_41_code (5 : Nat) (Option.none : Option Jvm.ClassFile.FieldType)) ∈ tb := tb_of (List.mem_of_getElem? (i := 1479) (by decide +kernel)) rfl
theorem w_1478 : (Jvm.Cond.instanceMethod ({ cls := "MarkFieldModel", name := "layRanks", desc := "(II)V" } : Jvm.MethodName)) ∈ tb := tb_of (List.mem_of_getElem? (i := 1478) (by decide +kernel)) rfl
theorem ws_69 : (Jvm.Cond.selects "MarkFieldModel" ({ cls := "MarkFieldModel", name := "layRanks", desc := "(II)V" } : Jvm.MethodName) ({ cls := "MarkFieldModel", name := "layRanks", desc := "(II)V" } : Jvm.MethodName)) ∈ tb := tb_sel (List.mem_of_getElem? (i := 69) (by decide +kernel)) rfl
theorem w_1476 : (Jvm.Cond.methodLink "MarkFieldModel" (209 : Nat) ({ cls := "MarkFieldModel", name := "layRanks", desc := "(II)V" } : Jvm.MethodName)) ∈ tb := tb_of (List.mem_of_getElem? (i := 1476) (by decide +kernel)) rfl
theorem w_1185 : (Jvm.Cond.fieldLink "MarkFieldModel" (212 : Nat) "MarkFieldModel" "holding" "I") ∈ tb := tb_of (List.mem_of_getElem? (i := 1185) (by decide +kernel)) rfl
theorem w_1186 : (Jvm.Cond.fieldLink "MarkFieldModel" (215 : Nat) "MarkFieldModel" "refusing" "I") ∈ tb := tb_of (List.mem_of_getElem? (i := 1186) (by decide +kernel)) rfl
theorem w_1475 : (Jvm.Cond.code ({ cls := "MarkFieldModel", name := "layHalf", desc := "(II)V" } : Jvm.MethodName) prog_10_method_42_code (7 : Nat) (Option.none : Option Jvm.ClassFile.FieldType)) ∈ tb := tb_of (List.mem_of_getElem? (i := 1475) (by decide +kernel)) rfl
theorem w_1474 : (Jvm.Cond.instanceMethod ({ cls := "MarkFieldModel", name := "layHalf", desc := "(II)V" } : Jvm.MethodName)) ∈ tb := tb_of (List.mem_of_getElem? (i := 1474) (by decide +kernel)) rfl
theorem ws_68 : (Jvm.Cond.selects "MarkFieldModel" ({ cls := "MarkFieldModel", name := "layHalf", desc := "(II)V" } : Jvm.MethodName) ({ cls := "MarkFieldModel", name := "layHalf", desc := "(II)V" } : Jvm.MethodName)) ∈ tb := tb_sel (List.mem_of_getElem? (i := 68) (by decide +kernel)) rfl
theorem w_1472 : (Jvm.Cond.methodLink "MarkFieldModel" (218 : Nat) ({ cls := "MarkFieldModel", name := "layHalf", desc := "(II)V" } : Jvm.MethodName)) ∈ tb := tb_of (List.mem_of_getElem? (i := 1472) (by decide +kernel)) rfl
theorem w_1410 : (Jvm.Cond.code ({ cls := "MarkFieldModel", name := "bitsOf", desc := "(I)I" } : Jvm.MethodName) prog_10_method_6_code (3 : Nat) (Option.some Jvm.ClassFile.FieldType.int)) ∈ tb := tb_of (List.mem_of_getElem? (i := 1410) (by decide +kernel)) rfl
theorem w_1409 : (Jvm.Cond.static ({ cls := "MarkFieldModel", name := "bitsOf", desc := "(I)I" } : Jvm.MethodName)) ∈ tb := tb_of (List.mem_of_getElem? (i := 1409) (by decide +kernel)) rfl
theorem w_1408 : (Jvm.Cond.methodLink "MarkFieldModel" (221 : Nat) ({ cls := "MarkFieldModel", name := "bitsOf", desc := "(I)I" } : Jvm.MethodName)) ∈ tb := tb_of (List.mem_of_getElem? (i := 1408) (by decide +kernel)) rfl
theorem w_1418 : (Jvm.Cond.code ({ cls := "MarkFieldModel", name := "fail", desc := "(I)I" } : Jvm.MethodName) prog_10_method_3_code (2 : Nat) (Option.some Jvm.ClassFile.FieldType.int)) ∈ tb := tb_of (List.mem_of_getElem? (i := 1418) (by decide +kernel)) rfl
theorem w_1417 : (Jvm.Cond.instanceMethod ({ cls := "MarkFieldModel", name := "fail", desc := "(I)I" } : Jvm.MethodName)) ∈ tb := tb_of (List.mem_of_getElem? (i := 1417) (by decide +kernel)) rfl
theorem ws_62 : (Jvm.Cond.selects "MarkFieldModel" ({ cls := "MarkFieldModel", name := "fail", desc := "(I)I" } : Jvm.MethodName) ({ cls := "MarkFieldModel", name := "fail", desc := "(I)I" } : Jvm.MethodName)) ∈ tb := tb_sel (List.mem_of_getElem? (i := 62) (by decide +kernel)) rfl
theorem w_1415 : (Jvm.Cond.methodLink "MarkFieldModel" (236 : Nat) ({ cls := "MarkFieldModel", name := "fail", desc := "(I)I" } : Jvm.MethodName)) ∈ tb := tb_of (List.mem_of_getElem? (i := 1415) (by decide +kernel)) rfl
theorem w_1407 : (Jvm.Cond.code ({ cls := "MarkFieldModel", name := "neighbours", desc := "()I" } : Jvm.MethodName) prog_10_method_46_code (3 : Nat) (Option.some Jvm.ClassFile.FieldType.int)) ∈ tb := tb_of (List.mem_of_getElem? (i := 1407) (by decide +kernel)) rfl
theorem w_1406 : (Jvm.Cond.instanceMethod ({ cls := "MarkFieldModel", name := "neighbours", desc := "()I" } : Jvm.MethodName)) ∈ tb := tb_of (List.mem_of_getElem? (i := 1406) (by decide +kernel)) rfl
theorem ws_60 : (Jvm.Cond.selects "MarkFieldModel" ({ cls := "MarkFieldModel", name := "neighbours", desc := "()I" } : Jvm.MethodName) ({ cls := "MarkFieldModel", name := "neighbours", desc := "()I" } : Jvm.MethodName)) ∈ tb := tb_sel (List.mem_of_getElem? (i := 60) (by decide +kernel)) rfl
theorem w_1404 : (Jvm.Cond.methodLink "MarkFieldModel" (224 : Nat) ({ cls := "MarkFieldModel", name := "neighbours", desc := "()I" } : Jvm.MethodName)) ∈ tb := tb_of (List.mem_of_getElem? (i := 1404) (by decide +kernel)) rfl
theorem w_1414 : (Jvm.Cond.code ({ cls := "MarkFieldModel", name := "couplesOf", desc := "(I)I" } : Jvm.MethodName) prog_10_method_45_code (4 : Nat) (Option.some Jvm.ClassFile.FieldType.int)) ∈ tb := tb_of (List.mem_of_getElem? (i := 1414) (by decide +kernel)) rfl
theorem w_1413 : (Jvm.Cond.instanceMethod ({ cls := "MarkFieldModel", name := "couplesOf", desc := "(I)I" } : Jvm.MethodName)) ∈ tb := tb_of (List.mem_of_getElem? (i := 1413) (by decide +kernel)) rfl
theorem ws_61 : (Jvm.Cond.selects "MarkFieldModel" ({ cls := "MarkFieldModel", name := "couplesOf", desc := "(I)I" } : Jvm.MethodName) ({ cls := "MarkFieldModel", name := "couplesOf", desc := "(I)I" } : Jvm.MethodName)) ∈ tb := tb_sel (List.mem_of_getElem? (i := 61) (by decide +kernel)) rfl
theorem w_1411 : (Jvm.Cond.methodLink "MarkFieldModel" (227 : Nat) ({ cls := "MarkFieldModel", name := "couplesOf", desc := "(I)I" } : Jvm.MethodName)) ∈ tb := tb_of (List.mem_of_getElem? (i := 1411) (by decide +kernel)) rfl
theorem w_1164 : (Jvm.Cond.fieldLink "MarkFieldModel" (230 : Nat) "MarkFieldModel" "acts" "I") ∈ tb := tb_of (List.mem_of_getElem? (i := 1164) (by decide +kernel)) rfl
theorem w_1192 : (Jvm.Cond.fieldLink "MarkFieldModel" (233 : Nat) "MarkFieldModel" "taped" "I") ∈ tb := tb_of (List.mem_of_getElem? (i := 1192) (by decide +kernel)) rfl
theorem w_1426 : (Jvm.Cond.code ({ cls := "MarkFieldModel", name := "isMark", desc := "(I)Z" } : Jvm.MethodName) prog_10_method_13_code (2 : Nat) (Option.some Jvm.ClassFile.FieldType.boolean)) ∈ tb := tb_of (List.mem_of_getElem? (i := 1426) (by decide +kernel)) rfl
theorem w_1425 : (Jvm.Cond.instanceMethod ({ cls := "MarkFieldModel", name := "isMark", desc := "(I)Z" } : Jvm.MethodName)) ∈ tb := tb_of (List.mem_of_getElem? (i := 1425) (by decide +kernel)) rfl
theorem ws_63 : (Jvm.Cond.selects "MarkFieldModel" ({ cls := "MarkFieldModel", name := "isMark", desc := "(I)Z" } : Jvm.MethodName) ({ cls := "MarkFieldModel", name := "isMark", desc := "(I)Z" } : Jvm.MethodName)) ∈ tb := tb_sel (List.mem_of_getElem? (i := 63) (by decide +kernel)) rfl
theorem w_1423 : (Jvm.Cond.methodLink "MarkFieldModel" (239 : Nat) ({ cls := "MarkFieldModel", name := "isMark", desc := "(I)Z" } : Jvm.MethodName)) ∈ tb := tb_of (List.mem_of_getElem? (i := 1423) (by decide +kernel)) rfl
theorem w_1445 : (Jvm.Cond.code ({ cls := "MarkFieldModel", name := "areTwoMarks", desc := "(II)Z" } : Jvm.MethodName) prog_10_method_51_code (3 : Nat) (Option.some Jvm.ClassFile.FieldType.boolean)) ∈ tb := tb_of (List.mem_of_getElem? (i := 1445) (by decide +kernel)) rfl
theorem w_1444 : (Jvm.Cond.instanceMethod ({ cls := "MarkFieldModel", name := "areTwoMarks", desc := "(II)Z" } : Jvm.MethodName)) ∈ tb := tb_of (List.mem_of_getElem? (i := 1444) (by decide +kernel)) rfl
theorem ws_64 : (Jvm.Cond.selects "MarkFieldModel" ({ cls := "MarkFieldModel", name := "areTwoMarks", desc := "(II)Z" } : Jvm.MethodName) ({ cls := "MarkFieldModel", name := "areTwoMarks", desc := "(II)Z" } : Jvm.MethodName)) ∈ tb := tb_sel (List.mem_of_getElem? (i := 64) (by decide +kernel)) rfl
theorem w_1442 : (Jvm.Cond.methodLink "MarkFieldModel" (243 : Nat) ({ cls := "MarkFieldModel", name := "areTwoMarks", desc := "(II)Z" } : Jvm.MethodName)) ∈ tb := tb_of (List.mem_of_getElem? (i := 1442) (by decide +kernel)) rfl
theorem w_1452 : (Jvm.Cond.code ({ cls := "MarkFieldModel", name := "isClass", desc := "(I)Z" } : Jvm.MethodName) prog_10_method_53_code (1 : Nat) (Option.some Jvm.ClassFile.FieldType.boolean)) ∈ tb := tb_of (List.mem_of_getElem? (i := 1452) (by decide +kernel)) rfl
theorem w_1451 : (Jvm.Cond.static ({ cls := "MarkFieldModel", name := "isClass", desc := "(I)Z" } : Jvm.MethodName)) ∈ tb := tb_of (List.mem_of_getElem? (i := 1451) (by decide +kernel)) rfl
theorem w_1450 : (Jvm.Cond.methodLink "MarkFieldModel" (246 : Nat) ({ cls := "MarkFieldModel", name := "isClass", desc := "(I)Z" } : Jvm.MethodName)) ∈ tb := tb_of (List.mem_of_getElem? (i := 1450) (by decide +kernel)) rfl
theorem w_1460 : (Jvm.Cond.code ({ cls := "MarkFieldModel", name := "isHalf", desc := "(I)Z" } : Jvm.MethodName) prog_10_method_14_code (2 : Nat) (Option.some Jvm.ClassFile.FieldType.boolean)) ∈ tb := tb_of (List.mem_of_getElem? (i := 1460) (by decide +kernel)) rfl
theorem w_1459 : (Jvm.Cond.instanceMethod ({ cls := "MarkFieldModel", name := "isHalf", desc := "(I)Z" } : Jvm.MethodName)) ∈ tb := tb_of (List.mem_of_getElem? (i := 1459) (by decide +kernel)) rfl
theorem ws_65 : (Jvm.Cond.selects "MarkFieldModel" ({ cls := "MarkFieldModel", name := "isHalf", desc := "(I)Z" } : Jvm.MethodName) ({ cls := "MarkFieldModel", name := "isHalf", desc := "(I)Z" } : Jvm.MethodName)) ∈ tb := tb_sel (List.mem_of_getElem? (i := 65) (by decide +kernel)) rfl
theorem w_1457 : (Jvm.Cond.methodLink "MarkFieldModel" (249 : Nat) ({ cls := "MarkFieldModel", name := "isHalf", desc := "(I)Z" } : Jvm.MethodName)) ∈ tb := tb_of (List.mem_of_getElem? (i := 1457) (by decide +kernel)) rfl
theorem w_1463 : (Jvm.Cond.code ({ cls := "MarkFieldModel", name := "isDay", desc := "(I)Z" } : Jvm.MethodName) prog_10_method_15_code (1 : Nat) (Option.some Jvm.ClassFile.FieldType.boolean)) ∈ tb := tb_of (List.mem_of_getElem? (i := 1463) (by decide +kernel)) rfl
theorem w_1462 : (Jvm.Cond.static ({ cls := "MarkFieldModel", name := "isDay", desc := "(I)Z" } : Jvm.MethodName)) ∈ tb := tb_of (List.mem_of_getElem? (i := 1462) (by decide +kernel)) rfl
theorem w_1461 : (Jvm.Cond.methodLink "MarkFieldModel" (252 : Nat) ({ cls := "MarkFieldModel", name := "isDay", desc := "(I)Z" } : Jvm.MethodName)) ∈ tb := tb_of (List.mem_of_getElem? (i := 1461) (by decide +kernel)) rfl
theorem w_1495 : (Jvm.Cond.code ({ cls := "MarkFieldModel", name := "halvesOf", desc := "(III)I" } : Jvm.MethodName) prog_10_method_43_code (7 : Nat) (Option.some Jvm.ClassFile.FieldType.int)) ∈ tb := tb_of (List.mem_of_getElem? (i := 1495) (by decide +kernel)) rfl
theorem w_1494 : (Jvm.Cond.instanceMethod ({ cls := "MarkFieldModel", name := "halvesOf", desc := "(III)I" } : Jvm.MethodName)) ∈ tb := tb_of (List.mem_of_getElem? (i := 1494) (by decide +kernel)) rfl
theorem ws_72 : (Jvm.Cond.selects "MarkFieldModel" ({ cls := "MarkFieldModel", name := "halvesOf", desc := "(III)I" } : Jvm.MethodName) ({ cls := "MarkFieldModel", name := "halvesOf", desc := "(III)I" } : Jvm.MethodName)) ∈ tb := tb_sel (List.mem_of_getElem? (i := 72) (by decide +kernel)) rfl
theorem w_1492 : (Jvm.Cond.methodLink "MarkFieldModel" (255 : Nat) ({ cls := "MarkFieldModel", name := "halvesOf", desc := "(III)I" } : Jvm.MethodName)) ∈ tb := tb_of (List.mem_of_getElem? (i := 1492) (by decide +kernel)) rfl
theorem w_1507 : (Jvm.Cond.code ({ cls := "MarkFieldModel", name := "holdersOf", desc := "(II)I" } : Jvm.MethodName) prog_10_method_58_code (3 : Nat) (Option.some Jvm.ClassFile.FieldType.int)) ∈ tb := tb_of (List.mem_of_getElem? (i := 1507) (by decide +kernel)) rfl
theorem w_1506 : (Jvm.Cond.instanceMethod ({ cls := "MarkFieldModel", name := "holdersOf", desc := "(II)I" } : Jvm.MethodName)) ∈ tb := tb_of (List.mem_of_getElem? (i := 1506) (by decide +kernel)) rfl
theorem ws_73 : (Jvm.Cond.selects "MarkFieldModel" ({ cls := "MarkFieldModel", name := "holdersOf", desc := "(II)I" } : Jvm.MethodName) ({ cls := "MarkFieldModel", name := "holdersOf", desc := "(II)I" } : Jvm.MethodName)) ∈ tb := tb_sel (List.mem_of_getElem? (i := 73) (by decide +kernel)) rfl
theorem w_1504 : (Jvm.Cond.methodLink "MarkFieldModel" (258 : Nat) ({ cls := "MarkFieldModel", name := "holdersOf", desc := "(II)I" } : Jvm.MethodName)) ∈ tb := tb_of (List.mem_of_getElem? (i := 1504) (by decide +kernel)) rfl
theorem w_1515 : (Jvm.Cond.code ({ cls := "MarkFieldModel", name := "refusedOf", desc := "(I)I" } : Jvm.MethodName) prog_10_method_60_code (4 : Nat) (Option.some Jvm.ClassFile.FieldType.int)) ∈ tb := tb_of (List.mem_of_getElem? (i := 1515) (by decide +kernel)) rfl
theorem w_1514 : (Jvm.Cond.instanceMethod ({ cls := "MarkFieldModel", name := "refusedOf", desc := "(I)I" } : Jvm.MethodName)) ∈ tb := tb_of (List.mem_of_getElem? (i := 1514) (by decide +kernel)) rfl
theorem ws_74 : (Jvm.Cond.selects "MarkFieldModel" ({ cls := "MarkFieldModel", name := "refusedOf", desc := "(I)I" } : Jvm.MethodName) ({ cls := "MarkFieldModel", name := "refusedOf", desc := "(I)I" } : Jvm.MethodName)) ∈ tb := tb_sel (List.mem_of_getElem? (i := 74) (by decide +kernel)) rfl
theorem w_1512 : (Jvm.Cond.methodLink "MarkFieldModel" (261 : Nat) ({ cls := "MarkFieldModel", name := "refusedOf", desc := "(I)I" } : Jvm.MethodName)) ∈ tb := tb_of (List.mem_of_getElem? (i := 1512) (by decide +kernel)) rfl
theorem w_1187 : (Jvm.Cond.fieldLink "MarkFieldModel" (70 : Nat) "MarkFieldModel" "turns" "[I") ∈ tb := tb_of (List.mem_of_getElem? (i := 1187) (by decide +kernel)) rfl
theorem w_1188 : (Jvm.Cond.fieldLink "MarkFieldModel" (264 : Nat) "MarkFieldModel" "turnMany" "I") ∈ tb := tb_of (List.mem_of_getElem? (i := 1188) (by decide +kernel)) rfl
theorem w_1527 : (Jvm.Cond.code ({ cls := "MarkFieldModel", name := "addTurn", desc := "(I)V" } : Jvm.MethodName) prog_10_method_62_code (2 : Nat) (Option.none : Option Jvm.ClassFile.FieldType)) ∈ tb := tb_of (List.mem_of_getElem? (i := 1527) (by decide +kernel)) rfl
theorem w_1526 : (Jvm.Cond.instanceMethod ({ cls := "MarkFieldModel", name := "addTurn", desc := "(I)V" } : Jvm.MethodName)) ∈ tb := tb_of (List.mem_of_getElem? (i := 1526) (by decide +kernel)) rfl
theorem ws_76 : (Jvm.Cond.selects "MarkFieldModel" ({ cls := "MarkFieldModel", name := "addTurn", desc := "(I)V" } : Jvm.MethodName) ({ cls := "MarkFieldModel", name := "addTurn", desc := "(I)V" } : Jvm.MethodName)) ∈ tb := tb_sel (List.mem_of_getElem? (i := 76) (by decide +kernel)) rfl
theorem w_1524 : (Jvm.Cond.methodLink "MarkFieldModel" (267 : Nat) ({ cls := "MarkFieldModel", name := "addTurn", desc := "(I)V" } : Jvm.MethodName)) ∈ tb := tb_of (List.mem_of_getElem? (i := 1524) (by decide +kernel)) rfl
theorem w_1523 : (Jvm.Cond.code ({ cls := "MarkFieldModel", name := "layTurns", desc := "()V" } : Jvm.MethodName) prog_10_method_63_code (3 : Nat) (Option.none : Option Jvm.ClassFile.FieldType)) ∈ tb := tb_of (List.mem_of_getElem? (i := 1523) (by decide +kernel)) rfl
theorem w_1522 : (Jvm.Cond.instanceMethod ({ cls := "MarkFieldModel", name := "layTurns", desc := "()V" } : Jvm.MethodName)) ∈ tb := tb_of (List.mem_of_getElem? (i := 1522) (by decide +kernel)) rfl
theorem ws_75 : (Jvm.Cond.selects "MarkFieldModel" ({ cls := "MarkFieldModel", name := "layTurns", desc := "()V" } : Jvm.MethodName) ({ cls := "MarkFieldModel", name := "layTurns", desc := "()V" } : Jvm.MethodName)) ∈ tb := tb_sel (List.mem_of_getElem? (i := 75) (by decide +kernel)) rfl
theorem w_1520 : (Jvm.Cond.methodLink "MarkFieldModel" (270 : Nat) ({ cls := "MarkFieldModel", name := "layTurns", desc := "()V" } : Jvm.MethodName)) ∈ tb := tb_of (List.mem_of_getElem? (i := 1520) (by decide +kernel)) rfl
theorem w_1190 : (Jvm.Cond.fieldLink "MarkFieldModel" (273 : Nat) "MarkFieldModel" "toldMany" "I") ∈ tb := tb_of (List.mem_of_getElem? (i := 1190) (by decide +kernel)) rfl
theorem w_1191 : (Jvm.Cond.fieldLink "MarkFieldModel" (76 : Nat) "MarkFieldModel" "tape" "[I") ∈ tb := tb_of (List.mem_of_getElem? (i := 1191) (by decide +kernel)) rfl
theorem w_1189 : (Jvm.Cond.fieldLink "MarkFieldModel" (73 : Nat) "MarkFieldModel" "told" "[I") ∈ tb := tb_of (List.mem_of_getElem? (i := 1189) (by decide +kernel)) rfl
theorem w_1552 : (Jvm.Cond.code ({ cls := "MarkFieldModel", name := "put", desc := "(III)V" } : Jvm.MethodName) prog_10_method_12_code (4 : Nat) (Option.none : Option Jvm.ClassFile.FieldType)) ∈ tb := tb_of (List.mem_of_getElem? (i := 1552) (by decide +kernel)) rfl
theorem w_1551 : (Jvm.Cond.instanceMethod ({ cls := "MarkFieldModel", name := "put", desc := "(III)V" } : Jvm.MethodName)) ∈ tb := tb_of (List.mem_of_getElem? (i := 1551) (by decide +kernel)) rfl
theorem ws_79 : (Jvm.Cond.selects "MarkFieldModel" ({ cls := "MarkFieldModel", name := "put", desc := "(III)V" } : Jvm.MethodName) ({ cls := "MarkFieldModel", name := "put", desc := "(III)V" } : Jvm.MethodName)) ∈ tb := tb_sel (List.mem_of_getElem? (i := 79) (by decide +kernel)) rfl
theorem w_1549 : (Jvm.Cond.methodLink "MarkFieldModel" (276 : Nat) ({ cls := "MarkFieldModel", name := "put", desc := "(III)V" } : Jvm.MethodName)) ∈ tb := tb_of (List.mem_of_getElem? (i := 1549) (by decide +kernel)) rfl
theorem w_1568 : (Jvm.Cond.code ({ cls := "MarkFieldModel", name := "allHalves", desc := "()I" } : Jvm.MethodName) prog_10_method_44_code (1 : Nat) (Option.some Jvm.ClassFile.FieldType.int)) ∈ tb := tb_of (List.mem_of_getElem? (i := 1568) (by decide +kernel)) rfl
theorem w_1567 : (Jvm.Cond.instanceMethod ({ cls := "MarkFieldModel", name := "allHalves", desc := "()I" } : Jvm.MethodName)) ∈ tb := tb_of (List.mem_of_getElem? (i := 1567) (by decide +kernel)) rfl
theorem ws_83 : (Jvm.Cond.selects "MarkFieldModel" ({ cls := "MarkFieldModel", name := "allHalves", desc := "()I" } : Jvm.MethodName) ({ cls := "MarkFieldModel", name := "allHalves", desc := "()I" } : Jvm.MethodName)) ∈ tb := tb_sel (List.mem_of_getElem? (i := 83) (by decide +kernel)) rfl
theorem w_1565 : (Jvm.Cond.methodLink "MarkFieldModel" (280 : Nat) ({ cls := "MarkFieldModel", name := "allHalves", desc := "()I" } : Jvm.MethodName)) ∈ tb := tb_of (List.mem_of_getElem? (i := 1565) (by decide +kernel)) rfl
theorem w_1564 : (Jvm.Cond.code ({ cls := "MarkFieldModel", name := "holdsAllOn", desc := "(II)Z" } : Jvm.MethodName) prog_10_method_71_code (3 : Nat) (Option.some Jvm.ClassFile.FieldType.boolean)) ∈ tb := tb_of (List.mem_of_getElem? (i := 1564) (by decide +kernel)) rfl
theorem w_1563 : (Jvm.Cond.instanceMethod ({ cls := "MarkFieldModel", name := "holdsAllOn", desc := "(II)Z" } : Jvm.MethodName)) ∈ tb := tb_of (List.mem_of_getElem? (i := 1563) (by decide +kernel)) rfl
theorem ws_82 : (Jvm.Cond.selects "MarkFieldModel" ({ cls := "MarkFieldModel", name := "holdsAllOn", desc := "(II)Z" } : Jvm.MethodName) ({ cls := "MarkFieldModel", name := "holdsAllOn", desc := "(II)Z" } : Jvm.MethodName)) ∈ tb := tb_sel (List.mem_of_getElem? (i := 82) (by decide +kernel)) rfl
theorem w_1561 : (Jvm.Cond.methodLink "MarkFieldModel" (283 : Nat) ({ cls := "MarkFieldModel", name := "holdsAllOn", desc := "(II)Z" } : Jvm.MethodName)) ∈ tb := tb_of (List.mem_of_getElem? (i := 1561) (by decide +kernel)) rfl
theorem w_1543 : (Jvm.Cond.code ({ cls := "MarkFieldModel", name := "takesName", desc := "(I)Z" } : Jvm.MethodName) prog_10_method_67_code (3 : Nat) (Option.some Jvm.ClassFile.FieldType.boolean)) ∈ tb := tb_of (List.mem_of_getElem? (i := 1543) (by decide +kernel)) rfl
theorem w_1542 : (Jvm.Cond.instanceMethod ({ cls := "MarkFieldModel", name := "takesName", desc := "(I)Z" } : Jvm.MethodName)) ∈ tb := tb_of (List.mem_of_getElem? (i := 1542) (by decide +kernel)) rfl
theorem ws_77 : (Jvm.Cond.selects "MarkFieldModel" ({ cls := "MarkFieldModel", name := "takesName", desc := "(I)Z" } : Jvm.MethodName) ({ cls := "MarkFieldModel", name := "takesName", desc := "(I)Z" } : Jvm.MethodName)) ∈ tb := tb_sel (List.mem_of_getElem? (i := 77) (by decide +kernel)) rfl
theorem w_1540 : (Jvm.Cond.methodLink "MarkFieldModel" (286 : Nat) ({ cls := "MarkFieldModel", name := "takesName", desc := "(I)Z" } : Jvm.MethodName)) ∈ tb := tb_of (List.mem_of_getElem? (i := 1540) (by decide +kernel)) rfl
theorem w_1548 : (Jvm.Cond.code ({ cls := "MarkFieldModel", name := "adds", desc := "(II)I" } : Jvm.MethodName) prog_10_method_68_code (5 : Nat) (Option.some Jvm.ClassFile.FieldType.int)) ∈ tb := tb_of (List.mem_of_getElem? (i := 1548) (by decide +kernel)) rfl
theorem w_1547 : (Jvm.Cond.instanceMethod ({ cls := "MarkFieldModel", name := "adds", desc := "(II)I" } : Jvm.MethodName)) ∈ tb := tb_of (List.mem_of_getElem? (i := 1547) (by decide +kernel)) rfl
theorem ws_78 : (Jvm.Cond.selects "MarkFieldModel" ({ cls := "MarkFieldModel", name := "adds", desc := "(II)I" } : Jvm.MethodName) ({ cls := "MarkFieldModel", name := "adds", desc := "(II)I" } : Jvm.MethodName)) ∈ tb := tb_sel (List.mem_of_getElem? (i := 78) (by decide +kernel)) rfl
theorem w_1545 : (Jvm.Cond.methodLink "MarkFieldModel" (290 : Nat) ({ cls := "MarkFieldModel", name := "adds", desc := "(II)I" } : Jvm.MethodName)) ∈ tb := tb_of (List.mem_of_getElem? (i := 1545) (by decide +kernel)) rfl
theorem w_1560 : (Jvm.Cond.code ({ cls := "MarkFieldModel", name := "firstFree", desc := "(II)I" } : Jvm.MethodName) prog_10_method_72_code (5 : Nat) (Option.some Jvm.ClassFile.FieldType.int)) ∈ tb := tb_of (List.mem_of_getElem? (i := 1560) (by decide +kernel)) rfl
theorem w_1559 : (Jvm.Cond.instanceMethod ({ cls := "MarkFieldModel", name := "firstFree", desc := "(II)I" } : Jvm.MethodName)) ∈ tb := tb_of (List.mem_of_getElem? (i := 1559) (by decide +kernel)) rfl
theorem ws_81 : (Jvm.Cond.selects "MarkFieldModel" ({ cls := "MarkFieldModel", name := "firstFree", desc := "(II)I" } : Jvm.MethodName) ({ cls := "MarkFieldModel", name := "firstFree", desc := "(II)I" } : Jvm.MethodName)) ∈ tb := tb_sel (List.mem_of_getElem? (i := 81) (by decide +kernel)) rfl
theorem w_1557 : (Jvm.Cond.methodLink "MarkFieldModel" (296 : Nat) ({ cls := "MarkFieldModel", name := "firstFree", desc := "(II)I" } : Jvm.MethodName)) ∈ tb := tb_of (List.mem_of_getElem? (i := 1557) (by decide +kernel)) rfl
theorem w_1572 : (Jvm.Cond.code ({ cls := "MarkFieldModel", name := "goesAway", desc := "()V" } : Jvm.MethodName) prog_10_method_69_code (1 : Nat) (Option.none : Option Jvm.ClassFile.FieldType)) ∈ tb := tb_of (List.mem_of_getElem? (i := 1572) (by decide +kernel)) rfl
theorem w_1571 : (Jvm.Cond.instanceMethod ({ cls := "MarkFieldModel", name := "goesAway", desc := "()V" } : Jvm.MethodName)) ∈ tb := tb_of (List.mem_of_getElem? (i := 1571) (by decide +kernel)) rfl
theorem ws_84 : (Jvm.Cond.selects "MarkFieldModel" ({ cls := "MarkFieldModel", name := "goesAway", desc := "()V" } : Jvm.MethodName) ({ cls := "MarkFieldModel", name := "goesAway", desc := "()V" } : Jvm.MethodName)) ∈ tb := tb_sel (List.mem_of_getElem? (i := 84) (by decide +kernel)) rfl
theorem w_1569 : (Jvm.Cond.methodLink "MarkFieldModel" (299 : Nat) ({ cls := "MarkFieldModel", name := "goesAway", desc := "()V" } : Jvm.MethodName)) ∈ tb := tb_of (List.mem_of_getElem? (i := 1569) (by decide +kernel)) rfl
theorem w_1556 : (Jvm.Cond.code ({ cls := "MarkFieldModel", name := "leastReason", desc := "(II)I" } : Jvm.MethodName) prog_10_method_70_code (5 : Nat) (Option.some Jvm.ClassFile.FieldType.int)) ∈ tb := tb_of (List.mem_of_getElem? (i := 1556) (by decide +kernel)) rfl
theorem w_1555 : (Jvm.Cond.instanceMethod ({ cls := "MarkFieldModel", name := "leastReason", desc := "(II)I" } : Jvm.MethodName)) ∈ tb := tb_of (List.mem_of_getElem? (i := 1555) (by decide +kernel)) rfl
theorem ws_80 : (Jvm.Cond.selects "MarkFieldModel" ({ cls := "MarkFieldModel", name := "leastReason", desc := "(II)I" } : Jvm.MethodName) ({ cls := "MarkFieldModel", name := "leastReason", desc := "(II)I" } : Jvm.MethodName)) ∈ tb := tb_sel (List.mem_of_getElem? (i := 80) (by decide +kernel)) rfl
theorem w_1553 : (Jvm.Cond.methodLink "MarkFieldModel" (293 : Nat) ({ cls := "MarkFieldModel", name := "leastReason", desc := "(II)I" } : Jvm.MethodName)) ∈ tb := tb_of (List.mem_of_getElem? (i := 1553) (by decide +kernel)) rfl
theorem w_1544 : (Jvm.Cond.constant "MarkFieldModel" (289 : Nat) (-1000000000 : Int32)) ∈ tb := tb_of (List.mem_of_getElem? (i := 1544) (by decide +kernel)) rfl
theorem w_1584 : (Jvm.Cond.code ({ cls := "MarkFieldModel", name := "holdsWhereRight", desc := "(II)Z" } : Jvm.MethodName) prog_10_method_75_code (3 : Nat) (Option.some Jvm.ClassFile.FieldType.boolean)) ∈ tb := tb_of (List.mem_of_getElem? (i := 1584) (by decide +kernel)) rfl
theorem w_1583 : (Jvm.Cond.instanceMethod ({ cls := "MarkFieldModel", name := "holdsWhereRight", desc := "(II)Z" } : Jvm.MethodName)) ∈ tb := tb_of (List.mem_of_getElem? (i := 1583) (by decide +kernel)) rfl
theorem ws_85 : (Jvm.Cond.selects "MarkFieldModel" ({ cls := "MarkFieldModel", name := "holdsWhereRight", desc := "(II)Z" } : Jvm.MethodName) ({ cls := "MarkFieldModel", name := "holdsWhereRight", desc := "(II)Z" } : Jvm.MethodName)) ∈ tb := tb_sel (List.mem_of_getElem? (i := 85) (by decide +kernel)) rfl
theorem w_1581 : (Jvm.Cond.methodLink "MarkFieldModel" (302 : Nat) ({ cls := "MarkFieldModel", name := "holdsWhereRight", desc := "(II)Z" } : Jvm.MethodName)) ∈ tb := tb_of (List.mem_of_getElem? (i := 1581) (by decide +kernel)) rfl
theorem w_1163 : (Jvm.Cond.fieldLink "MarkFieldModel" (19 : Nat) "MarkFieldModel" "past" "[I") ∈ tb := tb_of (List.mem_of_getElem? (i := 1163) (by decide +kernel)) rfl
theorem w_1596 : (Jvm.Cond.code ({ cls := "MarkFieldModel", name := "keep", desc := "()V" } : Jvm.MethodName) prog_10_method_77_code (2 : Nat) (Option.none : Option Jvm.ClassFile.FieldType)) ∈ tb := tb_of (List.mem_of_getElem? (i := 1596) (by decide +kernel)) rfl
theorem w_1595 : (Jvm.Cond.instanceMethod ({ cls := "MarkFieldModel", name := "keep", desc := "()V" } : Jvm.MethodName)) ∈ tb := tb_of (List.mem_of_getElem? (i := 1595) (by decide +kernel)) rfl
theorem ws_86 : (Jvm.Cond.selects "MarkFieldModel" ({ cls := "MarkFieldModel", name := "keep", desc := "()V" } : Jvm.MethodName) ({ cls := "MarkFieldModel", name := "keep", desc := "()V" } : Jvm.MethodName)) ∈ tb := tb_sel (List.mem_of_getElem? (i := 86) (by decide +kernel)) rfl
theorem w_1593 : (Jvm.Cond.methodLink "MarkFieldModel" (305 : Nat) ({ cls := "MarkFieldModel", name := "keep", desc := "()V" } : Jvm.MethodName)) ∈ tb := tb_of (List.mem_of_getElem? (i := 1593) (by decide +kernel)) rfl
theorem mv_X8_priorityOf : MV yX8_priorityOf cX8_priorityOf 6 (some .int) 3 := ⟨⟨w_1483, w_10, by decide, by decide, by decide +kernel⟩, w_1482, ws_70⟩
theorem mv_X8_isSenior : MV yX8_isSenior cX8_isSenior 3 (some .boolean) 2 := ⟨⟨w_1487, w_10, by decide, by decide, by decide +kernel⟩, w_1486, ws_71⟩
theorem mv_X8_lay : MV yX8_lay cX8_lay 3 none 0 := ⟨⟨w_1304, w_10, by decide, by decide, by decide +kernel⟩, w_1303, ws_38⟩
theorem mv_X8_layRanks : MV yX8_layRanks cX8_layRanks 5 none 2 := ⟨⟨w_1479, w_10, by decide, by decide, by decide +kernel⟩, w_1478, ws_69⟩
theorem mv_X8_layHalf : MV yX8_layHalf cX8_layHalf 7 none 2 := ⟨⟨w_1475, w_10, by decide, by decide, by decide +kernel⟩, w_1474, ws_68⟩
theorem ms_X8_bitsOf : MS yX8_bitsOf cX8_bitsOf 3 (some .int) 1 := ⟨⟨w_1410, w_10, by decide, by decide, by decide +kernel⟩, w_1409⟩
theorem mv_X8_fail : MV yX8_fail cX8_fail 2 (some .int) 1 := ⟨⟨w_1418, w_10, by decide, by decide, by decide +kernel⟩, w_1417, ws_62⟩
theorem mv_X8_neighbours : MV yX8_neighbours cX8_neighbours 3 (some .int) 0 := ⟨⟨w_1407, w_10, by decide, by decide, by decide +kernel⟩, w_1406, ws_60⟩
theorem mv_X8_couplesOf : MV yX8_couplesOf cX8_couplesOf 4 (some .int) 1 := ⟨⟨w_1414, w_10, by decide, by decide, by decide +kernel⟩, w_1413, ws_61⟩
theorem mv_X8_isMark : MV yX8_isMark cX8_isMark 2 (some .boolean) 1 := ⟨⟨w_1426, w_10, by decide, by decide, by decide +kernel⟩, w_1425, ws_63⟩
theorem mv_X8_areTwoMarks : MV yX8_areTwoMarks cX8_areTwoMarks 3 (some .boolean) 2 := ⟨⟨w_1445, w_10, by decide, by decide, by decide +kernel⟩, w_1444, ws_64⟩
theorem ms_X8_isClass : MS yX8_isClass cX8_isClass 1 (some .boolean) 1 := ⟨⟨w_1452, w_10, by decide, by decide, by decide +kernel⟩, w_1451⟩
theorem mv_X8_isHalf : MV yX8_isHalf cX8_isHalf 2 (some .boolean) 1 := ⟨⟨w_1460, w_10, by decide, by decide, by decide +kernel⟩, w_1459, ws_65⟩
theorem ms_X8_isDay : MS yX8_isDay cX8_isDay 1 (some .boolean) 1 := ⟨⟨w_1463, w_10, by decide, by decide, by decide +kernel⟩, w_1462⟩
theorem mv_X8_halvesOf : MV yX8_halvesOf cX8_halvesOf 7 (some .int) 3 := ⟨⟨w_1495, w_10, by decide, by decide, by decide +kernel⟩, w_1494, ws_72⟩
theorem mv_X8_holdersOf : MV yX8_holdersOf cX8_holdersOf 3 (some .int) 2 := ⟨⟨w_1507, w_10, by decide, by decide, by decide +kernel⟩, w_1506, ws_73⟩
theorem mv_X8_refusedOf : MV yX8_refusedOf cX8_refusedOf 4 (some .int) 1 := ⟨⟨w_1515, w_10, by decide, by decide, by decide +kernel⟩, w_1514, ws_74⟩
theorem mv_X8_addTurn : MV yX8_addTurn cX8_addTurn 2 none 1 := ⟨⟨w_1527, w_10, by decide, by decide, by decide +kernel⟩, w_1526, ws_76⟩
theorem mv_X8_layTurns : MV yX8_layTurns cX8_layTurns 3 none 0 := ⟨⟨w_1523, w_10, by decide, by decide, by decide +kernel⟩, w_1522, ws_75⟩
theorem mv_X8_put : MV yX8_put cX8_put 4 none 3 := ⟨⟨w_1552, w_10, by decide, by decide, by decide +kernel⟩, w_1551, ws_79⟩
theorem mv_X8_allHalves : MV yX8_allHalves cX8_allHalves 1 (some .int) 0 := ⟨⟨w_1568, w_10, by decide, by decide, by decide +kernel⟩, w_1567, ws_83⟩
theorem mv_X8_holdsAllOn : MV yX8_holdsAllOn cX8_holdsAllOn 3 (some .boolean) 2 := ⟨⟨w_1564, w_10, by decide, by decide, by decide +kernel⟩, w_1563, ws_82⟩
theorem mv_X8_takesName : MV yX8_takesName cX8_takesName 3 (some .boolean) 1 := ⟨⟨w_1543, w_10, by decide, by decide, by decide +kernel⟩, w_1542, ws_77⟩
theorem mv_X8_adds : MV yX8_adds cX8_adds 5 (some .int) 2 := ⟨⟨w_1548, w_10, by decide, by decide, by decide +kernel⟩, w_1547, ws_78⟩
theorem mv_X8_firstFree : MV yX8_firstFree cX8_firstFree 5 (some .int) 2 := ⟨⟨w_1560, w_10, by decide, by decide, by decide +kernel⟩, w_1559, ws_81⟩
theorem mv_X8_goesAway : MV yX8_goesAway cX8_goesAway 1 none 0 := ⟨⟨w_1572, w_10, by decide, by decide, by decide +kernel⟩, w_1571, ws_84⟩
theorem mv_X8_leastReason : MV yX8_leastReason cX8_leastReason 5 (some .int) 2 := ⟨⟨w_1556, w_10, by decide, by decide, by decide +kernel⟩, w_1555, ws_80⟩
theorem mv_X8_holdsWhereRight : MV yX8_holdsWhereRight cX8_holdsWhereRight 3 (some .boolean) 2 := ⟨⟨w_1584, w_10, by decide, by decide, by decide +kernel⟩, w_1583, ws_85⟩
theorem mv_X8_keep : MV yX8_keep cX8_keep 2 none 0 := ⟨⟨w_1596, w_10, by decide, by decide, by decide +kernel⟩, w_1595, ws_86⟩
-- X8_layRanks (height 4)
def j_X8_layRanks_98 (post : GH → Prop) (P7 : Int32 → Int32 → Int32 → GH → Prop) (v1 v2 v3 v4 : Int32) (G : GH) : Prop :=
  (vp_in v4 13 ∧ (∀ G_12 : GH, G_12 = gs G 24 23 (upd (G 24 23) v4.toNatClampNeg v3) → (∀ G_13 : GH, G_13 = gs G_12 24 0 (upd (G_12 24 0) 24 ((G_12 24 0 24) + (1 : Int32))) → P7 v1 v2 (v3 + (1 : Int32)) G_13)))
def lb_X8_layRanks_54 (post : GH → Prop) (P7 : Int32 → Int32 → Int32 → GH → Prop) (P54 : Int32 → Int32 → Int32 → Int32 → GH → Prop) (v1 v2 v3 v4 : Int32) (G : GH) : Prop :=
  ((v4 ≤ 0 → j_X8_layRanks_98 post P7 v1 v2 v3 v4 G) ∧ (¬ v4 ≤ 0 → (vp_in (v4 - (1 : Int32)) 13 ∧ wp_X8_isSenior (fun (b_15 : Bool) (G_14 : GH) => ((b_15 = false → j_X8_layRanks_98 post P7 v1 v2 v3 v4 G_14) ∧ (b_15 = true → (vp_in (v4 - (1 : Int32)) 13 ∧ (vp_in v4 13 ∧ (∀ G_17 : GH, G_17 = gs G_14 24 23 (upd (G_14 24 23) v4.toNatClampNeg (G_14 24 23 (v4 - (1 : Int32)).toNatClampNeg)) → P54 v1 v2 v3 (v4 + (-1 : Int32)) G_17)))))) v3 (G 24 23 (v4 - (1 : Int32)).toNatClampNeg) G)))
def lp_X8_layRanks_54 (post : GH → Prop) (P7 : Int32 → Int32 → Int32 → GH → Prop) (v1 v2 v3 v4 : Int32) (G : GH) : Prop := ∀ P54 : Int32 → Int32 → Int32 → Int32 → GH → Prop, (∀ (v1 v2 v3 v4 : Int32) (G : GH), lb_X8_layRanks_54 post P7 P54 v1 v2 v3 v4 G → P54 v1 v2 v3 v4 G) → P54 v1 v2 v3 v4 G
def lb_X8_layRanks_7 (post : GH → Prop) (P7 : Int32 → Int32 → Int32 → GH → Prop) (v1 v2 v3 : Int32) (G : GH) : Prop :=
  wp_X8_marks (fun (r_3 : Int32) (G_2 : GH) => ((r_3 ≤ v3 → post G_2) ∧ (¬ r_3 ≤ v3 → wp_X8_priorityOf (fun (r_6 : Int32) (G_5 : GH) => (vp_in v3 13 ∧ (∀ G_7 : GH, G_7 = gs G_5 24 22 (upd (G_5 24 22) v3.toNatClampNeg r_6) → (vp_in v3 13 ∧ (∀ G_8 : GH, G_8 = gs G_7 24 24 (upd (G_7 24 24) v3.toNatClampNeg (-1 : Int32)) → (vp_in v3 13 ∧ (((G_8 24 22 v3.toNatClampNeg) = (-1 : Int32) → P7 v1 v2 (v3 + (1 : Int32)) G_8) ∧ (¬ (G_8 24 22 v3.toNatClampNeg) = (-1 : Int32) → (∀ y_10 : Int32, y_10 = (G_8 24 0 24) → lp_X8_layRanks_54 post P7 v1 v2 v3 y_10 G_8))))))))) v3 v1 v2 G_2))) G
def lp_X8_layRanks_7 (post : GH → Prop) (v1 v2 v3 : Int32) (G : GH) : Prop := ∀ P7 : Int32 → Int32 → Int32 → GH → Prop, (∀ (v1 v2 v3 : Int32) (G : GH), lb_X8_layRanks_7 post P7 v1 v2 v3 G → P7 v1 v2 v3 G) → P7 v1 v2 v3 G
def wp_X8_layRanks (post : GH → Prop) (x1 x2 : Int32) (G : GH) : Prop :=
  (∀ G_1 : GH, G_1 = gs G 24 0 (upd (G 24 0) 24 (0 : Int32)) → lp_X8_layRanks_7 post x1 x2 (0 : Int32) G_1)
set_option maxRecDepth 100000 in
set_option maxHeartbeats 4000000 in
theorem kj_X8_layRanks_98 {E : Ev} {X : Cx} {post : GH → Prop} {P7 : Int32 → Int32 → Int32 → GH → Prop} {v1 v2 v3 v4 : Int32} {G : GH} (F : Fx E X "MarkFieldModel" cX8_layRanks 5) (T : RT E X 4 0 0 none (pV post)) (K7 : ∀ (v1 v2 v3 : Int32) (G : GH), P7 v1 v2 v3 G → AW E X 5 7 [(0, .ref (sdX X 24 0)), (1, .int v1), (2, .int v2), (3, .int v3)] [] G 0 0) (h : j_X8_layRanks_98 post P7 v1 v2 v3 v4 G) : AW E X 5 98 [(0, .ref (sdX X 24 0)), (1, .int v1), (2, .int v2), (3, .int v3), (4, .int v4)] [] G 0 0 := by
  have hP := F.P
  refine aw_al_n F 0 dX8_layRanks_98 rfl rfl ?_
  refine gr8_22 F (lo_s rfl) (hP _ rfl) rfl w_1182 (hP _ rfl) dX8_layRanks_99 ?_
  refine aw_il F 4 dX8_layRanks_102 rfl ?_
  refine aw_il_n F 3 dX8_layRanks_104 rfl rfl ?_
  refine aw_iast F 24 23 (lo_s rfl) (hP _ rfl) rfl h.1 dX8_layRanks_105 ?_
  refine aw_nG (fun G_12 eG_12 => ?_)
  replace h := h.2 G_12 eG_12
  refine aw_al_n F 0 dX8_layRanks_106 rfl rfl ?_
  refine aw_dup F dX8_layRanks_107 rfl ?_
  refine gf8_24 F (lo_s rfl) (hP _ rfl) rfl w_1184 dX8_layRanks_108 ?_
  refine aw_ic F dX8_layRanks_111 ic_1 ?_
  refine aw_iadd F dX8_layRanks_112 ?_
  refine pf8_24 F (lo_s rfl) (hP _ rfl) rfl w_1184 dX8_layRanks_113 (fun G_13 eG_13 => ?_)
  replace h := h G_13 eG_13
  refine aw_inc (lv1 := [(3, .int (v3 + (1 : Int32))), (0, .ref (sdX X 24 0)), (1, .int v1), (2, .int v2), (4, .int v4)]) F 3 dX8_layRanks_116 rfl (in_1 _) (by decide) rfl ?_
  refine aw_go (tgt := 7) F dX8_layRanks_119 (by decide) ?_
  refine aw_sub [1, 2, 3, 0] rfl ?_
  exact K7 _ _ _ _ h
set_option maxRecDepth 100000 in
set_option maxHeartbeats 4000000 in
theorem kl_X8_layRanks_54 {E : Ev} {X : Cx} {post : GH → Prop} {P7 : Int32 → Int32 → Int32 → GH → Prop} {v1 v2 v3 v4 : Int32} {G : GH} (F : Fx E X "MarkFieldModel" cX8_layRanks 5) (T : RT E X 4 0 0 none (pV post)) (K7 : ∀ (v1 v2 v3 : Int32) (G : GH), P7 v1 v2 v3 G → AW E X 5 7 [(0, .ref (sdX X 24 0)), (1, .int v1), (2, .int v2), (3, .int v3)] [] G 0 0) (h : lp_X8_layRanks_54 post P7 v1 v2 v3 v4 G) : AW E X 5 54 [(0, .ref (sdX X 24 0)), (1, .int v1), (2, .int v2), (3, .int v3), (4, .int v4)] [] G 0 0 := by
  have hP := F.P
  have K54 : ∀ (v1 v2 v3 v4 : Int32) (G : GH), AW E X 5 54 [(0, .ref (sdX X 24 0)), (1, .int v1), (2, .int v2), (3, .int v3), (4, .int v4)] [] G 0 0 → AW E X 5 54 [(0, .ref (sdX X 24 0)), (1, .int v1), (2, .int v2), (3, .int v3), (4, .int v4)] [] G 0 0 := fun _ _ _ _ _ q => q
  refine h (fun (v1 v2 v3 v4 : Int32) (G : GH) => AW E X 5 54 [(0, .ref (sdX X 24 0)), (1, .int v1), (2, .int v2), (3, .int v3), (4, .int v4)] [] G 0 0) (fun (v1 v2 v3 v4 : Int32) (G : GH) h => ?_)
  refine aw_il F 4 dX8_layRanks_54 rfl ?_
  refine aw_if_le (tgt := 98) F dX8_layRanks_56 (by decide) (fun c_11 => ?_) (fun c_11 => ?_)
  · replace h := h.1 c_11
    exact kj_X8_layRanks_98 F T K7 h
  · replace h := h.2 c_11
    refine aw_al_n F 0 dX8_layRanks_59 rfl rfl ?_
    refine aw_il_n F 3 dX8_layRanks_60 rfl rfl ?_
    refine aw_al_n F 0 dX8_layRanks_61 rfl rfl ?_
    refine gr8_22 F (lo_s rfl) (hP _ rfl) rfl w_1182 (hP _ rfl) dX8_layRanks_62 ?_
    refine aw_il F 4 dX8_layRanks_65 rfl ?_
    refine aw_ic F dX8_layRanks_67 ic_1 ?_
    refine aw_isub F dX8_layRanks_68 ?_
    refine aw_iald F 24 23 (lo_s rfl) (hP _ rfl) rfl h.1 dX8_layRanks_69 ?_
    replace h := h.2
    refine aw_cVb (stk := []) F T.room [.int v3, .int (G 24 23 (v4 - (1 : Int32)).toNatClampNeg)] (k_X8_isSenior hP h) mv_X8_isSenior w_1484 cf8 (lo_s rfl) (hP _ rfl) rfl (by decide) rfl rfl (Nat.le_of_ble_eq_true rfl) ⟨(Nat.le_of_ble_eq_true rfl), (Nat.le_of_ble_eq_true rfl)⟩ ⟨(Nat.le_of_ble_eq_true rfl), (Nat.le_of_ble_eq_true rfl)⟩ dX8_layRanks_70 (fun b_15 G_14 h => ?_)
    refine aw_if_eq (tgt := 98) F dX8_layRanks_73 (by decide) (fun c_16 => ?_) (fun c_16 => ?_)
    · replace h := h.1 (bI_2 c_16)
      exact kj_X8_layRanks_98 F T K7 h
    · replace h := h.2 (bI_1 c_16)
      refine aw_al_n F 0 dX8_layRanks_76 rfl rfl ?_
      refine gr8_22 F (lo_s rfl) (hP _ rfl) rfl w_1182 (hP _ rfl) dX8_layRanks_77 ?_
      refine aw_il F 4 dX8_layRanks_80 rfl ?_
      refine aw_al_n F 0 dX8_layRanks_82 rfl rfl ?_
      refine gr8_22 F (lo_s rfl) (hP _ rfl) rfl w_1182 (hP _ rfl) dX8_layRanks_83 ?_
      refine aw_il F 4 dX8_layRanks_86 rfl ?_
      refine aw_ic F dX8_layRanks_88 ic_1 ?_
      refine aw_isub F dX8_layRanks_89 ?_
      refine aw_iald F 24 23 (lo_s rfl) (hP _ rfl) rfl h.1 dX8_layRanks_90 ?_
      replace h := h.2
      refine aw_iast F 24 23 (lo_s rfl) (hP _ rfl) rfl h.1 dX8_layRanks_91 ?_
      refine aw_nG (fun G_17 eG_17 => ?_)
      replace h := h.2 G_17 eG_17
      refine aw_inc (lv1 := [(4, .int (v4 + (-1 : Int32))), (0, .ref (sdX X 24 0)), (1, .int v1), (2, .int v2), (3, .int v3)]) F 4 dX8_layRanks_92 rfl (in_m1 _) (by decide) rfl ?_
      refine aw_go (tgt := 54) F dX8_layRanks_95 (by decide) ?_
      refine aw_sub [1, 2, 3, 4, 0] rfl ?_
      exact K54 _ _ _ _ _ h
set_option maxRecDepth 100000 in
set_option maxHeartbeats 4000000 in
theorem kl_X8_layRanks_7 {E : Ev} {X : Cx} {post : GH → Prop} {v1 v2 v3 : Int32} {G : GH} (F : Fx E X "MarkFieldModel" cX8_layRanks 5) (T : RT E X 4 0 0 none (pV post)) (h : lp_X8_layRanks_7 post v1 v2 v3 G) : AW E X 5 7 [(0, .ref (sdX X 24 0)), (1, .int v1), (2, .int v2), (3, .int v3)] [] G 0 0 := by
  have hP := F.P
  have K7 : ∀ (v1 v2 v3 : Int32) (G : GH), AW E X 5 7 [(0, .ref (sdX X 24 0)), (1, .int v1), (2, .int v2), (3, .int v3)] [] G 0 0 → AW E X 5 7 [(0, .ref (sdX X 24 0)), (1, .int v1), (2, .int v2), (3, .int v3)] [] G 0 0 := fun _ _ _ _ q => q
  refine h (fun (v1 v2 v3 : Int32) (G : GH) => AW E X 5 7 [(0, .ref (sdX X 24 0)), (1, .int v1), (2, .int v2), (3, .int v3)] [] G 0 0) (fun (v1 v2 v3 : Int32) (G : GH) h => ?_)
  refine aw_il_n F 3 dX8_layRanks_7 rfl rfl ?_
  refine aw_al_n F 0 dX8_layRanks_8 rfl rfl ?_
  refine aw_cVi (stk := [.int v3]) F T.room [] (k_X8_marks hP h) mv_X8_marks w_1305 cf8 (lo_s rfl) (hP _ rfl) rfl (by decide) rfl rfl (Nat.le_of_ble_eq_true rfl) ⟨(Nat.le_of_ble_eq_true rfl), (Nat.le_of_ble_eq_true rfl)⟩ ⟨(Nat.le_of_ble_eq_true rfl), (Nat.le_of_ble_eq_true rfl)⟩ dX8_layRanks_9 (fun r_3 G_2 h => ?_)
  refine aw_icmp_ge (tgt := 122) F dX8_layRanks_12 (by decide) (fun c_4 => ?_) (fun c_4 => ?_)
  · replace h := h.1 c_4
    exact aw_vret F T (Nat.le_of_ble_eq_true rfl) (Nat.le_of_ble_eq_true rfl) ⟨rfl, h⟩ dX8_layRanks_122
  · replace h := h.2 c_4
    refine aw_al_n F 0 dX8_layRanks_15 rfl rfl ?_
    refine gr8_21 F (lo_s rfl) (hP _ rfl) rfl w_1181 (hP _ rfl) dX8_layRanks_16 ?_
    refine aw_il_n F 3 dX8_layRanks_19 rfl rfl ?_
    refine aw_al_n F 0 dX8_layRanks_20 rfl rfl ?_
    refine aw_il_n F 3 dX8_layRanks_21 rfl rfl ?_
    refine aw_il_n F 1 dX8_layRanks_22 rfl rfl ?_
    refine aw_il_n F 2 dX8_layRanks_23 rfl rfl ?_
    refine aw_cVi (stk := [.int v3, .ref (sdX X 24 22)]) F T.room [.int v3, .int v1, .int v2] (k_X8_priorityOf hP h) mv_X8_priorityOf w_1480 cf8 (lo_s rfl) (hP _ rfl) rfl (by decide) rfl rfl (Nat.le_of_ble_eq_true rfl) ⟨(Nat.le_of_ble_eq_true rfl), (Nat.le_of_ble_eq_true rfl)⟩ ⟨(Nat.le_of_ble_eq_true rfl), (Nat.le_of_ble_eq_true rfl)⟩ dX8_layRanks_24 (fun r_6 G_5 h => ?_)
    refine aw_iast F 24 22 (lo_s rfl) (hP _ rfl) rfl h.1 dX8_layRanks_27 ?_
    refine aw_nG (fun G_7 eG_7 => ?_)
    replace h := h.2 G_7 eG_7
    refine aw_al_n F 0 dX8_layRanks_28 rfl rfl ?_
    refine gr8_23 F (lo_s rfl) (hP _ rfl) rfl w_1183 (hP _ rfl) dX8_layRanks_29 ?_
    refine aw_il_n F 3 dX8_layRanks_32 rfl rfl ?_
    refine aw_ic F dX8_layRanks_33 ic_m1 ?_
    refine aw_iast F 24 24 (lo_s rfl) (hP _ rfl) rfl h.1 dX8_layRanks_34 ?_
    refine aw_nG (fun G_8 eG_8 => ?_)
    replace h := h.2 G_8 eG_8
    refine aw_al_n F 0 dX8_layRanks_35 rfl rfl ?_
    refine gr8_21 F (lo_s rfl) (hP _ rfl) rfl w_1181 (hP _ rfl) dX8_layRanks_36 ?_
    refine aw_il_n F 3 dX8_layRanks_39 rfl rfl ?_
    refine aw_iald F 24 22 (lo_s rfl) (hP _ rfl) rfl h.1 dX8_layRanks_40 ?_
    replace h := h.2
    refine aw_ic F dX8_layRanks_41 ic_m1 ?_
    refine aw_icmp_ne (tgt := 48) F dX8_layRanks_42 (by decide) (fun c_9 => ?_) (fun c_9 => ?_)
    · replace h := h.2 c_9
      refine aw_al_n F 0 dX8_layRanks_48 rfl rfl ?_
      refine gf8_24 F (lo_s rfl) (hP _ rfl) rfl w_1184 dX8_layRanks_49 ?_
      refine aw_top (fun y_10 ey_10 => ?_)
      replace h := h y_10 ey_10
      refine aw_is (lv1 := [(4, .int y_10), (0, .ref (sdX X 24 0)), (1, .int v1), (2, .int v2), (3, .int v3)]) F dX8_layRanks_52 (by decide) rfl ?_
      refine aw_sub [1, 2, 3, 4, 0] rfl ?_
      exact kl_X8_layRanks_54 F T K7 h
    · replace h := h.1 c_9
      refine aw_go (tgt := 116) F dX8_layRanks_45 (by decide) ?_
      refine aw_inc (lv1 := [(3, .int (v3 + (1 : Int32))), (0, .ref (sdX X 24 0)), (1, .int v1), (2, .int v2)]) F 3 dX8_layRanks_116 rfl (in_1 _) (by decide) rfl ?_
      refine aw_go (tgt := 7) F dX8_layRanks_119 (by decide) ?_
      refine aw_sub [1, 2, 3, 0] rfl ?_
      exact K7 _ _ _ _ h
set_option maxRecDepth 100000 in
set_option maxHeartbeats 4000000 in
theorem k_X8_layRanks {l : Launch} {E : Ev} {P : Nat → Prop} {sd : Nat → Nat → Nat} {G : GH} {post : GH → Prop} {x1 x2 : Int32} (hPP : ∀ o, stt o = true → P o) (h : wp_X8_layRanks post x1 x2 G) : Ct l yX8_layRanks cX8_layRanks 5 none 4 0 0 E P sd G [.ref (sd 24 0), .int x1, .int x2] (pV post) := by
  refine ct_of (own := "MarkFieldModel") (by decide) rfl (Nat.le_of_ble_eq_true rfl) hPP (fun X F T el eP es => ?_)
  subst el; subst eP; subst es
  have hP := F.P
  change AW E X 5 0 [(0, .ref (sdX X 24 0)), (1, .int x1), (2, .int x2)] [] G 0 0
  refine aw_al_n F 0 dX8_layRanks_0 rfl rfl ?_
  refine aw_ic F dX8_layRanks_1 ic_0 ?_
  refine pf8_24 F (lo_s rfl) (hP _ rfl) rfl w_1184 dX8_layRanks_2 (fun G_1 eG_1 => ?_)
  replace h := h G_1 eG_1
  refine aw_ic F dX8_layRanks_5 ic_0 ?_
  refine aw_is_n (lv1 := [(3, .int (0 : Int32)), (0, .ref (sdX X 24 0)), (1, .int x1), (2, .int x2)]) F dX8_layRanks_6 rfl (by decide) rfl ?_
  refine aw_sub [1, 2, 3, 0] rfl ?_
  exact kl_X8_layRanks_7 F T h
-- X8_layHalf (height 8)
def lb_X8_layHalf_102 (post : GH → Prop) (P22 : Int32 → GH → Prop) (P102 : Int32 → Int32 → Int32 → Int32 → GH → Prop) (v3 v4 v5 v6 : Int32) (G : GH) : Prop :=
  ((v6 < 0 → P22 (v3 + (1 : Int32)) G) ∧ (¬ v6 < 0 → (vp_in v6 13 ∧ wp_X8_has (fun (b_17 : Bool) (G_16 : GH) => ((b_17 = false → P102 v3 v4 v5 (v6 + (-1 : Int32)) G_16) ∧ (b_17 = true → (vp_in v6 13 ∧ (vp_in v4 13 ∧ (∀ G_19 : GH, G_19 = gs G_16 24 24 (upd (G_16 24 24) v4.toNatClampNeg (G_16 24 23 v6.toNatClampNeg)) → P102 v3 v4 v5 (v6 + (-1 : Int32)) G_19)))))) v5 (G 24 23 v6.toNatClampNeg) G)))
def lp_X8_layHalf_102 (post : GH → Prop) (P22 : Int32 → GH → Prop) (v3 v4 v5 v6 : Int32) (G : GH) : Prop := ∀ P102 : Int32 → Int32 → Int32 → Int32 → GH → Prop, (∀ (v3 v4 v5 v6 : Int32) (G : GH), lb_X8_layHalf_102 post P22 P102 v3 v4 v5 v6 G → P102 v3 v4 v5 v6 G) → P102 v3 v4 v5 v6 G
def lb_X8_layHalf_22 (post : GH → Prop) (P22 : Int32 → GH → Prop) (v3 : Int32) (G : GH) : Prop :=
  (((G 24 0 24) ≤ v3 → post G) ∧ (¬ (G 24 0 24) ≤ v3 → (vp_in v3 13 ∧ (∀ y_8 : Int32, y_8 = (G 24 23 v3.toNatClampNeg) → (vp_in y_8 13 ∧ wp_X8_of1 (fun (r_10 : Int32) (G_9 : GH) => (∀ y_11 : Int32, y_11 = (((G 24 0 25) &&& (G 24 20 y_8.toNatClampNeg)) &&& (r_10 ^^^ (-1 : Int32))) → ((y_11 = 0 → (∀ G_20 : GH, G_20 = gs G_9 24 0 (upd (G_9 24 0) 25 ((G_9 24 0 25) ||| ((1 : Int32) <<< (y_8 &&& 31)))) → P22 (v3 + (1 : Int32)) G_20)) ∧ (¬ y_11 = 0 → (∀ G_13 : GH, G_13 = gs G_9 24 0 (upd (G_9 24 0) 26 ((G_9 24 0 26) ||| ((1 : Int32) <<< (y_8 &&& 31)))) → (∀ y_14 : Int32, y_14 = (v3 - (1 : Int32)) → lp_X8_layHalf_102 post P22 v3 y_8 y_11 y_14 G_13)))))) y_8 (50 : Int32) G)))))
def lp_X8_layHalf_22 (post : GH → Prop) (v3 : Int32) (G : GH) : Prop := ∀ P22 : Int32 → GH → Prop, (∀ (v3 : Int32) (G : GH), lb_X8_layHalf_22 post P22 v3 G → P22 v3 G) → P22 v3 G
def wp_X8_layHalf (post : GH → Prop) (x1 x2 : Int32) (G : GH) : Prop :=
  wp_X8_lay (fun (G_1 : GH) => wp_X8_layRanks (fun (G_3 : GH) => (∀ G_5 : GH, G_5 = gs G_3 24 0 (upd (G_3 24 0) 25 (0 : Int32)) → (∀ G_6 : GH, G_6 = gs G_5 24 0 (upd (G_5 24 0) 26 (0 : Int32)) → lp_X8_layHalf_22 post (0 : Int32) G_6))) x1 x2 G_1) G
set_option maxRecDepth 100000 in
set_option maxHeartbeats 4000000 in
theorem kl_X8_layHalf_102 {E : Ev} {X : Cx} {post : GH → Prop} {P22 : Int32 → GH → Prop} {v3 v4 v5 v6 : Int32} {G : GH} (F : Fx E X "MarkFieldModel" cX8_layHalf 7) (T : RT E X 8 0 0 none (pV post)) (K22 : ∀ (v3 : Int32) (G : GH), P22 v3 G → AW E X 7 22 [(0, .ref (sdX X 24 0)), (3, .int v3)] [] G 0 0) (h : lp_X8_layHalf_102 post P22 v3 v4 v5 v6 G) : AW E X 7 102 [(0, .ref (sdX X 24 0)), (3, .int v3), (4, .int v4), (5, .int v5), (6, .int v6)] [] G 0 0 := by
  have hP := F.P
  have K102 : ∀ (v3 v4 v5 v6 : Int32) (G : GH), AW E X 7 102 [(0, .ref (sdX X 24 0)), (3, .int v3), (4, .int v4), (5, .int v5), (6, .int v6)] [] G 0 0 → AW E X 7 102 [(0, .ref (sdX X 24 0)), (3, .int v3), (4, .int v4), (5, .int v5), (6, .int v6)] [] G 0 0 := fun _ _ _ _ _ q => q
  refine h (fun (v3 v4 v5 v6 : Int32) (G : GH) => AW E X 7 102 [(0, .ref (sdX X 24 0)), (3, .int v3), (4, .int v4), (5, .int v5), (6, .int v6)] [] G 0 0) (fun (v3 v4 v5 v6 : Int32) (G : GH) h => ?_)
  refine aw_il F 4 dX8_layHalf_102 rfl ?_
  refine aw_if_lt (tgt := 142) F dX8_layHalf_104 (by decide) (fun c_15 => ?_) (fun c_15 => ?_)
  · replace h := h.1 c_15
    refine aw_inc (lv1 := [(3, .int (v3 + (1 : Int32))), (0, .ref (sdX X 24 0)), (4, .int v4), (5, .int v5), (6, .int v6)]) F 1 dX8_layHalf_142 rfl (in_1 _) (by decide) rfl ?_
    refine aw_go (tgt := 22) F dX8_layHalf_145 (by decide) ?_
    refine aw_sub [1, 0] rfl ?_
    exact K22 _ _ h
  · replace h := h.2 c_15
    refine aw_il F 3 dX8_layHalf_107 rfl ?_
    refine aw_al_n F 0 dX8_layHalf_109 rfl rfl ?_
    refine gr8_22 F (lo_s rfl) (hP _ rfl) rfl w_1182 (hP _ rfl) dX8_layHalf_110 ?_
    refine aw_il F 4 dX8_layHalf_113 rfl ?_
    refine aw_iald F 24 23 (lo_s rfl) (hP _ rfl) rfl h.1 dX8_layHalf_115 ?_
    replace h := h.2
    refine aw_cSb (stk := []) F T.room [.int v5, .int (G 24 23 v6.toNatClampNeg)] (k_X8_has hP h) ms_X8_has w_1385 rfl rfl (Nat.le_of_ble_eq_true rfl) ⟨(Nat.le_of_ble_eq_true rfl), (Nat.le_of_ble_eq_true rfl)⟩ ⟨(Nat.le_of_ble_eq_true rfl), (Nat.le_of_ble_eq_true rfl)⟩ dX8_layHalf_116 (fun b_17 G_16 h => ?_)
    refine aw_if_eq (tgt := 136) F dX8_layHalf_119 (by decide) (fun c_18 => ?_) (fun c_18 => ?_)
    · replace h := h.1 (bI_2 c_18)
      refine aw_inc (lv1 := [(6, .int (v6 + (-1 : Int32))), (0, .ref (sdX X 24 0)), (3, .int v3), (4, .int v4), (5, .int v5)]) F 4 dX8_layHalf_136 rfl (in_m1 _) (by decide) rfl ?_
      refine aw_go (tgt := 102) F dX8_layHalf_139 (by decide) ?_
      refine aw_sub [1, 2, 3, 4, 0] rfl ?_
      exact K102 _ _ _ _ _ h
    · replace h := h.2 (bI_1 c_18)
      refine aw_al_n F 0 dX8_layHalf_122 rfl rfl ?_
      refine gr8_23 F (lo_s rfl) (hP _ rfl) rfl w_1183 (hP _ rfl) dX8_layHalf_123 ?_
      refine aw_il F 2 dX8_layHalf_126 rfl ?_
      refine aw_al_n F 0 dX8_layHalf_128 rfl rfl ?_
      refine gr8_22 F (lo_s rfl) (hP _ rfl) rfl w_1182 (hP _ rfl) dX8_layHalf_129 ?_
      refine aw_il F 4 dX8_layHalf_132 rfl ?_
      refine aw_iald F 24 23 (lo_s rfl) (hP _ rfl) rfl h.1 dX8_layHalf_134 ?_
      replace h := h.2
      refine aw_iast F 24 24 (lo_s rfl) (hP _ rfl) rfl h.1 dX8_layHalf_135 ?_
      refine aw_nG (fun G_19 eG_19 => ?_)
      replace h := h.2 G_19 eG_19
      refine aw_inc (lv1 := [(6, .int (v6 + (-1 : Int32))), (0, .ref (sdX X 24 0)), (3, .int v3), (4, .int v4), (5, .int v5)]) F 4 dX8_layHalf_136 rfl (in_m1 _) (by decide) rfl ?_
      refine aw_go (tgt := 102) F dX8_layHalf_139 (by decide) ?_
      refine aw_sub [1, 2, 3, 4, 0] rfl ?_
      exact K102 _ _ _ _ _ h
set_option maxRecDepth 100000 in
set_option maxHeartbeats 4000000 in
theorem kl_X8_layHalf_22 {E : Ev} {X : Cx} {post : GH → Prop} {v3 : Int32} {G : GH} (F : Fx E X "MarkFieldModel" cX8_layHalf 7) (T : RT E X 8 0 0 none (pV post)) (h : lp_X8_layHalf_22 post v3 G) : AW E X 7 22 [(0, .ref (sdX X 24 0)), (3, .int v3)] [] G 0 0 := by
  have hP := F.P
  have K22 : ∀ (v3 : Int32) (G : GH), AW E X 7 22 [(0, .ref (sdX X 24 0)), (3, .int v3)] [] G 0 0 → AW E X 7 22 [(0, .ref (sdX X 24 0)), (3, .int v3)] [] G 0 0 := fun _ _ q => q
  refine h (fun (v3 : Int32) (G : GH) => AW E X 7 22 [(0, .ref (sdX X 24 0)), (3, .int v3)] [] G 0 0) (fun (v3 : Int32) (G : GH) h => ?_)
  refine aw_il_n F 1 dX8_layHalf_22 rfl rfl ?_
  refine aw_al_n F 0 dX8_layHalf_23 rfl rfl ?_
  refine gf8_24 F (lo_s rfl) (hP _ rfl) rfl w_1184 dX8_layHalf_24 ?_
  refine aw_icmp_ge (tgt := 148) F dX8_layHalf_27 (by decide) (fun c_7 => ?_) (fun c_7 => ?_)
  · replace h := h.1 c_7
    exact aw_vret F T (Nat.le_of_ble_eq_true rfl) (Nat.le_of_ble_eq_true rfl) ⟨rfl, h⟩ dX8_layHalf_148
  · replace h := h.2 c_7
    refine aw_al_n F 0 dX8_layHalf_30 rfl rfl ?_
    refine gr8_22 F (lo_s rfl) (hP _ rfl) rfl w_1182 (hP _ rfl) dX8_layHalf_31 ?_
    refine aw_il_n F 1 dX8_layHalf_34 rfl rfl ?_
    refine aw_iald F 24 23 (lo_s rfl) (hP _ rfl) rfl h.1 dX8_layHalf_35 ?_
    replace h := h.2
    refine aw_top (fun y_8 ey_8 => ?_)
    replace h := h y_8 ey_8
    refine aw_is (lv1 := [(4, .int y_8), (0, .ref (sdX X 24 0)), (3, .int v3)]) F dX8_layHalf_36 (by decide) rfl ?_
    refine aw_al_n F 1 dX8_layHalf_38 rfl rfl ?_
    refine gf8_25 F (lo_s rfl) (hP _ rfl) rfl w_1185 dX8_layHalf_39 ?_
    refine aw_al_n F 1 dX8_layHalf_42 rfl rfl ?_
    refine gr8_19 F (lo_s rfl) (hP _ rfl) rfl w_1179 (hP _ rfl) dX8_layHalf_43 ?_
    refine aw_il F 0 dX8_layHalf_46 rfl ?_
    refine aw_iald F 24 20 (lo_s rfl) (hP _ rfl) rfl h.1 dX8_layHalf_48 ?_
    replace h := h.2
    refine aw_iand F dX8_layHalf_49 ?_
    refine aw_al_n F 1 dX8_layHalf_50 rfl rfl ?_
    refine aw_il F 0 dX8_layHalf_51 rfl ?_
    refine aw_bi F dX8_layHalf_53 bi_50 ?_
    refine aw_cVi (stk := [.int ((G 24 0 25) &&& (G 24 20 y_8.toNatClampNeg))]) F T.room [.int y_8, .int (50 : Int32)] (k_X8_of1 hP h) mv_X8_of1 w_1313 cf8 (lo_s rfl) (hP _ rfl) rfl (by decide) rfl rfl (Nat.le_of_ble_eq_true rfl) ⟨(Nat.le_of_ble_eq_true rfl), (Nat.le_of_ble_eq_true rfl)⟩ ⟨(Nat.le_of_ble_eq_true rfl), (Nat.le_of_ble_eq_true rfl)⟩ dX8_layHalf_55 (fun r_10 G_9 h => ?_)
    refine aw_ic F dX8_layHalf_58 ic_m1 ?_
    refine aw_ixor F dX8_layHalf_59 ?_
    refine aw_iand F dX8_layHalf_60 ?_
    refine aw_top (fun y_11 ey_11 => ?_)
    replace h := h y_11 ey_11
    refine aw_is (lv1 := [(5, .int y_11), (4, .int y_8), (0, .ref (sdX X 24 0)), (3, .int v3)]) F dX8_layHalf_61 (by decide) rfl ?_
    refine aw_il F 0 dX8_layHalf_63 rfl ?_
    refine aw_if_ne (tgt := 84) F dX8_layHalf_65 (by decide) (fun c_12 => ?_) (fun c_12 => ?_)
    · replace h := h.2 c_12
      refine aw_al_n F 2 dX8_layHalf_84 rfl rfl ?_
      refine aw_dup F dX8_layHalf_85 rfl ?_
      refine gf8_26 F (lo_s rfl) (hP _ rfl) rfl w_1186 dX8_layHalf_86 ?_
      refine aw_ic F dX8_layHalf_89 ic_1 ?_
      refine aw_il F 1 dX8_layHalf_90 rfl ?_
      refine aw_ishl F dX8_layHalf_92 ?_
      refine aw_ior F dX8_layHalf_93 ?_
      refine pf8_26 F (lo_s rfl) (hP _ rfl) rfl w_1186 dX8_layHalf_94 (fun G_13 eG_13 => ?_)
      replace h := h G_13 eG_13
      refine aw_il_n F 3 dX8_layHalf_97 rfl rfl ?_
      refine aw_ic F dX8_layHalf_98 ic_1 ?_
      refine aw_isub F dX8_layHalf_99 ?_
      refine aw_top (fun y_14 ey_14 => ?_)
      replace h := h y_14 ey_14
      refine aw_is (lv1 := [(6, .int y_14), (5, .int y_11), (4, .int y_8), (0, .ref (sdX X 24 0)), (3, .int v3)]) F dX8_layHalf_100 (by decide) rfl ?_
      refine aw_sub [3, 4, 2, 1, 0] rfl ?_
      exact kl_X8_layHalf_102 F T K22 h
    · replace h := h.1 c_12
      refine aw_al_n F 2 dX8_layHalf_68 rfl rfl ?_
      refine aw_dup F dX8_layHalf_69 rfl ?_
      refine gf8_25 F (lo_s rfl) (hP _ rfl) rfl w_1185 dX8_layHalf_70 ?_
      refine aw_ic F dX8_layHalf_73 ic_1 ?_
      refine aw_il F 1 dX8_layHalf_74 rfl ?_
      refine aw_ishl F dX8_layHalf_76 ?_
      refine aw_ior F dX8_layHalf_77 ?_
      refine pf8_25 F (lo_s rfl) (hP _ rfl) rfl w_1185 dX8_layHalf_78 (fun G_20 eG_20 => ?_)
      replace h := h G_20 eG_20
      refine aw_go (tgt := 142) F dX8_layHalf_81 (by decide) ?_
      refine aw_inc (lv1 := [(3, .int (v3 + (1 : Int32))), (5, .int y_11), (4, .int y_8), (0, .ref (sdX X 24 0))]) F 3 dX8_layHalf_142 rfl (in_1 _) (by decide) rfl ?_
      refine aw_go (tgt := 22) F dX8_layHalf_145 (by decide) ?_
      refine aw_sub [3, 0] rfl ?_
      exact K22 _ _ h
set_option maxRecDepth 100000 in
set_option maxHeartbeats 4000000 in
theorem k_X8_layHalf {l : Launch} {E : Ev} {P : Nat → Prop} {sd : Nat → Nat → Nat} {G : GH} {post : GH → Prop} {x1 x2 : Int32} (hPP : ∀ o, stt o = true → P o) (h : wp_X8_layHalf post x1 x2 G) : Ct l yX8_layHalf cX8_layHalf 7 none 8 0 0 E P sd G [.ref (sd 24 0), .int x1, .int x2] (pV post) := by
  refine ct_of (own := "MarkFieldModel") (by decide) rfl (Nat.le_of_ble_eq_true rfl) hPP (fun X F T el eP es => ?_)
  subst el; subst eP; subst es
  have hP := F.P
  change AW E X 7 0 [(0, .ref (sdX X 24 0)), (1, .int x1), (2, .int x2)] [] G 0 0
  refine aw_al_n F 0 dX8_layHalf_0 rfl rfl ?_
  refine aw_cVv (stk := []) F T.room [] (k_X8_lay hP h) mv_X8_lay w_1301 cf8 (lo_s rfl) (hP _ rfl) rfl (by decide) rfl rfl (Nat.le_of_ble_eq_true rfl) ⟨(Nat.le_of_ble_eq_true rfl), (Nat.le_of_ble_eq_true rfl)⟩ ⟨(Nat.le_of_ble_eq_true rfl), (Nat.le_of_ble_eq_true rfl)⟩ dX8_layHalf_1 (fun G_1 h => ?_)
  refine aw_al_n F 0 dX8_layHalf_4 rfl rfl ?_
  refine aw_il_n F 1 dX8_layHalf_5 rfl rfl ?_
  refine aw_il_n F 2 dX8_layHalf_6 rfl rfl ?_
  refine aw_cVv (stk := []) F T.room [.int x1, .int x2] (k_X8_layRanks hP h) mv_X8_layRanks w_1476 cf8 (lo_s rfl) (hP _ rfl) rfl (by decide) rfl rfl (Nat.le_of_ble_eq_true rfl) ⟨(Nat.le_of_ble_eq_true rfl), (Nat.le_of_ble_eq_true rfl)⟩ ⟨(Nat.le_of_ble_eq_true rfl), (Nat.le_of_ble_eq_true rfl)⟩ dX8_layHalf_7 (fun G_3 h => ?_)
  refine aw_al_n F 0 dX8_layHalf_10 rfl rfl ?_
  refine aw_ic F dX8_layHalf_11 ic_0 ?_
  refine pf8_25 F (lo_s rfl) (hP _ rfl) rfl w_1185 dX8_layHalf_12 (fun G_5 eG_5 => ?_)
  replace h := h G_5 eG_5
  refine aw_al_n F 0 dX8_layHalf_15 rfl rfl ?_
  refine aw_ic F dX8_layHalf_16 ic_0 ?_
  refine pf8_26 F (lo_s rfl) (hP _ rfl) rfl w_1186 dX8_layHalf_17 (fun G_6 eG_6 => ?_)
  replace h := h G_6 eG_6
  refine aw_ic F dX8_layHalf_20 ic_0 ?_
  refine aw_is_n (lv1 := [(3, .int (0 : Int32)), (0, .ref (sdX X 24 0)), (1, .int x1), (2, .int x2)]) F dX8_layHalf_21 rfl (by decide) rfl ?_
  refine aw_sub [1, 0] rfl ?_
  exact kl_X8_layHalf_22 F T h
-- X8_halvesOf (height 9)
def j_X8_halvesOf_64 (post : Int32 → GH → Prop) (P6 : Int32 → Int32 → Int32 → Int32 → Int32 → GH → Prop) (v1 v2 v3 v4 v5 s0 : Int32) (G : GH) : Prop :=
  ((s0 = 0 → P6 v1 v2 v3 v4 (v5 + (1 : Int32)) G) ∧ (¬ s0 = 0 → (∀ y_11 : Int32, y_11 = (v4 ||| ((1 : Int32) <<< (v5 &&& 31))) → P6 v1 v2 v3 y_11 (v5 + (1 : Int32)) G)))
def j_X8_halvesOf_60 (post : Int32 → GH → Prop) (P6 : Int32 → Int32 → Int32 → Int32 → Int32 → GH → Prop) (v1 v2 v3 v4 v5 s0 : Int32) (G : GH) : Prop :=
  wp_X8_has (fun (b_9 : Bool) (G_8 : GH) => j_X8_halvesOf_64 post P6 v1 v2 v3 v4 v5 (bI b_9) G_8) s0 v1 G
def lb_X8_halvesOf_6 (post : Int32 → GH → Prop) (P6 : Int32 → Int32 → Int32 → Int32 → Int32 → GH → Prop) (v1 v2 v3 v4 v5 : Int32) (G : GH) : Prop :=
  wp_X8_halvesMany (fun (r_2 : Int32) (G_1 : GH) => ((r_2 ≤ v5 → post v4 G_1) ∧ (¬ r_2 ≤ v5 → wp_X8_layHalf (fun (G_4 : GH) => ((v3 = 0 → (vp_in v1 13 ∧ (((G_4 24 22 v1.toNatClampNeg) = (-1 : Int32) → j_X8_halvesOf_64 post P6 v1 v2 v3 v4 v5 (0 : Int32) G_4) ∧ (¬ (G_4 24 22 v1.toNatClampNeg) = (-1 : Int32) → j_X8_halvesOf_64 post P6 v1 v2 v3 v4 v5 (1 : Int32) G_4)))) ∧ (¬ v3 = 0 → ((v3 = (1 : Int32) → j_X8_halvesOf_60 post P6 v1 v2 v3 v4 v5 (G_4 24 0 25) G_4) ∧ (¬ v3 = (1 : Int32) → j_X8_halvesOf_60 post P6 v1 v2 v3 v4 v5 (G_4 24 0 26) G_4))))) v5 v2 G_1))) G
def lp_X8_halvesOf_6 (post : Int32 → GH → Prop) (v1 v2 v3 v4 v5 : Int32) (G : GH) : Prop := ∀ P6 : Int32 → Int32 → Int32 → Int32 → Int32 → GH → Prop, (∀ (v1 v2 v3 v4 v5 : Int32) (G : GH), lb_X8_halvesOf_6 post P6 v1 v2 v3 v4 v5 G → P6 v1 v2 v3 v4 v5 G) → P6 v1 v2 v3 v4 v5 G
def wp_X8_halvesOf (post : Int32 → GH → Prop) (x1 x2 x3 : Int32) (G : GH) : Prop :=
  lp_X8_halvesOf_6 post x1 x2 x3 (0 : Int32) (0 : Int32) G
set_option maxRecDepth 100000 in
set_option maxHeartbeats 4000000 in
theorem kj_X8_halvesOf_64 {E : Ev} {X : Cx} {post : Int32 → GH → Prop} {P6 : Int32 → Int32 → Int32 → Int32 → Int32 → GH → Prop} {v1 v2 v3 v4 v5 s0 : Int32} {G : GH} (F : Fx E X "MarkFieldModel" cX8_halvesOf 7) (T : RT E X 9 0 0 (some .int) (pI post)) (K6 : ∀ (v1 v2 v3 v4 v5 : Int32) (G : GH), P6 v1 v2 v3 v4 v5 G → AW E X 7 6 [(0, .ref (sdX X 24 0)), (1, .int v1), (2, .int v2), (3, .int v3), (4, .int v4), (5, .int v5)] [] G 0 0) (h : j_X8_halvesOf_64 post P6 v1 v2 v3 v4 v5 s0 G) : AW E X 7 64 [(0, .ref (sdX X 24 0)), (1, .int v1), (2, .int v2), (3, .int v3), (4, .int v4), (5, .int v5)] [.int s0] G 0 0 := by
  have hP := F.P
  refine aw_is (lv1 := [(6, .int s0), (0, .ref (sdX X 24 0)), (1, .int v1), (2, .int v2), (3, .int v3), (4, .int v4), (5, .int v5)]) F dX8_halvesOf_64 (by decide) rfl ?_
  refine aw_il F 0 dX8_halvesOf_66 rfl ?_
  refine aw_if_eq (tgt := 80) F dX8_halvesOf_68 (by decide) (fun c_10 => ?_) (fun c_10 => ?_)
  · replace h := h.1 c_10
    refine aw_inc (lv1 := [(5, .int (v5 + (1 : Int32))), (6, .int s0), (0, .ref (sdX X 24 0)), (1, .int v1), (2, .int v2), (3, .int v3), (4, .int v4)]) F 6 dX8_halvesOf_80 rfl (in_1 _) (by decide) rfl ?_
    refine aw_go (tgt := 6) F dX8_halvesOf_83 (by decide) ?_
    refine aw_sub [2, 3, 4, 5, 6, 0] rfl ?_
    exact K6 _ _ _ _ _ _ h
  · replace h := h.2 c_10
    refine aw_il F 5 dX8_halvesOf_71 rfl ?_
    refine aw_ic F dX8_halvesOf_73 ic_1 ?_
    refine aw_il F 6 dX8_halvesOf_74 rfl ?_
    refine aw_ishl F dX8_halvesOf_76 ?_
    refine aw_ior F dX8_halvesOf_77 ?_
    refine aw_top (fun y_11 ey_11 => ?_)
    replace h := h y_11 ey_11
    refine aw_is (lv1 := [(4, .int y_11), (6, .int s0), (0, .ref (sdX X 24 0)), (1, .int v1), (2, .int v2), (3, .int v3), (5, .int v5)]) F dX8_halvesOf_78 (by decide) rfl ?_
    refine aw_inc (lv1 := [(5, .int (v5 + (1 : Int32))), (4, .int y_11), (6, .int s0), (0, .ref (sdX X 24 0)), (1, .int v1), (2, .int v2), (3, .int v3)]) F 6 dX8_halvesOf_80 rfl (in_1 _) (by decide) rfl ?_
    refine aw_go (tgt := 6) F dX8_halvesOf_83 (by decide) ?_
    refine aw_sub [3, 4, 5, 6, 1, 0] rfl ?_
    exact K6 _ _ _ _ _ _ h
set_option maxRecDepth 100000 in
set_option maxHeartbeats 4000000 in
theorem kj_X8_halvesOf_60 {E : Ev} {X : Cx} {post : Int32 → GH → Prop} {P6 : Int32 → Int32 → Int32 → Int32 → Int32 → GH → Prop} {v1 v2 v3 v4 v5 s0 : Int32} {G : GH} (F : Fx E X "MarkFieldModel" cX8_halvesOf 7) (T : RT E X 9 0 0 (some .int) (pI post)) (K6 : ∀ (v1 v2 v3 v4 v5 : Int32) (G : GH), P6 v1 v2 v3 v4 v5 G → AW E X 7 6 [(0, .ref (sdX X 24 0)), (1, .int v1), (2, .int v2), (3, .int v3), (4, .int v4), (5, .int v5)] [] G 0 0) (h : j_X8_halvesOf_60 post P6 v1 v2 v3 v4 v5 s0 G) : AW E X 7 60 [(0, .ref (sdX X 24 0)), (1, .int v1), (2, .int v2), (3, .int v3), (4, .int v4), (5, .int v5)] [.int s0] G 0 0 := by
  have hP := F.P
  refine aw_il_n F 1 dX8_halvesOf_60 rfl rfl ?_
  refine aw_cSb (stk := []) F T.room [.int s0, .int v1] (k_X8_has hP h) ms_X8_has w_1385 rfl rfl (Nat.le_of_ble_eq_true rfl) ⟨(Nat.le_of_ble_eq_true rfl), (Nat.le_of_ble_eq_true rfl)⟩ ⟨(Nat.le_of_ble_eq_true rfl), (Nat.le_of_ble_eq_true rfl)⟩ dX8_halvesOf_61 (fun b_9 G_8 h => ?_)
  exact kj_X8_halvesOf_64 F T K6 h
set_option maxRecDepth 100000 in
set_option maxHeartbeats 4000000 in
theorem kl_X8_halvesOf_6 {E : Ev} {X : Cx} {post : Int32 → GH → Prop} {v1 v2 v3 v4 v5 : Int32} {G : GH} (F : Fx E X "MarkFieldModel" cX8_halvesOf 7) (T : RT E X 9 0 0 (some .int) (pI post)) (h : lp_X8_halvesOf_6 post v1 v2 v3 v4 v5 G) : AW E X 7 6 [(0, .ref (sdX X 24 0)), (1, .int v1), (2, .int v2), (3, .int v3), (4, .int v4), (5, .int v5)] [] G 0 0 := by
  have hP := F.P
  have K6 : ∀ (v1 v2 v3 v4 v5 : Int32) (G : GH), AW E X 7 6 [(0, .ref (sdX X 24 0)), (1, .int v1), (2, .int v2), (3, .int v3), (4, .int v4), (5, .int v5)] [] G 0 0 → AW E X 7 6 [(0, .ref (sdX X 24 0)), (1, .int v1), (2, .int v2), (3, .int v3), (4, .int v4), (5, .int v5)] [] G 0 0 := fun _ _ _ _ _ _ q => q
  refine h (fun (v1 v2 v3 v4 v5 : Int32) (G : GH) => AW E X 7 6 [(0, .ref (sdX X 24 0)), (1, .int v1), (2, .int v2), (3, .int v3), (4, .int v4), (5, .int v5)] [] G 0 0) (fun (v1 v2 v3 v4 v5 : Int32) (G : GH) h => ?_)
  refine aw_il F 5 dX8_halvesOf_6 rfl ?_
  refine aw_al_n F 0 dX8_halvesOf_8 rfl rfl ?_
  refine aw_cVi (stk := [.int v5]) F T.room [] (k_X8_halvesMany hP h) mv_X8_halvesMany w_1400 cf8 (lo_s rfl) (hP _ rfl) rfl (by decide) rfl rfl (Nat.le_of_ble_eq_true rfl) ⟨(Nat.le_of_ble_eq_true rfl), (Nat.le_of_ble_eq_true rfl)⟩ ⟨(Nat.le_of_ble_eq_true rfl), (Nat.le_of_ble_eq_true rfl)⟩ dX8_halvesOf_9 (fun r_2 G_1 h => ?_)
  refine aw_icmp_ge (tgt := 86) F dX8_halvesOf_12 (by decide) (fun c_3 => ?_) (fun c_3 => ?_)
  · replace h := h.1 c_3
    refine aw_il F 4 dX8_halvesOf_86 rfl ?_
    exact aw_iret F T (Nat.le_of_ble_eq_true rfl) (Nat.le_of_ble_eq_true rfl) ⟨_, rfl, h⟩ dX8_halvesOf_88
  · replace h := h.2 c_3
    refine aw_al_n F 0 dX8_halvesOf_15 rfl rfl ?_
    refine aw_il F 5 dX8_halvesOf_16 rfl ?_
    refine aw_il_n F 2 dX8_halvesOf_18 rfl rfl ?_
    refine aw_cVv (stk := []) F T.room [.int v5, .int v2] (k_X8_layHalf hP h) mv_X8_layHalf w_1472 cf8 (lo_s rfl) (hP _ rfl) rfl (by decide) rfl rfl (Nat.le_of_ble_eq_true rfl) ⟨(Nat.le_of_ble_eq_true rfl), (Nat.le_of_ble_eq_true rfl)⟩ ⟨(Nat.le_of_ble_eq_true rfl), (Nat.le_of_ble_eq_true rfl)⟩ dX8_halvesOf_19 (fun G_4 h => ?_)
    refine aw_il_n F 3 dX8_halvesOf_22 rfl rfl ?_
    refine aw_if_ne (tgt := 44) F dX8_halvesOf_23 (by decide) (fun c_6 => ?_) (fun c_6 => ?_)
    · replace h := h.2 c_6
      refine aw_il_n F 3 dX8_halvesOf_44 rfl rfl ?_
      refine aw_ic F dX8_halvesOf_45 ic_1 ?_
      refine aw_icmp_ne (tgt := 56) F dX8_halvesOf_46 (by decide) (fun c_7 => ?_) (fun c_7 => ?_)
      · replace h := h.2 c_7
        refine aw_al_n F 0 dX8_halvesOf_56 rfl rfl ?_
        refine gf8_26 F (lo_s rfl) (hP _ rfl) rfl w_1186 dX8_halvesOf_57 ?_
        exact kj_X8_halvesOf_60 F T K6 h
      · replace h := h.1 c_7
        refine aw_al_n F 0 dX8_halvesOf_49 rfl rfl ?_
        refine gf8_25 F (lo_s rfl) (hP _ rfl) rfl w_1185 dX8_halvesOf_50 ?_
        refine aw_go (tgt := 60) F dX8_halvesOf_53 (by decide) ?_
        exact kj_X8_halvesOf_60 F T K6 h
    · replace h := h.1 c_6
      refine aw_al_n F 0 dX8_halvesOf_26 rfl rfl ?_
      refine gr8_21 F (lo_s rfl) (hP _ rfl) rfl w_1181 (hP _ rfl) dX8_halvesOf_27 ?_
      refine aw_il_n F 1 dX8_halvesOf_30 rfl rfl ?_
      refine aw_iald F 24 22 (lo_s rfl) (hP _ rfl) rfl h.1 dX8_halvesOf_31 ?_
      replace h := h.2
      refine aw_ic F dX8_halvesOf_32 ic_m1 ?_
      refine aw_icmp_eq (tgt := 40) F dX8_halvesOf_33 (by decide) (fun c_12 => ?_) (fun c_12 => ?_)
      · replace h := h.1 c_12
        refine aw_ic F dX8_halvesOf_40 ic_0 ?_
        refine aw_go (tgt := 64) F dX8_halvesOf_41 (by decide) ?_
        exact kj_X8_halvesOf_64 F T K6 h
      · replace h := h.2 c_12
        refine aw_ic F dX8_halvesOf_36 ic_1 ?_
        refine aw_go (tgt := 64) F dX8_halvesOf_37 (by decide) ?_
        exact kj_X8_halvesOf_64 F T K6 h
set_option maxRecDepth 100000 in
set_option maxHeartbeats 4000000 in
theorem k_X8_halvesOf {l : Launch} {E : Ev} {P : Nat → Prop} {sd : Nat → Nat → Nat} {G : GH} {post : Int32 → GH → Prop} {x1 x2 x3 : Int32} (hPP : ∀ o, stt o = true → P o) (h : wp_X8_halvesOf post x1 x2 x3 G) : Ct l yX8_halvesOf cX8_halvesOf 7 (some .int) 9 0 0 E P sd G [.ref (sd 24 0), .int x1, .int x2, .int x3] (pI post) := by
  refine ct_of (own := "MarkFieldModel") (by decide) rfl (Nat.le_of_ble_eq_true rfl) hPP (fun X F T el eP es => ?_)
  subst el; subst eP; subst es
  have hP := F.P
  change AW E X 7 0 [(0, .ref (sdX X 24 0)), (1, .int x1), (2, .int x2), (3, .int x3)] [] G 0 0
  refine aw_ic F dX8_halvesOf_0 ic_0 ?_
  refine aw_is (lv1 := [(4, .int (0 : Int32)), (0, .ref (sdX X 24 0)), (1, .int x1), (2, .int x2), (3, .int x3)]) F dX8_halvesOf_1 (by decide) rfl ?_
  refine aw_ic F dX8_halvesOf_3 ic_0 ?_
  refine aw_is (lv1 := [(5, .int (0 : Int32)), (4, .int (0 : Int32)), (0, .ref (sdX X 24 0)), (1, .int x1), (2, .int x2), (3, .int x3)]) F dX8_halvesOf_4 (by decide) rfl ?_
  refine aw_sub [2, 3, 4, 5, 1, 0] rfl ?_
  exact kl_X8_halvesOf_6 F T h
-- X8_allHalves (height 1)
def wp_X8_allHalves (post : Int32 → GH → Prop) (G : GH) : Prop :=
  wp_X8_halvesMany (fun (r_2 : Int32) (G_1 : GH) => post (((1 : Int32) <<< (r_2 &&& 31)) - (1 : Int32)) G_1) G
set_option maxRecDepth 100000 in
set_option maxHeartbeats 4000000 in
theorem k_X8_allHalves {l : Launch} {E : Ev} {P : Nat → Prop} {sd : Nat → Nat → Nat} {G : GH} {post : Int32 → GH → Prop} (hPP : ∀ o, stt o = true → P o) (h : wp_X8_allHalves post G) : Ct l yX8_allHalves cX8_allHalves 1 (some .int) 1 0 0 E P sd G [.ref (sd 24 0)] (pI post) := by
  refine ct_of (own := "MarkFieldModel") (by decide) rfl (Nat.le_of_ble_eq_true rfl) hPP (fun X F T el eP es => ?_)
  subst el; subst eP; subst es
  have hP := F.P
  change AW E X 1 0 [(0, .ref (sdX X 24 0))] [] G 0 0
  refine aw_ic F dX8_allHalves_0 ic_1 ?_
  refine aw_al_n F 0 dX8_allHalves_1 rfl rfl ?_
  refine aw_cVi (stk := [.int (1 : Int32)]) F T.room [] (k_X8_halvesMany hP h) mv_X8_halvesMany w_1400 cf8 (lo_s rfl) (hP _ rfl) rfl (by decide) rfl rfl (Nat.le_of_ble_eq_true rfl) ⟨(Nat.le_of_ble_eq_true rfl), (Nat.le_of_ble_eq_true rfl)⟩ ⟨(Nat.le_of_ble_eq_true rfl), (Nat.le_of_ble_eq_true rfl)⟩ dX8_allHalves_2 (fun r_2 G_1 h => ?_)
  refine aw_ishl F dX8_allHalves_5 ?_
  refine aw_ic F dX8_allHalves_6 ic_1 ?_
  refine aw_isub F dX8_allHalves_7 ?_
  exact aw_iret F T (Nat.le_of_ble_eq_true rfl) (Nat.le_of_ble_eq_true rfl) ⟨_, rfl, h⟩ dX8_allHalves_8
-- X8_couplesOf (height 1)
def j_X8_couplesOf_33 (post : Int32 → GH → Prop) (P4 : Int32 → Int32 → Int32 → GH → Prop) (v1 v3 s0 s1 : Int32) (G : GH) : Prop :=
  wp_X8_bitsOf (fun (r_6 : Int32) (G_5 : GH) => (∀ y_7 : Int32, y_7 = (s0 + r_6) → P4 v1 y_7 (v3 + (1 : Int32)) G_5)) s1 G
def lb_X8_couplesOf_4 (post : Int32 → GH → Prop) (P4 : Int32 → Int32 → Int32 → GH → Prop) (v1 v2 v3 : Int32) (G : GH) : Prop :=
  wp_X8_marks (fun (r_2 : Int32) (G_1 : GH) => ((r_2 ≤ v3 → post (v2 / (2 : Int32)) G_1) ∧ (¬ r_2 ≤ v3 → ((v1 = 0 → wp_X8_of1 (fun (r_9 : Int32) (G_8 : GH) => j_X8_couplesOf_33 post P4 v1 v3 v2 r_9 G_8) v3 (50 : Int32) G_1) ∧ (¬ v1 = 0 → (vp_in v3 13 ∧ j_X8_couplesOf_33 post P4 v1 v3 v2 (G_1 24 20 v3.toNatClampNeg) G_1)))))) G
def lp_X8_couplesOf_4 (post : Int32 → GH → Prop) (v1 v2 v3 : Int32) (G : GH) : Prop := ∀ P4 : Int32 → Int32 → Int32 → GH → Prop, (∀ (v1 v2 v3 : Int32) (G : GH), lb_X8_couplesOf_4 post P4 v1 v2 v3 G → P4 v1 v2 v3 G) → P4 v1 v2 v3 G
def wp_X8_couplesOf (post : Int32 → GH → Prop) (x1 : Int32) (G : GH) : Prop :=
  lp_X8_couplesOf_4 post x1 (0 : Int32) (0 : Int32) G
set_option maxRecDepth 100000 in
set_option maxHeartbeats 4000000 in
theorem kj_X8_couplesOf_33 {E : Ev} {X : Cx} {post : Int32 → GH → Prop} {P4 : Int32 → Int32 → Int32 → GH → Prop} {v1 v3 s0 s1 : Int32} {G : GH} (F : Fx E X "MarkFieldModel" cX8_couplesOf 4) (T : RT E X 1 0 0 (some .int) (pI post)) (K4 : ∀ (v1 v2 v3 : Int32) (G : GH), P4 v1 v2 v3 G → AW E X 4 4 [(0, .ref (sdX X 24 0)), (1, .int v1), (2, .int v2), (3, .int v3)] [] G 0 0) (h : j_X8_couplesOf_33 post P4 v1 v3 s0 s1 G) : AW E X 4 33 [(0, .ref (sdX X 24 0)), (1, .int v1), (3, .int v3)] [.int s1, .int s0] G 0 0 := by
  have hP := F.P
  refine aw_cSi (stk := [.int s0]) F T.room [.int s1] (k_X8_bitsOf hP h) ms_X8_bitsOf w_1408 rfl rfl (Nat.le_of_ble_eq_true rfl) ⟨(Nat.le_of_ble_eq_true rfl), (Nat.le_of_ble_eq_true rfl)⟩ ⟨(Nat.le_of_ble_eq_true rfl), (Nat.le_of_ble_eq_true rfl)⟩ dX8_couplesOf_33 (fun r_6 G_5 h => ?_)
  refine aw_iadd F dX8_couplesOf_36 ?_
  refine aw_top (fun y_7 ey_7 => ?_)
  replace h := h y_7 ey_7
  refine aw_is_n (lv1 := [(2, .int y_7), (0, .ref (sdX X 24 0)), (1, .int v1), (3, .int v3)]) F dX8_couplesOf_37 rfl (by decide) rfl ?_
  refine aw_inc (lv1 := [(3, .int (v3 + (1 : Int32))), (2, .int y_7), (0, .ref (sdX X 24 0)), (1, .int v1)]) F 3 dX8_couplesOf_38 rfl (in_1 _) (by decide) rfl ?_
  refine aw_go (tgt := 4) F dX8_couplesOf_41 (by decide) ?_
  refine aw_sub [2, 3, 1, 0] rfl ?_
  exact K4 _ _ _ _ h
set_option maxRecDepth 100000 in
set_option maxHeartbeats 4000000 in
theorem kl_X8_couplesOf_4 {E : Ev} {X : Cx} {post : Int32 → GH → Prop} {v1 v2 v3 : Int32} {G : GH} (F : Fx E X "MarkFieldModel" cX8_couplesOf 4) (T : RT E X 1 0 0 (some .int) (pI post)) (h : lp_X8_couplesOf_4 post v1 v2 v3 G) : AW E X 4 4 [(0, .ref (sdX X 24 0)), (1, .int v1), (2, .int v2), (3, .int v3)] [] G 0 0 := by
  have hP := F.P
  have K4 : ∀ (v1 v2 v3 : Int32) (G : GH), AW E X 4 4 [(0, .ref (sdX X 24 0)), (1, .int v1), (2, .int v2), (3, .int v3)] [] G 0 0 → AW E X 4 4 [(0, .ref (sdX X 24 0)), (1, .int v1), (2, .int v2), (3, .int v3)] [] G 0 0 := fun _ _ _ _ q => q
  refine h (fun (v1 v2 v3 : Int32) (G : GH) => AW E X 4 4 [(0, .ref (sdX X 24 0)), (1, .int v1), (2, .int v2), (3, .int v3)] [] G 0 0) (fun (v1 v2 v3 : Int32) (G : GH) h => ?_)
  refine aw_il_n F 3 dX8_couplesOf_4 rfl rfl ?_
  refine aw_al_n F 0 dX8_couplesOf_5 rfl rfl ?_
  refine aw_cVi (stk := [.int v3]) F T.room [] (k_X8_marks hP h) mv_X8_marks w_1305 cf8 (lo_s rfl) (hP _ rfl) rfl (by decide) rfl rfl (Nat.le_of_ble_eq_true rfl) ⟨(Nat.le_of_ble_eq_true rfl), (Nat.le_of_ble_eq_true rfl)⟩ ⟨(Nat.le_of_ble_eq_true rfl), (Nat.le_of_ble_eq_true rfl)⟩ dX8_couplesOf_6 (fun r_2 G_1 h => ?_)
  refine aw_icmp_ge (tgt := 44) F dX8_couplesOf_9 (by decide) (fun c_3 => ?_) (fun c_3 => ?_)
  · replace h := h.1 c_3
    refine aw_il_n F 2 dX8_couplesOf_44 rfl rfl ?_
    refine aw_ic F dX8_couplesOf_45 ic_2 ?_
    refine aw_idiv F dX8_couplesOf_46 (by decide) ?_
    exact aw_iret F T (Nat.le_of_ble_eq_true rfl) (Nat.le_of_ble_eq_true rfl) ⟨_, rfl, h⟩ dX8_couplesOf_47
  · replace h := h.2 c_3
    refine aw_il_n F 2 dX8_couplesOf_12 rfl rfl ?_
    refine aw_il_n F 1 dX8_couplesOf_13 rfl rfl ?_
    refine aw_if_ne (tgt := 27) F dX8_couplesOf_14 (by decide) (fun c_4 => ?_) (fun c_4 => ?_)
    · replace h := h.2 c_4
      refine aw_al_n F 0 dX8_couplesOf_27 rfl rfl ?_
      refine gr8_19 F (lo_s rfl) (hP _ rfl) rfl w_1179 (hP _ rfl) dX8_couplesOf_28 ?_
      refine aw_il_n F 3 dX8_couplesOf_31 rfl rfl ?_
      refine aw_iald F 24 20 (lo_s rfl) (hP _ rfl) rfl h.1 dX8_couplesOf_32 ?_
      replace h := h.2
      refine aw_sub [0, 1, 3] rfl ?_
      exact kj_X8_couplesOf_33 F T K4 h
    · replace h := h.1 c_4
      refine aw_al_n F 0 dX8_couplesOf_17 rfl rfl ?_
      refine aw_il_n F 3 dX8_couplesOf_18 rfl rfl ?_
      refine aw_bi F dX8_couplesOf_19 bi_50 ?_
      refine aw_cVi (stk := [.int v2]) F T.room [.int v3, .int (50 : Int32)] (k_X8_of1 hP h) mv_X8_of1 w_1313 cf8 (lo_s rfl) (hP _ rfl) rfl (by decide) rfl rfl (Nat.le_of_ble_eq_true rfl) ⟨(Nat.le_of_ble_eq_true rfl), (Nat.le_of_ble_eq_true rfl)⟩ ⟨(Nat.le_of_ble_eq_true rfl), (Nat.le_of_ble_eq_true rfl)⟩ dX8_couplesOf_21 (fun r_9 G_8 h => ?_)
      refine aw_go (tgt := 33) F dX8_couplesOf_24 (by decide) ?_
      refine aw_sub [0, 1, 3] rfl ?_
      exact kj_X8_couplesOf_33 F T K4 h
set_option maxRecDepth 100000 in
set_option maxHeartbeats 4000000 in
theorem k_X8_couplesOf {l : Launch} {E : Ev} {P : Nat → Prop} {sd : Nat → Nat → Nat} {G : GH} {post : Int32 → GH → Prop} {x1 : Int32} (hPP : ∀ o, stt o = true → P o) (h : wp_X8_couplesOf post x1 G) : Ct l yX8_couplesOf cX8_couplesOf 4 (some .int) 1 0 0 E P sd G [.ref (sd 24 0), .int x1] (pI post) := by
  refine ct_of (own := "MarkFieldModel") (by decide) rfl (Nat.le_of_ble_eq_true rfl) hPP (fun X F T el eP es => ?_)
  subst el; subst eP; subst es
  have hP := F.P
  change AW E X 4 0 [(0, .ref (sdX X 24 0)), (1, .int x1)] [] G 0 0
  refine aw_ic F dX8_couplesOf_0 ic_0 ?_
  refine aw_is_n (lv1 := [(2, .int (0 : Int32)), (0, .ref (sdX X 24 0)), (1, .int x1)]) F dX8_couplesOf_1 rfl (by decide) rfl ?_
  refine aw_ic F dX8_couplesOf_2 ic_0 ?_
  refine aw_is_n (lv1 := [(3, .int (0 : Int32)), (2, .int (0 : Int32)), (0, .ref (sdX X 24 0)), (1, .int x1)]) F dX8_couplesOf_3 rfl (by decide) rfl ?_
  refine aw_sub [2, 3, 1, 0] rfl ?_
  exact kl_X8_couplesOf_4 F T h
-- X8_neighbours (height 1)
def lb_X8_neighbours_4 (post : Int32 → GH → Prop) (P4 : Int32 → Int32 → GH → Prop) (v1 v2 : Int32) (G : GH) : Prop :=
  (((10 : Int32) ≤ v2 → post (v1 / (2 : Int32)) G) ∧ (¬ (10 : Int32) ≤ v2 → (vp_in ((8 : Int32) + v2) 681 ∧ wp_X8_bitsOf (fun (r_3 : Int32) (G_2 : GH) => (∀ y_4 : Int32, y_4 = (v1 + r_3) → P4 y_4 (v2 + (1 : Int32)) G_2)) (G 24 1 ((8 : Int32) + v2).toNatClampNeg) G)))
def lp_X8_neighbours_4 (post : Int32 → GH → Prop) (v1 v2 : Int32) (G : GH) : Prop := ∀ P4 : Int32 → Int32 → GH → Prop, (∀ (v1 v2 : Int32) (G : GH), lb_X8_neighbours_4 post P4 v1 v2 G → P4 v1 v2 G) → P4 v1 v2 G
def wp_X8_neighbours (post : Int32 → GH → Prop) (G : GH) : Prop :=
  lp_X8_neighbours_4 post (0 : Int32) (0 : Int32) G
set_option maxRecDepth 100000 in
set_option maxHeartbeats 4000000 in
theorem kl_X8_neighbours_4 {E : Ev} {X : Cx} {post : Int32 → GH → Prop} {v1 v2 : Int32} {G : GH} (F : Fx E X "MarkFieldModel" cX8_neighbours 3) (T : RT E X 1 0 0 (some .int) (pI post)) (h : lp_X8_neighbours_4 post v1 v2 G) : AW E X 3 4 [(0, .ref (sdX X 24 0)), (1, .int v1), (2, .int v2)] [] G 0 0 := by
  have hP := F.P
  have K4 : ∀ (v1 v2 : Int32) (G : GH), AW E X 3 4 [(0, .ref (sdX X 24 0)), (1, .int v1), (2, .int v2)] [] G 0 0 → AW E X 3 4 [(0, .ref (sdX X 24 0)), (1, .int v1), (2, .int v2)] [] G 0 0 := fun _ _ _ q => q
  refine h (fun (v1 v2 : Int32) (G : GH) => AW E X 3 4 [(0, .ref (sdX X 24 0)), (1, .int v1), (2, .int v2)] [] G 0 0) (fun (v1 v2 : Int32) (G : GH) h => ?_)
  refine aw_il_n F 2 dX8_neighbours_4 rfl rfl ?_
  refine aw_bi F dX8_neighbours_5 bi_10 ?_
  refine aw_icmp_ge (tgt := 31) F dX8_neighbours_7 (by decide) (fun c_1 => ?_) (fun c_1 => ?_)
  · replace h := h.1 c_1
    refine aw_il_n F 1 dX8_neighbours_31 rfl rfl ?_
    refine aw_ic F dX8_neighbours_32 ic_2 ?_
    refine aw_idiv F dX8_neighbours_33 (by decide) ?_
    exact aw_iret F T (Nat.le_of_ble_eq_true rfl) (Nat.le_of_ble_eq_true rfl) ⟨_, rfl, h⟩ dX8_neighbours_34
  · replace h := h.2 c_1
    refine aw_il_n F 1 dX8_neighbours_10 rfl rfl ?_
    refine aw_al_n F 0 dX8_neighbours_11 rfl rfl ?_
    refine gr8_0 F (lo_s rfl) (hP _ rfl) rfl w_1160 (hP _ rfl) dX8_neighbours_12 ?_
    refine aw_bi F dX8_neighbours_15 bi_8 ?_
    refine aw_il_n F 2 dX8_neighbours_17 rfl rfl ?_
    refine aw_iadd F dX8_neighbours_18 ?_
    refine aw_iald F 24 1 (lo_s rfl) (hP _ rfl) rfl h.1 dX8_neighbours_19 ?_
    replace h := h.2
    refine aw_cSi (stk := [.int v1]) F T.room [.int (G 24 1 ((8 : Int32) + v2).toNatClampNeg)] (k_X8_bitsOf hP h) ms_X8_bitsOf w_1408 rfl rfl (Nat.le_of_ble_eq_true rfl) ⟨(Nat.le_of_ble_eq_true rfl), (Nat.le_of_ble_eq_true rfl)⟩ ⟨(Nat.le_of_ble_eq_true rfl), (Nat.le_of_ble_eq_true rfl)⟩ dX8_neighbours_20 (fun r_3 G_2 h => ?_)
    refine aw_iadd F dX8_neighbours_23 ?_
    refine aw_top (fun y_4 ey_4 => ?_)
    replace h := h y_4 ey_4
    refine aw_is_n (lv1 := [(1, .int y_4), (0, .ref (sdX X 24 0)), (2, .int v2)]) F dX8_neighbours_24 rfl (by decide) rfl ?_
    refine aw_inc (lv1 := [(2, .int (v2 + (1 : Int32))), (1, .int y_4), (0, .ref (sdX X 24 0))]) F 2 dX8_neighbours_25 rfl (in_1 _) (by decide) rfl ?_
    refine aw_go (tgt := 4) F dX8_neighbours_28 (by decide) ?_
    refine aw_sub [2, 1, 0] rfl ?_
    exact K4 _ _ _ h
set_option maxRecDepth 100000 in
set_option maxHeartbeats 4000000 in
theorem k_X8_neighbours {l : Launch} {E : Ev} {P : Nat → Prop} {sd : Nat → Nat → Nat} {G : GH} {post : Int32 → GH → Prop} (hPP : ∀ o, stt o = true → P o) (h : wp_X8_neighbours post G) : Ct l yX8_neighbours cX8_neighbours 3 (some .int) 1 0 0 E P sd G [.ref (sd 24 0)] (pI post) := by
  refine ct_of (own := "MarkFieldModel") (by decide) rfl (Nat.le_of_ble_eq_true rfl) hPP (fun X F T el eP es => ?_)
  subst el; subst eP; subst es
  have hP := F.P
  change AW E X 3 0 [(0, .ref (sdX X 24 0))] [] G 0 0
  refine aw_ic F dX8_neighbours_0 ic_0 ?_
  refine aw_is_n (lv1 := [(1, .int (0 : Int32)), (0, .ref (sdX X 24 0))]) F dX8_neighbours_1 rfl (by decide) rfl ?_
  refine aw_ic F dX8_neighbours_2 ic_0 ?_
  refine aw_is_n (lv1 := [(2, .int (0 : Int32)), (1, .int (0 : Int32)), (0, .ref (sdX X 24 0))]) F dX8_neighbours_3 rfl (by decide) rfl ?_
  refine aw_sub [2, 1, 0] rfl ?_
  exact kl_X8_neighbours_4 F T h
-- X8_count (height 8)
def wp_X8_count (post : Int32 → GH → Prop) (x1 : Int32) (G : GH) : Prop :=
  (∀ G_1 : GH, G_1 = gs G 24 0 (upd (G 24 0) 5 (0 : Int32)) → wp_X8_lay (fun (G_2 : GH) => (((x1.toInt < 0 ∨ 13 < x1.toInt) → wp_X8_fail (fun (r_6 : Int32) (G_5 : GH) => post r_6 G_5) (1 : Int32) G_2) ∧ (x1 = (0 : Int32) → post (G_2 24 1 0) G_2) ∧ (x1 = (1 : Int32) → wp_X8_halvesMany (fun (r_10 : Int32) (G_9 : GH) => post r_10 G_9) G_2) ∧ (x1 = (2 : Int32) → wp_X8_marks (fun (r_13 : Int32) (G_12 : GH) => post r_13 G_12) G_2) ∧ (x1 = (3 : Int32) → wp_X8_neighbours (fun (r_16 : Int32) (G_15 : GH) => post r_16 G_15) G_2) ∧ (x1 = (4 : Int32) → wp_X8_couplesOf (fun (r_19 : Int32) (G_18 : GH) => post r_19 G_18) (0 : Int32) G_2) ∧ (x1 = (5 : Int32) → wp_X8_ruleOf (fun (r_22 : Int32) (G_21 : GH) => post r_22 G_21) (x1 - (5 : Int32)) G_2) ∧ (x1 = (6 : Int32) → wp_X8_ruleOf (fun (r_25 : Int32) (G_24 : GH) => post r_25 G_24) (x1 - (5 : Int32)) G_2) ∧ (x1 = (7 : Int32) → wp_X8_ruleOf (fun (r_28 : Int32) (G_27 : GH) => post r_28 G_27) (x1 - (5 : Int32)) G_2) ∧ (x1 = (8 : Int32) → wp_X8_ruleOf (fun (r_31 : Int32) (G_30 : GH) => post r_31 G_30) (x1 - (5 : Int32)) G_2) ∧ (x1 = (9 : Int32) → wp_X8_ruleOf (fun (r_34 : Int32) (G_33 : GH) => post r_34 G_33) (x1 - (5 : Int32)) G_2) ∧ (x1 = (10 : Int32) → wp_X8_ruleOf (fun (r_37 : Int32) (G_36 : GH) => post r_37 G_36) (x1 - (5 : Int32)) G_2) ∧ (x1 = (11 : Int32) → post (G_2 24 0 4) G_2) ∧ (x1 = (12 : Int32) → post (G_2 24 0 32) G_2) ∧ (x1 = (13 : Int32) → wp_X8_couplesOf (fun (r_42 : Int32) (G_41 : GH) => post r_42 G_41) (1 : Int32) G_2))) G_1)
set_option maxRecDepth 100000 in
set_option maxHeartbeats 4000000 in
theorem k_X8_count {l : Launch} {E : Ev} {P : Nat → Prop} {sd : Nat → Nat → Nat} {G : GH} {post : Int32 → GH → Prop} {x1 : Int32} (hPP : ∀ o, stt o = true → P o) (h : wp_X8_count post x1 G) : Ct l yX8_count cX8_count 2 (some .int) 8 0 0 E P sd G [.ref (sd 24 0), .int x1] (pI post) := by
  refine ct_of (own := "MarkFieldModel") (by decide) rfl (Nat.le_of_ble_eq_true rfl) hPP (fun X F T el eP es => ?_)
  subst el; subst eP; subst es
  have hP := F.P
  change AW E X 2 0 [(0, .ref (sdX X 24 0)), (1, .int x1)] [] G 0 0
  refine aw_al_n F 0 dX8_count_0 rfl rfl ?_
  refine aw_ic F dX8_count_1 ic_0 ?_
  refine pf8_5 F (lo_s rfl) (hP _ rfl) rfl w_1165 dX8_count_2 (fun G_1 eG_1 => ?_)
  replace h := h G_1 eG_1
  refine aw_al_n F 0 dX8_count_5 rfl rfl ?_
  refine aw_cVv (stk := []) F T.room [] (k_X8_lay hP h) mv_X8_lay w_1301 cf8 (lo_s rfl) (hP _ rfl) rfl (by decide) rfl rfl (Nat.le_of_ble_eq_true rfl) ⟨(Nat.le_of_ble_eq_true rfl), (Nat.le_of_ble_eq_true rfl)⟩ ⟨(Nat.le_of_ble_eq_true rfl), (Nat.le_of_ble_eq_true rfl)⟩ dX8_count_6 (fun G_2 h => ?_)
  refine aw_il_n F 1 dX8_count_9 rfl rfl ?_
  by_cases c_4 : x1.toInt < 0 ∨ 13 < x1.toInt
  · replace h := h.1 c_4
    refine aw_tabO (tgt := 132) F dX8_count_10 c_4 (by decide) ?_
    refine aw_al_n F 0 dX8_count_132 rfl rfl ?_
    refine aw_ic F dX8_count_133 ic_1 ?_
    refine aw_cVi (stk := []) F T.room [.int (1 : Int32)] (k_X8_fail hP h) mv_X8_fail w_1415 cf8 (lo_s rfl) (hP _ rfl) rfl (by decide) rfl rfl (Nat.le_of_ble_eq_true rfl) ⟨(Nat.le_of_ble_eq_true rfl), (Nat.le_of_ble_eq_true rfl)⟩ ⟨(Nat.le_of_ble_eq_true rfl), (Nat.le_of_ble_eq_true rfl)⟩ dX8_count_134 (fun r_6 G_5 h => ?_)
    exact aw_iret F T (Nat.le_of_ble_eq_true rfl) (Nat.le_of_ble_eq_true rfl) ⟨_, rfl, h⟩ dX8_count_137
  · replace h := h.2
    by_cases c_7 : x1 = (0 : Int32)
    · replace h := h.1 c_7
      refine aw_tabI (tgt := 80) F dX8_count_10 (by rw [c_7]; decide) (by rw [c_7]; decide) (by rw [c_7]; rfl) (by decide) ?_
      refine aw_al_n F 0 dX8_count_80 rfl rfl ?_
      refine gr8_0 F (lo_s rfl) (hP _ rfl) rfl w_1160 (hP _ rfl) dX8_count_81 ?_
      refine aw_ic F dX8_count_84 ic_0 ?_
      refine aw_ialdL F 24 1 (lo_s rfl) (hP _ rfl) rfl (vin_l rfl) tn_0 dX8_count_85 ?_
      exact aw_iret F T (Nat.le_of_ble_eq_true rfl) (Nat.le_of_ble_eq_true rfl) ⟨_, rfl, h⟩ dX8_count_86
    replace h := h.2
    by_cases c_8 : x1 = (1 : Int32)
    · replace h := h.1 c_8
      refine aw_tabI (tgt := 87) F dX8_count_10 (by rw [c_8]; decide) (by rw [c_8]; decide) (by rw [c_8]; rfl) (by decide) ?_
      refine aw_al_n F 0 dX8_count_87 rfl rfl ?_
      refine aw_cVi (stk := []) F T.room [] (k_X8_halvesMany hP h) mv_X8_halvesMany w_1400 cf8 (lo_s rfl) (hP _ rfl) rfl (by decide) rfl rfl (Nat.le_of_ble_eq_true rfl) ⟨(Nat.le_of_ble_eq_true rfl), (Nat.le_of_ble_eq_true rfl)⟩ ⟨(Nat.le_of_ble_eq_true rfl), (Nat.le_of_ble_eq_true rfl)⟩ dX8_count_88 (fun r_10 G_9 h => ?_)
      exact aw_iret F T (Nat.le_of_ble_eq_true rfl) (Nat.le_of_ble_eq_true rfl) ⟨_, rfl, h⟩ dX8_count_91
    replace h := h.2
    by_cases c_11 : x1 = (2 : Int32)
    · replace h := h.1 c_11
      refine aw_tabI (tgt := 92) F dX8_count_10 (by rw [c_11]; decide) (by rw [c_11]; decide) (by rw [c_11]; rfl) (by decide) ?_
      refine aw_al_n F 0 dX8_count_92 rfl rfl ?_
      refine aw_cVi (stk := []) F T.room [] (k_X8_marks hP h) mv_X8_marks w_1305 cf8 (lo_s rfl) (hP _ rfl) rfl (by decide) rfl rfl (Nat.le_of_ble_eq_true rfl) ⟨(Nat.le_of_ble_eq_true rfl), (Nat.le_of_ble_eq_true rfl)⟩ ⟨(Nat.le_of_ble_eq_true rfl), (Nat.le_of_ble_eq_true rfl)⟩ dX8_count_93 (fun r_13 G_12 h => ?_)
      exact aw_iret F T (Nat.le_of_ble_eq_true rfl) (Nat.le_of_ble_eq_true rfl) ⟨_, rfl, h⟩ dX8_count_96
    replace h := h.2
    by_cases c_14 : x1 = (3 : Int32)
    · replace h := h.1 c_14
      refine aw_tabI (tgt := 97) F dX8_count_10 (by rw [c_14]; decide) (by rw [c_14]; decide) (by rw [c_14]; rfl) (by decide) ?_
      refine aw_al_n F 0 dX8_count_97 rfl rfl ?_
      refine aw_cVi (stk := []) F T.room [] (k_X8_neighbours hP h) mv_X8_neighbours w_1404 cf8 (lo_s rfl) (hP _ rfl) rfl (by decide) rfl rfl (Nat.le_of_ble_eq_true rfl) ⟨(Nat.le_of_ble_eq_true rfl), (Nat.le_of_ble_eq_true rfl)⟩ ⟨(Nat.le_of_ble_eq_true rfl), (Nat.le_of_ble_eq_true rfl)⟩ dX8_count_98 (fun r_16 G_15 h => ?_)
      exact aw_iret F T (Nat.le_of_ble_eq_true rfl) (Nat.le_of_ble_eq_true rfl) ⟨_, rfl, h⟩ dX8_count_101
    replace h := h.2
    by_cases c_17 : x1 = (4 : Int32)
    · replace h := h.1 c_17
      refine aw_tabI (tgt := 102) F dX8_count_10 (by rw [c_17]; decide) (by rw [c_17]; decide) (by rw [c_17]; rfl) (by decide) ?_
      refine aw_al_n F 0 dX8_count_102 rfl rfl ?_
      refine aw_ic F dX8_count_103 ic_0 ?_
      refine aw_cVi (stk := []) F T.room [.int (0 : Int32)] (k_X8_couplesOf hP h) mv_X8_couplesOf w_1411 cf8 (lo_s rfl) (hP _ rfl) rfl (by decide) rfl rfl (Nat.le_of_ble_eq_true rfl) ⟨(Nat.le_of_ble_eq_true rfl), (Nat.le_of_ble_eq_true rfl)⟩ ⟨(Nat.le_of_ble_eq_true rfl), (Nat.le_of_ble_eq_true rfl)⟩ dX8_count_104 (fun r_19 G_18 h => ?_)
      exact aw_iret F T (Nat.le_of_ble_eq_true rfl) (Nat.le_of_ble_eq_true rfl) ⟨_, rfl, h⟩ dX8_count_107
    replace h := h.2
    by_cases c_20 : x1 = (5 : Int32)
    · replace h := h.1 c_20
      refine aw_tabI (tgt := 108) F dX8_count_10 (by rw [c_20]; decide) (by rw [c_20]; decide) (by rw [c_20]; rfl) (by decide) ?_
      refine aw_al_n F 0 dX8_count_108 rfl rfl ?_
      refine aw_il_n F 1 dX8_count_109 rfl rfl ?_
      refine aw_ic F dX8_count_110 ic_5 ?_
      refine aw_isub F dX8_count_111 ?_
      refine aw_cVi (stk := []) F T.room [.int (x1 - (5 : Int32))] (k_X8_ruleOf hP h) mv_X8_ruleOf w_1373 cf8 (lo_s rfl) (hP _ rfl) rfl (by decide) rfl rfl (Nat.le_of_ble_eq_true rfl) ⟨(Nat.le_of_ble_eq_true rfl), (Nat.le_of_ble_eq_true rfl)⟩ ⟨(Nat.le_of_ble_eq_true rfl), (Nat.le_of_ble_eq_true rfl)⟩ dX8_count_112 (fun r_22 G_21 h => ?_)
      exact aw_iret F T (Nat.le_of_ble_eq_true rfl) (Nat.le_of_ble_eq_true rfl) ⟨_, rfl, h⟩ dX8_count_115
    replace h := h.2
    by_cases c_23 : x1 = (6 : Int32)
    · replace h := h.1 c_23
      refine aw_tabI (tgt := 108) F dX8_count_10 (by rw [c_23]; decide) (by rw [c_23]; decide) (by rw [c_23]; rfl) (by decide) ?_
      refine aw_al_n F 0 dX8_count_108 rfl rfl ?_
      refine aw_il_n F 1 dX8_count_109 rfl rfl ?_
      refine aw_ic F dX8_count_110 ic_5 ?_
      refine aw_isub F dX8_count_111 ?_
      refine aw_cVi (stk := []) F T.room [.int (x1 - (5 : Int32))] (k_X8_ruleOf hP h) mv_X8_ruleOf w_1373 cf8 (lo_s rfl) (hP _ rfl) rfl (by decide) rfl rfl (Nat.le_of_ble_eq_true rfl) ⟨(Nat.le_of_ble_eq_true rfl), (Nat.le_of_ble_eq_true rfl)⟩ ⟨(Nat.le_of_ble_eq_true rfl), (Nat.le_of_ble_eq_true rfl)⟩ dX8_count_112 (fun r_25 G_24 h => ?_)
      exact aw_iret F T (Nat.le_of_ble_eq_true rfl) (Nat.le_of_ble_eq_true rfl) ⟨_, rfl, h⟩ dX8_count_115
    replace h := h.2
    by_cases c_26 : x1 = (7 : Int32)
    · replace h := h.1 c_26
      refine aw_tabI (tgt := 108) F dX8_count_10 (by rw [c_26]; decide) (by rw [c_26]; decide) (by rw [c_26]; rfl) (by decide) ?_
      refine aw_al_n F 0 dX8_count_108 rfl rfl ?_
      refine aw_il_n F 1 dX8_count_109 rfl rfl ?_
      refine aw_ic F dX8_count_110 ic_5 ?_
      refine aw_isub F dX8_count_111 ?_
      refine aw_cVi (stk := []) F T.room [.int (x1 - (5 : Int32))] (k_X8_ruleOf hP h) mv_X8_ruleOf w_1373 cf8 (lo_s rfl) (hP _ rfl) rfl (by decide) rfl rfl (Nat.le_of_ble_eq_true rfl) ⟨(Nat.le_of_ble_eq_true rfl), (Nat.le_of_ble_eq_true rfl)⟩ ⟨(Nat.le_of_ble_eq_true rfl), (Nat.le_of_ble_eq_true rfl)⟩ dX8_count_112 (fun r_28 G_27 h => ?_)
      exact aw_iret F T (Nat.le_of_ble_eq_true rfl) (Nat.le_of_ble_eq_true rfl) ⟨_, rfl, h⟩ dX8_count_115
    replace h := h.2
    by_cases c_29 : x1 = (8 : Int32)
    · replace h := h.1 c_29
      refine aw_tabI (tgt := 108) F dX8_count_10 (by rw [c_29]; decide) (by rw [c_29]; decide) (by rw [c_29]; rfl) (by decide) ?_
      refine aw_al_n F 0 dX8_count_108 rfl rfl ?_
      refine aw_il_n F 1 dX8_count_109 rfl rfl ?_
      refine aw_ic F dX8_count_110 ic_5 ?_
      refine aw_isub F dX8_count_111 ?_
      refine aw_cVi (stk := []) F T.room [.int (x1 - (5 : Int32))] (k_X8_ruleOf hP h) mv_X8_ruleOf w_1373 cf8 (lo_s rfl) (hP _ rfl) rfl (by decide) rfl rfl (Nat.le_of_ble_eq_true rfl) ⟨(Nat.le_of_ble_eq_true rfl), (Nat.le_of_ble_eq_true rfl)⟩ ⟨(Nat.le_of_ble_eq_true rfl), (Nat.le_of_ble_eq_true rfl)⟩ dX8_count_112 (fun r_31 G_30 h => ?_)
      exact aw_iret F T (Nat.le_of_ble_eq_true rfl) (Nat.le_of_ble_eq_true rfl) ⟨_, rfl, h⟩ dX8_count_115
    replace h := h.2
    by_cases c_32 : x1 = (9 : Int32)
    · replace h := h.1 c_32
      refine aw_tabI (tgt := 108) F dX8_count_10 (by rw [c_32]; decide) (by rw [c_32]; decide) (by rw [c_32]; rfl) (by decide) ?_
      refine aw_al_n F 0 dX8_count_108 rfl rfl ?_
      refine aw_il_n F 1 dX8_count_109 rfl rfl ?_
      refine aw_ic F dX8_count_110 ic_5 ?_
      refine aw_isub F dX8_count_111 ?_
      refine aw_cVi (stk := []) F T.room [.int (x1 - (5 : Int32))] (k_X8_ruleOf hP h) mv_X8_ruleOf w_1373 cf8 (lo_s rfl) (hP _ rfl) rfl (by decide) rfl rfl (Nat.le_of_ble_eq_true rfl) ⟨(Nat.le_of_ble_eq_true rfl), (Nat.le_of_ble_eq_true rfl)⟩ ⟨(Nat.le_of_ble_eq_true rfl), (Nat.le_of_ble_eq_true rfl)⟩ dX8_count_112 (fun r_34 G_33 h => ?_)
      exact aw_iret F T (Nat.le_of_ble_eq_true rfl) (Nat.le_of_ble_eq_true rfl) ⟨_, rfl, h⟩ dX8_count_115
    replace h := h.2
    by_cases c_35 : x1 = (10 : Int32)
    · replace h := h.1 c_35
      refine aw_tabI (tgt := 108) F dX8_count_10 (by rw [c_35]; decide) (by rw [c_35]; decide) (by rw [c_35]; rfl) (by decide) ?_
      refine aw_al_n F 0 dX8_count_108 rfl rfl ?_
      refine aw_il_n F 1 dX8_count_109 rfl rfl ?_
      refine aw_ic F dX8_count_110 ic_5 ?_
      refine aw_isub F dX8_count_111 ?_
      refine aw_cVi (stk := []) F T.room [.int (x1 - (5 : Int32))] (k_X8_ruleOf hP h) mv_X8_ruleOf w_1373 cf8 (lo_s rfl) (hP _ rfl) rfl (by decide) rfl rfl (Nat.le_of_ble_eq_true rfl) ⟨(Nat.le_of_ble_eq_true rfl), (Nat.le_of_ble_eq_true rfl)⟩ ⟨(Nat.le_of_ble_eq_true rfl), (Nat.le_of_ble_eq_true rfl)⟩ dX8_count_112 (fun r_37 G_36 h => ?_)
      exact aw_iret F T (Nat.le_of_ble_eq_true rfl) (Nat.le_of_ble_eq_true rfl) ⟨_, rfl, h⟩ dX8_count_115
    replace h := h.2
    by_cases c_38 : x1 = (11 : Int32)
    · replace h := h.1 c_38
      refine aw_tabI (tgt := 116) F dX8_count_10 (by rw [c_38]; decide) (by rw [c_38]; decide) (by rw [c_38]; rfl) (by decide) ?_
      refine aw_al_n F 0 dX8_count_116 rfl rfl ?_
      refine gf8_4 F (lo_s rfl) (hP _ rfl) rfl w_1164 dX8_count_117 ?_
      exact aw_iret F T (Nat.le_of_ble_eq_true rfl) (Nat.le_of_ble_eq_true rfl) ⟨_, rfl, h⟩ dX8_count_120
    replace h := h.2
    by_cases c_39 : x1 = (12 : Int32)
    · replace h := h.1 c_39
      refine aw_tabI (tgt := 121) F dX8_count_10 (by rw [c_39]; decide) (by rw [c_39]; decide) (by rw [c_39]; rfl) (by decide) ?_
      refine aw_al_n F 0 dX8_count_121 rfl rfl ?_
      refine gf8_32 F (lo_s rfl) (hP _ rfl) rfl w_1192 dX8_count_122 ?_
      exact aw_iret F T (Nat.le_of_ble_eq_true rfl) (Nat.le_of_ble_eq_true rfl) ⟨_, rfl, h⟩ dX8_count_125
    replace h := h.2
    by_cases c_40 : x1 = (13 : Int32)
    · replace h := h c_40
      refine aw_tabI (tgt := 126) F dX8_count_10 (by rw [c_40]; decide) (by rw [c_40]; decide) (by rw [c_40]; rfl) (by decide) ?_
      refine aw_al_n F 0 dX8_count_126 rfl rfl ?_
      refine aw_ic F dX8_count_127 ic_1 ?_
      refine aw_cVi (stk := []) F T.room [.int (1 : Int32)] (k_X8_couplesOf hP h) mv_X8_couplesOf w_1411 cf8 (lo_s rfl) (hP _ rfl) rfl (by decide) rfl rfl (Nat.le_of_ble_eq_true rfl) ⟨(Nat.le_of_ble_eq_true rfl), (Nat.le_of_ble_eq_true rfl)⟩ ⟨(Nat.le_of_ble_eq_true rfl), (Nat.le_of_ble_eq_true rfl)⟩ dX8_count_128 (fun r_42 G_41 h => ?_)
      exact aw_iret F T (Nat.le_of_ble_eq_true rfl) (Nat.le_of_ble_eq_true rfl) ⟨_, rfl, h⟩ dX8_count_131
    exfalso
    have qc_7 := ne_ti c_7 (show (0 : Int32).toInt = 0 by decide)
    have qc_8 := ne_ti c_8 (show (1 : Int32).toInt = 1 by decide)
    have qc_11 := ne_ti c_11 (show (2 : Int32).toInt = 2 by decide)
    have qc_14 := ne_ti c_14 (show (3 : Int32).toInt = 3 by decide)
    have qc_17 := ne_ti c_17 (show (4 : Int32).toInt = 4 by decide)
    have qc_20 := ne_ti c_20 (show (5 : Int32).toInt = 5 by decide)
    have qc_23 := ne_ti c_23 (show (6 : Int32).toInt = 6 by decide)
    have qc_26 := ne_ti c_26 (show (7 : Int32).toInt = 7 by decide)
    have qc_29 := ne_ti c_29 (show (8 : Int32).toInt = 8 by decide)
    have qc_32 := ne_ti c_32 (show (9 : Int32).toInt = 9 by decide)
    have qc_35 := ne_ti c_35 (show (10 : Int32).toInt = 10 by decide)
    have qc_38 := ne_ti c_38 (show (11 : Int32).toInt = 11 by decide)
    have qc_39 := ne_ti c_39 (show (12 : Int32).toInt = 12 by decide)
    have qc_40 := ne_ti c_40 (show (13 : Int32).toInt = 13 by decide)
    omega
-- X8_mark (height 8)
def j_X8_mark_23 (post : Int32 → GH → Prop) (G : GH) : Prop :=
  wp_X8_fail (fun (r_6 : Int32) (G_5 : GH) => post r_6 G_5) (1 : Int32) G
def wp_X8_mark (post : Int32 → GH → Prop) (x1 x2 : Int32) (G : GH) : Prop :=
  (∀ G_1 : GH, G_1 = gs G 24 0 (upd (G 24 0) 5 (0 : Int32)) → wp_X8_isMark (fun (b_3 : Bool) (G_2 : GH) => ((b_3 = false → j_X8_mark_23 post G_2) ∧ (b_3 = true → wp_X8_within (fun (b_8 : Bool) (G_7 : GH) => ((b_8 = false → j_X8_mark_23 post G_7) ∧ (b_8 = true → wp_X8_lay (fun (G_10 : GH) => (((x2.toInt < 0 ∨ 5 < x2.toInt) → (vp_in x1 13 ∧ post (G_10 24 19 x1.toNatClampNeg) G_10)) ∧ (x2 = (0 : Int32) → wp_X8_of1 (fun (r_15 : Int32) (G_14 : GH) => post r_15 G_14) x1 (12 : Int32) G_10) ∧ (x2 = (1 : Int32) → wp_X8_of1 (fun (r_18 : Int32) (G_17 : GH) => post r_18 G_17) x1 (11 : Int32) G_10) ∧ (x2 = (2 : Int32) → wp_X8_of1 (fun (r_21 : Int32) (G_20 : GH) => post r_21 G_20) x1 (13 : Int32) G_10) ∧ (x2 = (3 : Int32) → wp_X8_of1 (fun (r_24 : Int32) (G_23 : GH) => post r_24 G_23) x1 (0 : Int32) G_10) ∧ (x2 = (4 : Int32) → (vp_in x1 13 ∧ post (G_10 24 10 x1.toNatClampNeg) G_10)) ∧ (x2 = (5 : Int32) → (vp_in x1 13 ∧ post (G_10 24 18 x1.toNatClampNeg) G_10)))) G_7))) x2 (0 : Int32) (6 : Int32) G_2))) x1 G_1)
set_option maxRecDepth 100000 in
set_option maxHeartbeats 4000000 in
theorem kj_X8_mark_23 {E : Ev} {X : Cx} {post : Int32 → GH → Prop} {G : GH} (F : Fx E X "MarkFieldModel" cX8_mark 3) (T : RT E X 8 0 0 (some .int) (pI post)) (h : j_X8_mark_23 post G) : AW E X 3 23 [(0, .ref (sdX X 24 0))] [] G 0 0 := by
  have hP := F.P
  refine aw_al_n F 0 dX8_mark_23 rfl rfl ?_
  refine aw_ic F dX8_mark_24 ic_1 ?_
  refine aw_cVi (stk := []) F T.room [.int (1 : Int32)] (k_X8_fail hP h) mv_X8_fail w_1415 cf8 (lo_s rfl) (hP _ rfl) rfl (by decide) rfl rfl (Nat.le_of_ble_eq_true rfl) ⟨(Nat.le_of_ble_eq_true rfl), (Nat.le_of_ble_eq_true rfl)⟩ ⟨(Nat.le_of_ble_eq_true rfl), (Nat.le_of_ble_eq_true rfl)⟩ dX8_mark_25 (fun r_6 G_5 h => ?_)
  exact aw_iret F T (Nat.le_of_ble_eq_true rfl) (Nat.le_of_ble_eq_true rfl) ⟨_, rfl, h⟩ dX8_mark_28
set_option maxRecDepth 100000 in
set_option maxHeartbeats 4000000 in
theorem k_X8_mark {l : Launch} {E : Ev} {P : Nat → Prop} {sd : Nat → Nat → Nat} {G : GH} {post : Int32 → GH → Prop} {x1 x2 : Int32} (hPP : ∀ o, stt o = true → P o) (h : wp_X8_mark post x1 x2 G) : Ct l yX8_mark cX8_mark 3 (some .int) 8 0 0 E P sd G [.ref (sd 24 0), .int x1, .int x2] (pI post) := by
  refine ct_of (own := "MarkFieldModel") (by decide) rfl (Nat.le_of_ble_eq_true rfl) hPP (fun X F T el eP es => ?_)
  subst el; subst eP; subst es
  have hP := F.P
  change AW E X 3 0 [(0, .ref (sdX X 24 0)), (1, .int x1), (2, .int x2)] [] G 0 0
  refine aw_al_n F 0 dX8_mark_0 rfl rfl ?_
  refine aw_ic F dX8_mark_1 ic_0 ?_
  refine pf8_5 F (lo_s rfl) (hP _ rfl) rfl w_1165 dX8_mark_2 (fun G_1 eG_1 => ?_)
  replace h := h G_1 eG_1
  refine aw_al_n F 0 dX8_mark_5 rfl rfl ?_
  refine aw_il_n F 1 dX8_mark_6 rfl rfl ?_
  refine aw_cVb (stk := []) F T.room [.int x1] (k_X8_isMark hP h) mv_X8_isMark w_1423 cf8 (lo_s rfl) (hP _ rfl) rfl (by decide) rfl rfl (Nat.le_of_ble_eq_true rfl) ⟨(Nat.le_of_ble_eq_true rfl), (Nat.le_of_ble_eq_true rfl)⟩ ⟨(Nat.le_of_ble_eq_true rfl), (Nat.le_of_ble_eq_true rfl)⟩ dX8_mark_7 (fun b_3 G_2 h => ?_)
  refine aw_if_eq (tgt := 23) F dX8_mark_10 (by decide) (fun c_4 => ?_) (fun c_4 => ?_)
  · replace h := h.1 (bI_2 c_4)
    refine aw_sub [0] rfl ?_
    exact kj_X8_mark_23 F T h
  · replace h := h.2 (bI_1 c_4)
    refine aw_il_n F 2 dX8_mark_13 rfl rfl ?_
    refine aw_ic F dX8_mark_14 ic_0 ?_
    refine aw_bi F dX8_mark_15 bi_6 ?_
    refine aw_cSb (stk := []) F T.room [.int x2, .int (0 : Int32), .int (6 : Int32)] (k_X8_within hP h) ms_X8_within w_1427 rfl rfl (Nat.le_of_ble_eq_true rfl) ⟨(Nat.le_of_ble_eq_true rfl), (Nat.le_of_ble_eq_true rfl)⟩ ⟨(Nat.le_of_ble_eq_true rfl), (Nat.le_of_ble_eq_true rfl)⟩ dX8_mark_17 (fun b_8 G_7 h => ?_)
    refine aw_if_ne (tgt := 29) F dX8_mark_20 (by decide) (fun c_9 => ?_) (fun c_9 => ?_)
    · replace h := h.2 (bI_1 c_9)
      refine aw_al_n F 0 dX8_mark_29 rfl rfl ?_
      refine aw_cVv (stk := []) F T.room [] (k_X8_lay hP h) mv_X8_lay w_1301 cf8 (lo_s rfl) (hP _ rfl) rfl (by decide) rfl rfl (Nat.le_of_ble_eq_true rfl) ⟨(Nat.le_of_ble_eq_true rfl), (Nat.le_of_ble_eq_true rfl)⟩ ⟨(Nat.le_of_ble_eq_true rfl), (Nat.le_of_ble_eq_true rfl)⟩ dX8_mark_30 (fun G_10 h => ?_)
      refine aw_il_n F 2 dX8_mark_33 rfl rfl ?_
      by_cases c_12 : x2.toInt < 0 ∨ 5 < x2.toInt
      · replace h := h.1 c_12
        refine aw_tabO (tgt := 117) F dX8_mark_34 c_12 (by decide) ?_
        refine aw_al_n F 0 dX8_mark_117 rfl rfl ?_
        refine gr8_18 F (lo_s rfl) (hP _ rfl) rfl w_1178 (hP _ rfl) dX8_mark_118 ?_
        refine aw_il_n F 1 dX8_mark_121 rfl rfl ?_
        refine aw_iald F 24 19 (lo_s rfl) (hP _ rfl) rfl h.1 dX8_mark_122 ?_
        replace h := h.2
        exact aw_iret F T (Nat.le_of_ble_eq_true rfl) (Nat.le_of_ble_eq_true rfl) ⟨_, rfl, h⟩ dX8_mark_123
      · replace h := h.2
        by_cases c_13 : x2 = (0 : Int32)
        · replace h := h.1 c_13
          refine aw_tabI (tgt := 72) F dX8_mark_34 (by rw [c_13]; decide) (by rw [c_13]; decide) (by rw [c_13]; rfl) (by decide) ?_
          refine aw_al_n F 0 dX8_mark_72 rfl rfl ?_
          refine aw_il_n F 1 dX8_mark_73 rfl rfl ?_
          refine aw_bi F dX8_mark_74 bi_12 ?_
          refine aw_cVi (stk := []) F T.room [.int x1, .int (12 : Int32)] (k_X8_of1 hP h) mv_X8_of1 w_1313 cf8 (lo_s rfl) (hP _ rfl) rfl (by decide) rfl rfl (Nat.le_of_ble_eq_true rfl) ⟨(Nat.le_of_ble_eq_true rfl), (Nat.le_of_ble_eq_true rfl)⟩ ⟨(Nat.le_of_ble_eq_true rfl), (Nat.le_of_ble_eq_true rfl)⟩ dX8_mark_76 (fun r_15 G_14 h => ?_)
          exact aw_iret F T (Nat.le_of_ble_eq_true rfl) (Nat.le_of_ble_eq_true rfl) ⟨_, rfl, h⟩ dX8_mark_79
        replace h := h.2
        by_cases c_16 : x2 = (1 : Int32)
        · replace h := h.1 c_16
          refine aw_tabI (tgt := 80) F dX8_mark_34 (by rw [c_16]; decide) (by rw [c_16]; decide) (by rw [c_16]; rfl) (by decide) ?_
          refine aw_al_n F 0 dX8_mark_80 rfl rfl ?_
          refine aw_il_n F 1 dX8_mark_81 rfl rfl ?_
          refine aw_bi F dX8_mark_82 bi_11 ?_
          refine aw_cVi (stk := []) F T.room [.int x1, .int (11 : Int32)] (k_X8_of1 hP h) mv_X8_of1 w_1313 cf8 (lo_s rfl) (hP _ rfl) rfl (by decide) rfl rfl (Nat.le_of_ble_eq_true rfl) ⟨(Nat.le_of_ble_eq_true rfl), (Nat.le_of_ble_eq_true rfl)⟩ ⟨(Nat.le_of_ble_eq_true rfl), (Nat.le_of_ble_eq_true rfl)⟩ dX8_mark_84 (fun r_18 G_17 h => ?_)
          exact aw_iret F T (Nat.le_of_ble_eq_true rfl) (Nat.le_of_ble_eq_true rfl) ⟨_, rfl, h⟩ dX8_mark_87
        replace h := h.2
        by_cases c_19 : x2 = (2 : Int32)
        · replace h := h.1 c_19
          refine aw_tabI (tgt := 88) F dX8_mark_34 (by rw [c_19]; decide) (by rw [c_19]; decide) (by rw [c_19]; rfl) (by decide) ?_
          refine aw_al_n F 0 dX8_mark_88 rfl rfl ?_
          refine aw_il_n F 1 dX8_mark_89 rfl rfl ?_
          refine aw_bi F dX8_mark_90 bi_13 ?_
          refine aw_cVi (stk := []) F T.room [.int x1, .int (13 : Int32)] (k_X8_of1 hP h) mv_X8_of1 w_1313 cf8 (lo_s rfl) (hP _ rfl) rfl (by decide) rfl rfl (Nat.le_of_ble_eq_true rfl) ⟨(Nat.le_of_ble_eq_true rfl), (Nat.le_of_ble_eq_true rfl)⟩ ⟨(Nat.le_of_ble_eq_true rfl), (Nat.le_of_ble_eq_true rfl)⟩ dX8_mark_92 (fun r_21 G_20 h => ?_)
          exact aw_iret F T (Nat.le_of_ble_eq_true rfl) (Nat.le_of_ble_eq_true rfl) ⟨_, rfl, h⟩ dX8_mark_95
        replace h := h.2
        by_cases c_22 : x2 = (3 : Int32)
        · replace h := h.1 c_22
          refine aw_tabI (tgt := 96) F dX8_mark_34 (by rw [c_22]; decide) (by rw [c_22]; decide) (by rw [c_22]; rfl) (by decide) ?_
          refine aw_al_n F 0 dX8_mark_96 rfl rfl ?_
          refine aw_il_n F 1 dX8_mark_97 rfl rfl ?_
          refine aw_ic F dX8_mark_98 ic_0 ?_
          refine aw_cVi (stk := []) F T.room [.int x1, .int (0 : Int32)] (k_X8_of1 hP h) mv_X8_of1 w_1313 cf8 (lo_s rfl) (hP _ rfl) rfl (by decide) rfl rfl (Nat.le_of_ble_eq_true rfl) ⟨(Nat.le_of_ble_eq_true rfl), (Nat.le_of_ble_eq_true rfl)⟩ ⟨(Nat.le_of_ble_eq_true rfl), (Nat.le_of_ble_eq_true rfl)⟩ dX8_mark_99 (fun r_24 G_23 h => ?_)
          exact aw_iret F T (Nat.le_of_ble_eq_true rfl) (Nat.le_of_ble_eq_true rfl) ⟨_, rfl, h⟩ dX8_mark_102
        replace h := h.2
        by_cases c_25 : x2 = (4 : Int32)
        · replace h := h.1 c_25
          refine aw_tabI (tgt := 103) F dX8_mark_34 (by rw [c_25]; decide) (by rw [c_25]; decide) (by rw [c_25]; rfl) (by decide) ?_
          refine aw_al_n F 0 dX8_mark_103 rfl rfl ?_
          refine gr8_9 F (lo_s rfl) (hP _ rfl) rfl w_1169 (hP _ rfl) dX8_mark_104 ?_
          refine aw_il_n F 1 dX8_mark_107 rfl rfl ?_
          refine aw_iald F 24 10 (lo_s rfl) (hP _ rfl) rfl h.1 dX8_mark_108 ?_
          replace h := h.2
          exact aw_iret F T (Nat.le_of_ble_eq_true rfl) (Nat.le_of_ble_eq_true rfl) ⟨_, rfl, h⟩ dX8_mark_109
        replace h := h.2
        by_cases c_26 : x2 = (5 : Int32)
        · replace h := h c_26
          refine aw_tabI (tgt := 110) F dX8_mark_34 (by rw [c_26]; decide) (by rw [c_26]; decide) (by rw [c_26]; rfl) (by decide) ?_
          refine aw_al_n F 0 dX8_mark_110 rfl rfl ?_
          refine gr8_17 F (lo_s rfl) (hP _ rfl) rfl w_1177 (hP _ rfl) dX8_mark_111 ?_
          refine aw_il_n F 1 dX8_mark_114 rfl rfl ?_
          refine aw_iald F 24 18 (lo_s rfl) (hP _ rfl) rfl h.1 dX8_mark_115 ?_
          replace h := h.2
          exact aw_iret F T (Nat.le_of_ble_eq_true rfl) (Nat.le_of_ble_eq_true rfl) ⟨_, rfl, h⟩ dX8_mark_116
        exfalso
        have qc_13 := ne_ti c_13 (show (0 : Int32).toInt = 0 by decide)
        have qc_16 := ne_ti c_16 (show (1 : Int32).toInt = 1 by decide)
        have qc_19 := ne_ti c_19 (show (2 : Int32).toInt = 2 by decide)
        have qc_22 := ne_ti c_22 (show (3 : Int32).toInt = 3 by decide)
        have qc_25 := ne_ti c_25 (show (4 : Int32).toInt = 4 by decide)
        have qc_26 := ne_ti c_26 (show (5 : Int32).toInt = 5 by decide)
        omega
    · replace h := h.1 (bI_2 c_9)
      refine aw_sub [0] rfl ?_
      exact kj_X8_mark_23 F T h
-- X8_letter (height 8)
def j_X8_letter_17 (post : Int32 → GH → Prop) (G : GH) : Prop :=
  wp_X8_fail (fun (r_6 : Int32) (G_5 : GH) => post r_6 G_5) (1 : Int32) G
def wp_X8_letter (post : Int32 → GH → Prop) (x1 x2 x3 : Int32) (G : GH) : Prop :=
  (∀ G_1 : GH, G_1 = gs G 24 0 (upd (G 24 0) 5 (0 : Int32)) → wp_X8_isMark (fun (b_3 : Bool) (G_2 : GH) => ((b_3 = false → j_X8_letter_17 post G_2) ∧ (b_3 = true → ((0 ≤ x2 → wp_X8_lay (fun (G_8 : GH) => ((x3 = 0 → wp_X8_of1 (fun (r_12 : Int32) (G_11 : GH) => ((r_12 ≤ x2 → post (-1 : Int32) G_11) ∧ (¬ r_12 ≤ x2 → wp_X8_of1 (fun (r_15 : Int32) (G_14 : GH) => post ((r_15 - (97 : Int32)) + (1 : Int32)) G_14) x1 ((1 : Int32) + x2) G_11))) x1 (0 : Int32) G_8) ∧ (¬ x3 = 0 → (vp_in x1 13 ∧ (((G_8 24 10 x1.toNatClampNeg) ≤ x2 → post (-1 : Int32) G_8) ∧ (¬ (G_8 24 10 x1.toNatClampNeg) ≤ x2 → (vp_in (((20 : Int32) * x1) + x2) 260 ∧ post (G_8 24 9 (((20 : Int32) * x1) + x2).toNatClampNeg) G_8))))))) G_2) ∧ (¬ 0 ≤ x2 → j_X8_letter_17 post G_2))))) x1 G_1)
set_option maxRecDepth 100000 in
set_option maxHeartbeats 4000000 in
theorem kj_X8_letter_17 {E : Ev} {X : Cx} {post : Int32 → GH → Prop} {G : GH} (F : Fx E X "MarkFieldModel" cX8_letter 4) (T : RT E X 8 0 0 (some .int) (pI post)) (h : j_X8_letter_17 post G) : AW E X 4 17 [(0, .ref (sdX X 24 0))] [] G 0 0 := by
  have hP := F.P
  refine aw_al_n F 0 dX8_letter_17 rfl rfl ?_
  refine aw_ic F dX8_letter_18 ic_1 ?_
  refine aw_cVi (stk := []) F T.room [.int (1 : Int32)] (k_X8_fail hP h) mv_X8_fail w_1415 cf8 (lo_s rfl) (hP _ rfl) rfl (by decide) rfl rfl (Nat.le_of_ble_eq_true rfl) ⟨(Nat.le_of_ble_eq_true rfl), (Nat.le_of_ble_eq_true rfl)⟩ ⟨(Nat.le_of_ble_eq_true rfl), (Nat.le_of_ble_eq_true rfl)⟩ dX8_letter_19 (fun r_6 G_5 h => ?_)
  exact aw_iret F T (Nat.le_of_ble_eq_true rfl) (Nat.le_of_ble_eq_true rfl) ⟨_, rfl, h⟩ dX8_letter_22
set_option maxRecDepth 100000 in
set_option maxHeartbeats 4000000 in
theorem k_X8_letter {l : Launch} {E : Ev} {P : Nat → Prop} {sd : Nat → Nat → Nat} {G : GH} {post : Int32 → GH → Prop} {x1 x2 x3 : Int32} (hPP : ∀ o, stt o = true → P o) (h : wp_X8_letter post x1 x2 x3 G) : Ct l yX8_letter cX8_letter 4 (some .int) 8 0 0 E P sd G [.ref (sd 24 0), .int x1, .int x2, .int x3] (pI post) := by
  refine ct_of (own := "MarkFieldModel") (by decide) rfl (Nat.le_of_ble_eq_true rfl) hPP (fun X F T el eP es => ?_)
  subst el; subst eP; subst es
  have hP := F.P
  change AW E X 4 0 [(0, .ref (sdX X 24 0)), (1, .int x1), (2, .int x2), (3, .int x3)] [] G 0 0
  refine aw_al_n F 0 dX8_letter_0 rfl rfl ?_
  refine aw_ic F dX8_letter_1 ic_0 ?_
  refine pf8_5 F (lo_s rfl) (hP _ rfl) rfl w_1165 dX8_letter_2 (fun G_1 eG_1 => ?_)
  replace h := h G_1 eG_1
  refine aw_al_n F 0 dX8_letter_5 rfl rfl ?_
  refine aw_il_n F 1 dX8_letter_6 rfl rfl ?_
  refine aw_cVb (stk := []) F T.room [.int x1] (k_X8_isMark hP h) mv_X8_isMark w_1423 cf8 (lo_s rfl) (hP _ rfl) rfl (by decide) rfl rfl (Nat.le_of_ble_eq_true rfl) ⟨(Nat.le_of_ble_eq_true rfl), (Nat.le_of_ble_eq_true rfl)⟩ ⟨(Nat.le_of_ble_eq_true rfl), (Nat.le_of_ble_eq_true rfl)⟩ dX8_letter_7 (fun b_3 G_2 h => ?_)
  refine aw_if_eq (tgt := 17) F dX8_letter_10 (by decide) (fun c_4 => ?_) (fun c_4 => ?_)
  · replace h := h.1 (bI_2 c_4)
    refine aw_sub [0] rfl ?_
    exact kj_X8_letter_17 F T h
  · replace h := h.2 (bI_1 c_4)
    refine aw_il_n F 2 dX8_letter_13 rfl rfl ?_
    refine aw_if_ge (tgt := 23) F dX8_letter_14 (by decide) (fun c_7 => ?_) (fun c_7 => ?_)
    · replace h := h.1 c_7
      refine aw_al_n F 0 dX8_letter_23 rfl rfl ?_
      refine aw_cVv (stk := []) F T.room [] (k_X8_lay hP h) mv_X8_lay w_1301 cf8 (lo_s rfl) (hP _ rfl) rfl (by decide) rfl rfl (Nat.le_of_ble_eq_true rfl) ⟨(Nat.le_of_ble_eq_true rfl), (Nat.le_of_ble_eq_true rfl)⟩ ⟨(Nat.le_of_ble_eq_true rfl), (Nat.le_of_ble_eq_true rfl)⟩ dX8_letter_24 (fun G_8 h => ?_)
      refine aw_il_n F 3 dX8_letter_27 rfl rfl ?_
      refine aw_if_eq (tgt := 57) F dX8_letter_28 (by decide) (fun c_10 => ?_) (fun c_10 => ?_)
      · replace h := h.1 c_10
        refine aw_il_n F 2 dX8_letter_57 rfl rfl ?_
        refine aw_al_n F 0 dX8_letter_58 rfl rfl ?_
        refine aw_il_n F 1 dX8_letter_59 rfl rfl ?_
        refine aw_ic F dX8_letter_60 ic_0 ?_
        refine aw_cVi (stk := [.int x2]) F T.room [.int x1, .int (0 : Int32)] (k_X8_of1 hP h) mv_X8_of1 w_1313 cf8 (lo_s rfl) (hP _ rfl) rfl (by decide) rfl rfl (Nat.le_of_ble_eq_true rfl) ⟨(Nat.le_of_ble_eq_true rfl), (Nat.le_of_ble_eq_true rfl)⟩ ⟨(Nat.le_of_ble_eq_true rfl), (Nat.le_of_ble_eq_true rfl)⟩ dX8_letter_61 (fun r_12 G_11 h => ?_)
        refine aw_icmp_ge (tgt := 83) F dX8_letter_64 (by decide) (fun c_13 => ?_) (fun c_13 => ?_)
        · replace h := h.1 c_13
          refine aw_ic F dX8_letter_83 ic_m1 ?_
          exact aw_iret F T (Nat.le_of_ble_eq_true rfl) (Nat.le_of_ble_eq_true rfl) ⟨_, rfl, h⟩ dX8_letter_84
        · replace h := h.2 c_13
          refine aw_al_n F 0 dX8_letter_67 rfl rfl ?_
          refine aw_il_n F 1 dX8_letter_68 rfl rfl ?_
          refine aw_ic F dX8_letter_69 ic_1 ?_
          refine aw_il_n F 2 dX8_letter_70 rfl rfl ?_
          refine aw_iadd F dX8_letter_71 ?_
          refine aw_cVi (stk := []) F T.room [.int x1, .int ((1 : Int32) + x2)] (k_X8_of1 hP h) mv_X8_of1 w_1313 cf8 (lo_s rfl) (hP _ rfl) rfl (by decide) rfl rfl (Nat.le_of_ble_eq_true rfl) ⟨(Nat.le_of_ble_eq_true rfl), (Nat.le_of_ble_eq_true rfl)⟩ ⟨(Nat.le_of_ble_eq_true rfl), (Nat.le_of_ble_eq_true rfl)⟩ dX8_letter_72 (fun r_15 G_14 h => ?_)
          refine aw_bi F dX8_letter_75 bi_97 ?_
          refine aw_isub F dX8_letter_77 ?_
          refine aw_ic F dX8_letter_78 ic_1 ?_
          refine aw_iadd F dX8_letter_79 ?_
          refine aw_go (tgt := 84) F dX8_letter_80 (by decide) ?_
          exact aw_iret F T (Nat.le_of_ble_eq_true rfl) (Nat.le_of_ble_eq_true rfl) ⟨_, rfl, h⟩ dX8_letter_84
      · replace h := h.2 c_10
        refine aw_il_n F 2 dX8_letter_31 rfl rfl ?_
        refine aw_al_n F 0 dX8_letter_32 rfl rfl ?_
        refine gr8_9 F (lo_s rfl) (hP _ rfl) rfl w_1169 (hP _ rfl) dX8_letter_33 ?_
        refine aw_il_n F 1 dX8_letter_36 rfl rfl ?_
        refine aw_iald F 24 10 (lo_s rfl) (hP _ rfl) rfl h.1 dX8_letter_37 ?_
        replace h := h.2
        refine aw_icmp_ge (tgt := 55) F dX8_letter_38 (by decide) (fun c_16 => ?_) (fun c_16 => ?_)
        · replace h := h.1 c_16
          refine aw_ic F dX8_letter_55 ic_m1 ?_
          exact aw_iret F T (Nat.le_of_ble_eq_true rfl) (Nat.le_of_ble_eq_true rfl) ⟨_, rfl, h⟩ dX8_letter_56
        · replace h := h.2 c_16
          refine aw_al_n F 0 dX8_letter_41 rfl rfl ?_
          refine gr8_8 F (lo_s rfl) (hP _ rfl) rfl w_1168 (hP _ rfl) dX8_letter_42 ?_
          refine aw_bi F dX8_letter_45 bi_20 ?_
          refine aw_il_n F 1 dX8_letter_47 rfl rfl ?_
          refine aw_imul F dX8_letter_48 ?_
          refine aw_il_n F 2 dX8_letter_49 rfl rfl ?_
          refine aw_iadd F dX8_letter_50 ?_
          refine aw_iald F 24 9 (lo_s rfl) (hP _ rfl) rfl h.1 dX8_letter_51 ?_
          replace h := h.2
          refine aw_go (tgt := 56) F dX8_letter_52 (by decide) ?_
          exact aw_iret F T (Nat.le_of_ble_eq_true rfl) (Nat.le_of_ble_eq_true rfl) ⟨_, rfl, h⟩ dX8_letter_56
    · replace h := h.2 c_7
      refine aw_sub [0] rfl ?_
      exact kj_X8_letter_17 F T h
-- X8_used (height 2)
def j_X8_used_39 (post : Int32 → GH → Prop) (G : GH) : Prop :=
  wp_X8_fail (fun (r_6 : Int32) (G_5 : GH) => post r_6 G_5) (1 : Int32) G
def wp_X8_used (post : Int32 → GH → Prop) (x1 x2 x3 : Int32) (G : GH) : Prop :=
  (∀ G_1 : GH, G_1 = gs G 24 0 (upd (G 24 0) 5 (0 : Int32)) → wp_X8_isMark (fun (b_3 : Bool) (G_2 : GH) => ((b_3 = false → j_X8_used_39 post G_2) ∧ (b_3 = true → wp_X8_of1 (fun (r_8 : Int32) (G_7 : GH) => wp_X8_within (fun (b_10 : Bool) (G_9 : GH) => ((b_10 = false → j_X8_used_39 post G_9) ∧ (b_10 = true → wp_X8_within (fun (b_13 : Bool) (G_12 : GH) => ((b_13 = false → j_X8_used_39 post G_12) ∧ (b_13 = true → wp_X8_of1 (fun (r_16 : Int32) (G_15 : GH) => post r_16 G_15) x1 (((14 : Int32) + ((3 : Int32) * x2)) + x3) G_12))) x3 (0 : Int32) (2 : Int32) G_9))) x2 (0 : Int32) (r_8 - (1 : Int32)) G_7) x1 (13 : Int32) G_2))) x1 G_1)
set_option maxRecDepth 100000 in
set_option maxHeartbeats 4000000 in
theorem kj_X8_used_39 {E : Ev} {X : Cx} {post : Int32 → GH → Prop} {G : GH} (F : Fx E X "MarkFieldModel" cX8_used 4) (T : RT E X 2 0 0 (some .int) (pI post)) (h : j_X8_used_39 post G) : AW E X 4 39 [(0, .ref (sdX X 24 0))] [] G 0 0 := by
  have hP := F.P
  refine aw_al_n F 0 dX8_used_39 rfl rfl ?_
  refine aw_ic F dX8_used_40 ic_1 ?_
  refine aw_cVi (stk := []) F T.room [.int (1 : Int32)] (k_X8_fail hP h) mv_X8_fail w_1415 cf8 (lo_s rfl) (hP _ rfl) rfl (by decide) rfl rfl (Nat.le_of_ble_eq_true rfl) ⟨(Nat.le_of_ble_eq_true rfl), (Nat.le_of_ble_eq_true rfl)⟩ ⟨(Nat.le_of_ble_eq_true rfl), (Nat.le_of_ble_eq_true rfl)⟩ dX8_used_41 (fun r_6 G_5 h => ?_)
  exact aw_iret F T (Nat.le_of_ble_eq_true rfl) (Nat.le_of_ble_eq_true rfl) ⟨_, rfl, h⟩ dX8_used_44
set_option maxRecDepth 100000 in
set_option maxHeartbeats 4000000 in
theorem k_X8_used {l : Launch} {E : Ev} {P : Nat → Prop} {sd : Nat → Nat → Nat} {G : GH} {post : Int32 → GH → Prop} {x1 x2 x3 : Int32} (hPP : ∀ o, stt o = true → P o) (h : wp_X8_used post x1 x2 x3 G) : Ct l yX8_used cX8_used 4 (some .int) 2 0 0 E P sd G [.ref (sd 24 0), .int x1, .int x2, .int x3] (pI post) := by
  refine ct_of (own := "MarkFieldModel") (by decide) rfl (Nat.le_of_ble_eq_true rfl) hPP (fun X F T el eP es => ?_)
  subst el; subst eP; subst es
  have hP := F.P
  change AW E X 4 0 [(0, .ref (sdX X 24 0)), (1, .int x1), (2, .int x2), (3, .int x3)] [] G 0 0
  refine aw_al_n F 0 dX8_used_0 rfl rfl ?_
  refine aw_ic F dX8_used_1 ic_0 ?_
  refine pf8_5 F (lo_s rfl) (hP _ rfl) rfl w_1165 dX8_used_2 (fun G_1 eG_1 => ?_)
  replace h := h G_1 eG_1
  refine aw_al_n F 0 dX8_used_5 rfl rfl ?_
  refine aw_il_n F 1 dX8_used_6 rfl rfl ?_
  refine aw_cVb (stk := []) F T.room [.int x1] (k_X8_isMark hP h) mv_X8_isMark w_1423 cf8 (lo_s rfl) (hP _ rfl) rfl (by decide) rfl rfl (Nat.le_of_ble_eq_true rfl) ⟨(Nat.le_of_ble_eq_true rfl), (Nat.le_of_ble_eq_true rfl)⟩ ⟨(Nat.le_of_ble_eq_true rfl), (Nat.le_of_ble_eq_true rfl)⟩ dX8_used_7 (fun b_3 G_2 h => ?_)
  refine aw_if_eq (tgt := 39) F dX8_used_10 (by decide) (fun c_4 => ?_) (fun c_4 => ?_)
  · replace h := h.1 (bI_2 c_4)
    refine aw_sub [0] rfl ?_
    exact kj_X8_used_39 F T h
  · replace h := h.2 (bI_1 c_4)
    refine aw_il_n F 2 dX8_used_13 rfl rfl ?_
    refine aw_ic F dX8_used_14 ic_0 ?_
    refine aw_al_n F 0 dX8_used_15 rfl rfl ?_
    refine aw_il_n F 1 dX8_used_16 rfl rfl ?_
    refine aw_bi F dX8_used_17 bi_13 ?_
    refine aw_cVi (stk := [.int (0 : Int32), .int x2]) F T.room [.int x1, .int (13 : Int32)] (k_X8_of1 hP h) mv_X8_of1 w_1313 cf8 (lo_s rfl) (hP _ rfl) rfl (by decide) rfl rfl (Nat.le_of_ble_eq_true rfl) ⟨(Nat.le_of_ble_eq_true rfl), (Nat.le_of_ble_eq_true rfl)⟩ ⟨(Nat.le_of_ble_eq_true rfl), (Nat.le_of_ble_eq_true rfl)⟩ dX8_used_19 (fun r_8 G_7 h => ?_)
    refine aw_ic F dX8_used_22 ic_1 ?_
    refine aw_isub F dX8_used_23 ?_
    refine aw_cSb (stk := []) F T.room [.int x2, .int (0 : Int32), .int (r_8 - (1 : Int32))] (k_X8_within hP h) ms_X8_within w_1427 rfl rfl (Nat.le_of_ble_eq_true rfl) ⟨(Nat.le_of_ble_eq_true rfl), (Nat.le_of_ble_eq_true rfl)⟩ ⟨(Nat.le_of_ble_eq_true rfl), (Nat.le_of_ble_eq_true rfl)⟩ dX8_used_24 (fun b_10 G_9 h => ?_)
    refine aw_if_eq (tgt := 39) F dX8_used_27 (by decide) (fun c_11 => ?_) (fun c_11 => ?_)
    · replace h := h.1 (bI_2 c_11)
      refine aw_sub [0] rfl ?_
      exact kj_X8_used_39 F T h
    · replace h := h.2 (bI_1 c_11)
      refine aw_il_n F 3 dX8_used_30 rfl rfl ?_
      refine aw_ic F dX8_used_31 ic_0 ?_
      refine aw_ic F dX8_used_32 ic_2 ?_
      refine aw_cSb (stk := []) F T.room [.int x3, .int (0 : Int32), .int (2 : Int32)] (k_X8_within hP h) ms_X8_within w_1427 rfl rfl (Nat.le_of_ble_eq_true rfl) ⟨(Nat.le_of_ble_eq_true rfl), (Nat.le_of_ble_eq_true rfl)⟩ ⟨(Nat.le_of_ble_eq_true rfl), (Nat.le_of_ble_eq_true rfl)⟩ dX8_used_33 (fun b_13 G_12 h => ?_)
      refine aw_if_ne (tgt := 45) F dX8_used_36 (by decide) (fun c_14 => ?_) (fun c_14 => ?_)
      · replace h := h.2 (bI_1 c_14)
        refine aw_al_n F 0 dX8_used_45 rfl rfl ?_
        refine aw_il_n F 1 dX8_used_46 rfl rfl ?_
        refine aw_bi F dX8_used_47 bi_14 ?_
        refine aw_ic F dX8_used_49 ic_3 ?_
        refine aw_il_n F 2 dX8_used_50 rfl rfl ?_
        refine aw_imul F dX8_used_51 ?_
        refine aw_iadd F dX8_used_52 ?_
        refine aw_il_n F 3 dX8_used_53 rfl rfl ?_
        refine aw_iadd F dX8_used_54 ?_
        refine aw_cVi (stk := []) F T.room [.int x1, .int (((14 : Int32) + ((3 : Int32) * x2)) + x3)] (k_X8_of1 hP h) mv_X8_of1 w_1313 cf8 (lo_s rfl) (hP _ rfl) rfl (by decide) rfl rfl (Nat.le_of_ble_eq_true rfl) ⟨(Nat.le_of_ble_eq_true rfl), (Nat.le_of_ble_eq_true rfl)⟩ ⟨(Nat.le_of_ble_eq_true rfl), (Nat.le_of_ble_eq_true rfl)⟩ dX8_used_55 (fun r_16 G_15 h => ?_)
        exact aw_iret F T (Nat.le_of_ble_eq_true rfl) (Nat.le_of_ble_eq_true rfl) ⟨_, rfl, h⟩ dX8_used_58
      · replace h := h.1 (bI_2 c_14)
        refine aw_sub [0] rfl ?_
        exact kj_X8_used_39 F T h
-- X8_areTwoMarks (height 2)
def wp_X8_areTwoMarks (post : Bool → GH → Prop) (x1 x2 : Int32) (G : GH) : Prop :=
  wp_X8_isMark (fun (b_2 : Bool) (G_1 : GH) => ((b_2 = false → post false G_1) ∧ (b_2 = true → wp_X8_isMark (fun (b_5 : Bool) (G_4 : GH) => ((b_5 = false → post false G_4) ∧ (b_5 = true → ((x1 = x2 → post false G_4) ∧ (¬ x1 = x2 → post true G_4))))) x2 G_1))) x1 G
set_option maxRecDepth 100000 in
set_option maxHeartbeats 4000000 in
theorem k_X8_areTwoMarks {l : Launch} {E : Ev} {P : Nat → Prop} {sd : Nat → Nat → Nat} {G : GH} {post : Bool → GH → Prop} {x1 x2 : Int32} (hPP : ∀ o, stt o = true → P o) (h : wp_X8_areTwoMarks post x1 x2 G) : Ct l yX8_areTwoMarks cX8_areTwoMarks 3 (some .boolean) 2 0 0 E P sd G [.ref (sd 24 0), .int x1, .int x2] (pB post) := by
  refine ct_of (own := "MarkFieldModel") (by decide) rfl (Nat.le_of_ble_eq_true rfl) hPP (fun X F T el eP es => ?_)
  subst el; subst eP; subst es
  have hP := F.P
  change AW E X 3 0 [(0, .ref (sdX X 24 0)), (1, .int x1), (2, .int x2)] [] G 0 0
  refine aw_al_n F 0 dX8_areTwoMarks_0 rfl rfl ?_
  refine aw_il_n F 1 dX8_areTwoMarks_1 rfl rfl ?_
  refine aw_cVb (stk := []) F T.room [.int x1] (k_X8_isMark hP h) mv_X8_isMark w_1423 cf8 (lo_s rfl) (hP _ rfl) rfl (by decide) rfl rfl (Nat.le_of_ble_eq_true rfl) ⟨(Nat.le_of_ble_eq_true rfl), (Nat.le_of_ble_eq_true rfl)⟩ ⟨(Nat.le_of_ble_eq_true rfl), (Nat.le_of_ble_eq_true rfl)⟩ dX8_areTwoMarks_2 (fun b_2 G_1 h => ?_)
  refine aw_if_eq (tgt := 25) F dX8_areTwoMarks_5 (by decide) (fun c_3 => ?_) (fun c_3 => ?_)
  · replace h := h.1 (bI_2 c_3)
    refine aw_ic F dX8_areTwoMarks_25 ic_0 ?_
    exact aw_zret F T false rfl (Nat.le_of_ble_eq_true rfl) (Nat.le_of_ble_eq_true rfl) ⟨_, rfl, h⟩ dX8_areTwoMarks_26
  · replace h := h.2 (bI_1 c_3)
    refine aw_al_n F 0 dX8_areTwoMarks_8 rfl rfl ?_
    refine aw_il_n F 2 dX8_areTwoMarks_9 rfl rfl ?_
    refine aw_cVb (stk := []) F T.room [.int x2] (k_X8_isMark hP h) mv_X8_isMark w_1423 cf8 (lo_s rfl) (hP _ rfl) rfl (by decide) rfl rfl (Nat.le_of_ble_eq_true rfl) ⟨(Nat.le_of_ble_eq_true rfl), (Nat.le_of_ble_eq_true rfl)⟩ ⟨(Nat.le_of_ble_eq_true rfl), (Nat.le_of_ble_eq_true rfl)⟩ dX8_areTwoMarks_10 (fun b_5 G_4 h => ?_)
    refine aw_if_eq (tgt := 25) F dX8_areTwoMarks_13 (by decide) (fun c_6 => ?_) (fun c_6 => ?_)
    · replace h := h.1 (bI_2 c_6)
      refine aw_ic F dX8_areTwoMarks_25 ic_0 ?_
      exact aw_zret F T false rfl (Nat.le_of_ble_eq_true rfl) (Nat.le_of_ble_eq_true rfl) ⟨_, rfl, h⟩ dX8_areTwoMarks_26
    · replace h := h.2 (bI_1 c_6)
      refine aw_il_n F 1 dX8_areTwoMarks_16 rfl rfl ?_
      refine aw_il_n F 2 dX8_areTwoMarks_17 rfl rfl ?_
      refine aw_icmp_eq (tgt := 25) F dX8_areTwoMarks_18 (by decide) (fun c_7 => ?_) (fun c_7 => ?_)
      · replace h := h.1 c_7
        refine aw_ic F dX8_areTwoMarks_25 ic_0 ?_
        exact aw_zret F T false rfl (Nat.le_of_ble_eq_true rfl) (Nat.le_of_ble_eq_true rfl) ⟨_, rfl, h⟩ dX8_areTwoMarks_26
      · replace h := h.2 c_7
        refine aw_ic F dX8_areTwoMarks_21 ic_1 ?_
        refine aw_go (tgt := 26) F dX8_areTwoMarks_22 (by decide) ?_
        exact aw_zret F T true rfl (Nat.le_of_ble_eq_true rfl) (Nat.le_of_ble_eq_true rfl) ⟨_, rfl, h⟩ dX8_areTwoMarks_26
-- X8_two (height 8)
def j_X8_two_24 (post : Int32 → GH → Prop) (G : GH) : Prop :=
  wp_X8_fail (fun (r_6 : Int32) (G_5 : GH) => post r_6 G_5) (1 : Int32) G
def wp_X8_two (post : Int32 → GH → Prop) (x1 x2 x3 : Int32) (G : GH) : Prop :=
  (∀ G_1 : GH, G_1 = gs G 24 0 (upd (G 24 0) 5 (0 : Int32)) → wp_X8_areTwoMarks (fun (b_3 : Bool) (G_2 : GH) => ((b_3 = false → j_X8_two_24 post G_2) ∧ (b_3 = true → wp_X8_within (fun (b_8 : Bool) (G_7 : GH) => ((b_8 = false → j_X8_two_24 post G_7) ∧ (b_8 = true → wp_X8_lay (fun (G_10 : GH) => (∀ y_12 : Int32, y_12 = (((13 : Int32) * x1) + x2) → (((x3.toInt < 0 ∨ 5 < x3.toInt) → wp_X8_of1 (fun (r_15 : Int32) (G_14 : GH) => wp_X8_has (fun (b_17 : Bool) (G_16 : GH) => ((b_17 = false → post (0 : Int32) G_16) ∧ (b_17 = true → post (1 : Int32) G_16))) r_15 x2 G_14) x1 (50 : Int32) G_10) ∧ (x3 = (0 : Int32) → (vp_in y_12 169 ∧ post (G_10 24 14 y_12.toNatClampNeg) G_10)) ∧ (x3 = (1 : Int32) → (vp_in y_12 169 ∧ post (G_10 24 15 y_12.toNatClampNeg) G_10)) ∧ (x3 = (2 : Int32) → (vp_in y_12 169 ∧ post (G_10 24 16 y_12.toNatClampNeg) G_10)) ∧ (x3 = (3 : Int32) → (vp_in y_12 169 ∧ post (G_10 24 17 y_12.toNatClampNeg) G_10)) ∧ (x3 = (4 : Int32) → wp_X8_areNear (fun (b_25 : Bool) (G_24 : GH) => ((b_25 = false → post (0 : Int32) G_24) ∧ (b_25 = true → post (1 : Int32) G_24))) x1 x2 G_10) ∧ (x3 = (5 : Int32) → (vp_in x1 13 ∧ wp_X8_has (fun (b_29 : Bool) (G_28 : GH) => ((b_29 = false → post (0 : Int32) G_28) ∧ (b_29 = true → post (1 : Int32) G_28))) (G_10 24 20 x1.toNatClampNeg) x2 G_10))))) G_7))) x3 (0 : Int32) (6 : Int32) G_2))) x1 x2 G_1)
set_option maxRecDepth 100000 in
set_option maxHeartbeats 4000000 in
theorem kj_X8_two_24 {E : Ev} {X : Cx} {post : Int32 → GH → Prop} {G : GH} (F : Fx E X "MarkFieldModel" cX8_two 5) (T : RT E X 8 0 0 (some .int) (pI post)) (h : j_X8_two_24 post G) : AW E X 5 24 [(0, .ref (sdX X 24 0))] [] G 0 0 := by
  have hP := F.P
  refine aw_al_n F 0 dX8_two_24 rfl rfl ?_
  refine aw_ic F dX8_two_25 ic_1 ?_
  refine aw_cVi (stk := []) F T.room [.int (1 : Int32)] (k_X8_fail hP h) mv_X8_fail w_1415 cf8 (lo_s rfl) (hP _ rfl) rfl (by decide) rfl rfl (Nat.le_of_ble_eq_true rfl) ⟨(Nat.le_of_ble_eq_true rfl), (Nat.le_of_ble_eq_true rfl)⟩ ⟨(Nat.le_of_ble_eq_true rfl), (Nat.le_of_ble_eq_true rfl)⟩ dX8_two_26 (fun r_6 G_5 h => ?_)
  exact aw_iret F T (Nat.le_of_ble_eq_true rfl) (Nat.le_of_ble_eq_true rfl) ⟨_, rfl, h⟩ dX8_two_29
set_option maxRecDepth 100000 in
set_option maxHeartbeats 4000000 in
theorem k_X8_two {l : Launch} {E : Ev} {P : Nat → Prop} {sd : Nat → Nat → Nat} {G : GH} {post : Int32 → GH → Prop} {x1 x2 x3 : Int32} (hPP : ∀ o, stt o = true → P o) (h : wp_X8_two post x1 x2 x3 G) : Ct l yX8_two cX8_two 5 (some .int) 8 0 0 E P sd G [.ref (sd 24 0), .int x1, .int x2, .int x3] (pI post) := by
  refine ct_of (own := "MarkFieldModel") (by decide) rfl (Nat.le_of_ble_eq_true rfl) hPP (fun X F T el eP es => ?_)
  subst el; subst eP; subst es
  have hP := F.P
  change AW E X 5 0 [(0, .ref (sdX X 24 0)), (1, .int x1), (2, .int x2), (3, .int x3)] [] G 0 0
  refine aw_al_n F 0 dX8_two_0 rfl rfl ?_
  refine aw_ic F dX8_two_1 ic_0 ?_
  refine pf8_5 F (lo_s rfl) (hP _ rfl) rfl w_1165 dX8_two_2 (fun G_1 eG_1 => ?_)
  replace h := h G_1 eG_1
  refine aw_al_n F 0 dX8_two_5 rfl rfl ?_
  refine aw_il_n F 1 dX8_two_6 rfl rfl ?_
  refine aw_il_n F 2 dX8_two_7 rfl rfl ?_
  refine aw_cVb (stk := []) F T.room [.int x1, .int x2] (k_X8_areTwoMarks hP h) mv_X8_areTwoMarks w_1442 cf8 (lo_s rfl) (hP _ rfl) rfl (by decide) rfl rfl (Nat.le_of_ble_eq_true rfl) ⟨(Nat.le_of_ble_eq_true rfl), (Nat.le_of_ble_eq_true rfl)⟩ ⟨(Nat.le_of_ble_eq_true rfl), (Nat.le_of_ble_eq_true rfl)⟩ dX8_two_8 (fun b_3 G_2 h => ?_)
  refine aw_if_eq (tgt := 24) F dX8_two_11 (by decide) (fun c_4 => ?_) (fun c_4 => ?_)
  · replace h := h.1 (bI_2 c_4)
    refine aw_sub [0] rfl ?_
    exact kj_X8_two_24 F T h
  · replace h := h.2 (bI_1 c_4)
    refine aw_il_n F 3 dX8_two_14 rfl rfl ?_
    refine aw_ic F dX8_two_15 ic_0 ?_
    refine aw_bi F dX8_two_16 bi_6 ?_
    refine aw_cSb (stk := []) F T.room [.int x3, .int (0 : Int32), .int (6 : Int32)] (k_X8_within hP h) ms_X8_within w_1427 rfl rfl (Nat.le_of_ble_eq_true rfl) ⟨(Nat.le_of_ble_eq_true rfl), (Nat.le_of_ble_eq_true rfl)⟩ ⟨(Nat.le_of_ble_eq_true rfl), (Nat.le_of_ble_eq_true rfl)⟩ dX8_two_18 (fun b_8 G_7 h => ?_)
    refine aw_if_ne (tgt := 30) F dX8_two_21 (by decide) (fun c_9 => ?_) (fun c_9 => ?_)
    · replace h := h.2 (bI_1 c_9)
      refine aw_al_n F 0 dX8_two_30 rfl rfl ?_
      refine aw_cVv (stk := []) F T.room [] (k_X8_lay hP h) mv_X8_lay w_1301 cf8 (lo_s rfl) (hP _ rfl) rfl (by decide) rfl rfl (Nat.le_of_ble_eq_true rfl) ⟨(Nat.le_of_ble_eq_true rfl), (Nat.le_of_ble_eq_true rfl)⟩ ⟨(Nat.le_of_ble_eq_true rfl), (Nat.le_of_ble_eq_true rfl)⟩ dX8_two_31 (fun G_10 h => ?_)
      refine aw_bi F dX8_two_34 bi_13 ?_
      refine aw_il_n F 1 dX8_two_36 rfl rfl ?_
      refine aw_imul F dX8_two_37 ?_
      refine aw_il_n F 2 dX8_two_38 rfl rfl ?_
      refine aw_iadd F dX8_two_39 ?_
      refine aw_top (fun y_12 ey_12 => ?_)
      replace h := h y_12 ey_12
      refine aw_is (lv1 := [(4, .int y_12), (0, .ref (sdX X 24 0)), (1, .int x1), (2, .int x2), (3, .int x3)]) F dX8_two_40 (by decide) rfl ?_
      refine aw_il_n F 4 dX8_two_42 rfl rfl ?_
      by_cases c_13 : x3.toInt < 0 ∨ 5 < x3.toInt
      · replace h := h.1 c_13
        refine aw_tabO (tgt := 146) F dX8_two_43 c_13 (by decide) ?_
        refine aw_al_n F 1 dX8_two_146 rfl rfl ?_
        refine aw_il_n F 2 dX8_two_147 rfl rfl ?_
        refine aw_bi F dX8_two_148 bi_50 ?_
        refine aw_cVi (stk := []) F T.room [.int x1, .int (50 : Int32)] (k_X8_of1 hP h) mv_X8_of1 w_1313 cf8 (lo_s rfl) (hP _ rfl) rfl (by decide) rfl rfl (Nat.le_of_ble_eq_true rfl) ⟨(Nat.le_of_ble_eq_true rfl), (Nat.le_of_ble_eq_true rfl)⟩ ⟨(Nat.le_of_ble_eq_true rfl), (Nat.le_of_ble_eq_true rfl)⟩ dX8_two_150 (fun r_15 G_14 h => ?_)
        refine aw_il_n F 3 dX8_two_153 rfl rfl ?_
        refine aw_cSb (stk := []) F T.room [.int r_15, .int x2] (k_X8_has hP h) ms_X8_has w_1385 rfl rfl (Nat.le_of_ble_eq_true rfl) ⟨(Nat.le_of_ble_eq_true rfl), (Nat.le_of_ble_eq_true rfl)⟩ ⟨(Nat.le_of_ble_eq_true rfl), (Nat.le_of_ble_eq_true rfl)⟩ dX8_two_154 (fun b_17 G_16 h => ?_)
        refine aw_if_eq (tgt := 164) F dX8_two_157 (by decide) (fun c_18 => ?_) (fun c_18 => ?_)
        · replace h := h.1 (bI_2 c_18)
          refine aw_ic F dX8_two_164 ic_0 ?_
          exact aw_iret F T (Nat.le_of_ble_eq_true rfl) (Nat.le_of_ble_eq_true rfl) ⟨_, rfl, h⟩ dX8_two_165
        · replace h := h.2 (bI_1 c_18)
          refine aw_ic F dX8_two_160 ic_1 ?_
          refine aw_go (tgt := 165) F dX8_two_161 (by decide) ?_
          exact aw_iret F T (Nat.le_of_ble_eq_true rfl) (Nat.le_of_ble_eq_true rfl) ⟨_, rfl, h⟩ dX8_two_165
      · replace h := h.2
        by_cases c_19 : x3 = (0 : Int32)
        · replace h := h.1 c_19
          refine aw_tabI (tgt := 80) F dX8_two_43 (by rw [c_19]; decide) (by rw [c_19]; decide) (by rw [c_19]; rfl) (by decide) ?_
          refine aw_al_n F 1 dX8_two_80 rfl rfl ?_
          refine gr8_13 F (lo_s rfl) (hP _ rfl) rfl w_1173 (hP _ rfl) dX8_two_81 ?_
          refine aw_il F 0 dX8_two_84 rfl ?_
          refine aw_iald F 24 14 (lo_s rfl) (hP _ rfl) rfl h.1 dX8_two_86 ?_
          replace h := h.2
          exact aw_iret F T (Nat.le_of_ble_eq_true rfl) (Nat.le_of_ble_eq_true rfl) ⟨_, rfl, h⟩ dX8_two_87
        replace h := h.2
        by_cases c_20 : x3 = (1 : Int32)
        · replace h := h.1 c_20
          refine aw_tabI (tgt := 88) F dX8_two_43 (by rw [c_20]; decide) (by rw [c_20]; decide) (by rw [c_20]; rfl) (by decide) ?_
          refine aw_al_n F 1 dX8_two_88 rfl rfl ?_
          refine gr8_14 F (lo_s rfl) (hP _ rfl) rfl w_1174 (hP _ rfl) dX8_two_89 ?_
          refine aw_il F 0 dX8_two_92 rfl ?_
          refine aw_iald F 24 15 (lo_s rfl) (hP _ rfl) rfl h.1 dX8_two_94 ?_
          replace h := h.2
          exact aw_iret F T (Nat.le_of_ble_eq_true rfl) (Nat.le_of_ble_eq_true rfl) ⟨_, rfl, h⟩ dX8_two_95
        replace h := h.2
        by_cases c_21 : x3 = (2 : Int32)
        · replace h := h.1 c_21
          refine aw_tabI (tgt := 96) F dX8_two_43 (by rw [c_21]; decide) (by rw [c_21]; decide) (by rw [c_21]; rfl) (by decide) ?_
          refine aw_al_n F 1 dX8_two_96 rfl rfl ?_
          refine gr8_15 F (lo_s rfl) (hP _ rfl) rfl w_1175 (hP _ rfl) dX8_two_97 ?_
          refine aw_il F 0 dX8_two_100 rfl ?_
          refine aw_iald F 24 16 (lo_s rfl) (hP _ rfl) rfl h.1 dX8_two_102 ?_
          replace h := h.2
          exact aw_iret F T (Nat.le_of_ble_eq_true rfl) (Nat.le_of_ble_eq_true rfl) ⟨_, rfl, h⟩ dX8_two_103
        replace h := h.2
        by_cases c_22 : x3 = (3 : Int32)
        · replace h := h.1 c_22
          refine aw_tabI (tgt := 104) F dX8_two_43 (by rw [c_22]; decide) (by rw [c_22]; decide) (by rw [c_22]; rfl) (by decide) ?_
          refine aw_al_n F 1 dX8_two_104 rfl rfl ?_
          refine gr8_16 F (lo_s rfl) (hP _ rfl) rfl w_1176 (hP _ rfl) dX8_two_105 ?_
          refine aw_il F 0 dX8_two_108 rfl ?_
          refine aw_iald F 24 17 (lo_s rfl) (hP _ rfl) rfl h.1 dX8_two_110 ?_
          replace h := h.2
          exact aw_iret F T (Nat.le_of_ble_eq_true rfl) (Nat.le_of_ble_eq_true rfl) ⟨_, rfl, h⟩ dX8_two_111
        replace h := h.2
        by_cases c_23 : x3 = (4 : Int32)
        · replace h := h.1 c_23
          refine aw_tabI (tgt := 112) F dX8_two_43 (by rw [c_23]; decide) (by rw [c_23]; decide) (by rw [c_23]; rfl) (by decide) ?_
          refine aw_al_n F 1 dX8_two_112 rfl rfl ?_
          refine aw_il_n F 2 dX8_two_113 rfl rfl ?_
          refine aw_il_n F 3 dX8_two_114 rfl rfl ?_
          refine aw_cVb (stk := []) F T.room [.int x1, .int x2] (k_X8_areNear hP h) mv_X8_areNear w_1392 cf8 (lo_s rfl) (hP _ rfl) rfl (by decide) rfl rfl (Nat.le_of_ble_eq_true rfl) ⟨(Nat.le_of_ble_eq_true rfl), (Nat.le_of_ble_eq_true rfl)⟩ ⟨(Nat.le_of_ble_eq_true rfl), (Nat.le_of_ble_eq_true rfl)⟩ dX8_two_115 (fun b_25 G_24 h => ?_)
          refine aw_if_eq (tgt := 125) F dX8_two_118 (by decide) (fun c_26 => ?_) (fun c_26 => ?_)
          · replace h := h.1 (bI_2 c_26)
            refine aw_ic F dX8_two_125 ic_0 ?_
            exact aw_iret F T (Nat.le_of_ble_eq_true rfl) (Nat.le_of_ble_eq_true rfl) ⟨_, rfl, h⟩ dX8_two_126
          · replace h := h.2 (bI_1 c_26)
            refine aw_ic F dX8_two_121 ic_1 ?_
            refine aw_go (tgt := 126) F dX8_two_122 (by decide) ?_
            exact aw_iret F T (Nat.le_of_ble_eq_true rfl) (Nat.le_of_ble_eq_true rfl) ⟨_, rfl, h⟩ dX8_two_126
        replace h := h.2
        by_cases c_27 : x3 = (5 : Int32)
        · replace h := h c_27
          refine aw_tabI (tgt := 127) F dX8_two_43 (by rw [c_27]; decide) (by rw [c_27]; decide) (by rw [c_27]; rfl) (by decide) ?_
          refine aw_al_n F 1 dX8_two_127 rfl rfl ?_
          refine gr8_19 F (lo_s rfl) (hP _ rfl) rfl w_1179 (hP _ rfl) dX8_two_128 ?_
          refine aw_il_n F 2 dX8_two_131 rfl rfl ?_
          refine aw_iald F 24 20 (lo_s rfl) (hP _ rfl) rfl h.1 dX8_two_132 ?_
          replace h := h.2
          refine aw_il_n F 3 dX8_two_133 rfl rfl ?_
          refine aw_cSb (stk := []) F T.room [.int (G_10 24 20 x1.toNatClampNeg), .int x2] (k_X8_has hP h) ms_X8_has w_1385 rfl rfl (Nat.le_of_ble_eq_true rfl) ⟨(Nat.le_of_ble_eq_true rfl), (Nat.le_of_ble_eq_true rfl)⟩ ⟨(Nat.le_of_ble_eq_true rfl), (Nat.le_of_ble_eq_true rfl)⟩ dX8_two_134 (fun b_29 G_28 h => ?_)
          refine aw_if_eq (tgt := 144) F dX8_two_137 (by decide) (fun c_30 => ?_) (fun c_30 => ?_)
          · replace h := h.1 (bI_2 c_30)
            refine aw_ic F dX8_two_144 ic_0 ?_
            exact aw_iret F T (Nat.le_of_ble_eq_true rfl) (Nat.le_of_ble_eq_true rfl) ⟨_, rfl, h⟩ dX8_two_145
          · replace h := h.2 (bI_1 c_30)
            refine aw_ic F dX8_two_140 ic_1 ?_
            refine aw_go (tgt := 145) F dX8_two_141 (by decide) ?_
            exact aw_iret F T (Nat.le_of_ble_eq_true rfl) (Nat.le_of_ble_eq_true rfl) ⟨_, rfl, h⟩ dX8_two_145
        exfalso
        have qc_19 := ne_ti c_19 (show (0 : Int32).toInt = 0 by decide)
        have qc_20 := ne_ti c_20 (show (1 : Int32).toInt = 1 by decide)
        have qc_21 := ne_ti c_21 (show (2 : Int32).toInt = 2 by decide)
        have qc_22 := ne_ti c_22 (show (3 : Int32).toInt = 3 by decide)
        have qc_23 := ne_ti c_23 (show (4 : Int32).toInt = 4 by decide)
        have qc_27 := ne_ti c_27 (show (5 : Int32).toInt = 5 by decide)
        omega
    · replace h := h.1 (bI_2 c_9)
      refine aw_sub [0] rfl ?_
      exact kj_X8_two_24 F T h
-- X8_isClass (height 1)
def wp_X8_isClass (post : Bool → GH → Prop) (x0 : Int32) (G : GH) : Prop :=
  wp_X8_within (fun (b_2 : Bool) (G_1 : GH) => post b_2 G_1) x0 (0 : Int32) (9 : Int32) G
set_option maxRecDepth 100000 in
set_option maxHeartbeats 4000000 in
theorem k_X8_isClass {l : Launch} {E : Ev} {P : Nat → Prop} {sd : Nat → Nat → Nat} {G : GH} {post : Bool → GH → Prop} {x0 : Int32} (hPP : ∀ o, stt o = true → P o) (h : wp_X8_isClass post x0 G) : Ct l yX8_isClass cX8_isClass 1 (some .boolean) 1 0 0 E P sd G [.int x0] (pB post) := by
  refine ct_of (own := "MarkFieldModel") (by decide) rfl (Nat.le_of_ble_eq_true rfl) hPP (fun X F T el eP es => ?_)
  subst el; subst eP; subst es
  have hP := F.P
  change AW E X 1 0 [(0, .int x0)] [] G 0 0
  refine aw_il_n F 0 dX8_isClass_0 rfl rfl ?_
  refine aw_ic F dX8_isClass_1 ic_0 ?_
  refine aw_bi F dX8_isClass_2 bi_9 ?_
  refine aw_cSb (stk := []) F T.room [.int x0, .int (0 : Int32), .int (9 : Int32)] (k_X8_within hP h) ms_X8_within w_1427 rfl rfl (Nat.le_of_ble_eq_true rfl) ⟨(Nat.le_of_ble_eq_true rfl), (Nat.le_of_ble_eq_true rfl)⟩ ⟨(Nat.le_of_ble_eq_true rfl), (Nat.le_of_ble_eq_true rfl)⟩ dX8_isClass_4 (fun b_2 G_1 h => ?_)
  exact aw_zret F T b_2 rfl (Nat.le_of_ble_eq_true rfl) (Nat.le_of_ble_eq_true rfl) ⟨_, rfl, h⟩ dX8_isClass_7
-- X8_steps (height 2)
def j_X8_steps_19 (post : Int32 → GH → Prop) (G : GH) : Prop :=
  wp_X8_fail (fun (r_6 : Int32) (G_5 : GH) => post r_6 G_5) (1 : Int32) G
def wp_X8_steps (post : Int32 → GH → Prop) (x1 x2 : Int32) (G : GH) : Prop :=
  (∀ G_1 : GH, G_1 = gs G 24 0 (upd (G 24 0) 5 (0 : Int32)) → wp_X8_isClass (fun (b_3 : Bool) (G_2 : GH) => ((b_3 = false → j_X8_steps_19 post G_2) ∧ (b_3 = true → wp_X8_isClass (fun (b_8 : Bool) (G_7 : GH) => ((b_8 = false → j_X8_steps_19 post G_7) ∧ (b_8 = true → wp_X8_layStepsFrom (fun (r_11 : Int32) (G_10 : GH) => wp_X8_has (fun (b_13 : Bool) (G_12 : GH) => ((b_13 = false → post (-1 : Int32) G_12) ∧ (b_13 = true → (vp_in x2 10 ∧ post (G_12 24 21 x2.toNatClampNeg) G_12)))) r_11 x2 G_10) ((1 : Int32) <<< (x1 &&& 31)) G_7))) x2 G_2))) x1 G_1)
set_option maxRecDepth 100000 in
set_option maxHeartbeats 4000000 in
theorem kj_X8_steps_19 {E : Ev} {X : Cx} {post : Int32 → GH → Prop} {G : GH} (F : Fx E X "MarkFieldModel" cX8_steps 4) (T : RT E X 2 0 0 (some .int) (pI post)) (h : j_X8_steps_19 post G) : AW E X 4 19 [(0, .ref (sdX X 24 0))] [] G 0 0 := by
  have hP := F.P
  refine aw_al_n F 0 dX8_steps_19 rfl rfl ?_
  refine aw_ic F dX8_steps_20 ic_1 ?_
  refine aw_cVi (stk := []) F T.room [.int (1 : Int32)] (k_X8_fail hP h) mv_X8_fail w_1415 cf8 (lo_s rfl) (hP _ rfl) rfl (by decide) rfl rfl (Nat.le_of_ble_eq_true rfl) ⟨(Nat.le_of_ble_eq_true rfl), (Nat.le_of_ble_eq_true rfl)⟩ ⟨(Nat.le_of_ble_eq_true rfl), (Nat.le_of_ble_eq_true rfl)⟩ dX8_steps_21 (fun r_6 G_5 h => ?_)
  exact aw_iret F T (Nat.le_of_ble_eq_true rfl) (Nat.le_of_ble_eq_true rfl) ⟨_, rfl, h⟩ dX8_steps_24
set_option maxRecDepth 100000 in
set_option maxHeartbeats 4000000 in
theorem k_X8_steps {l : Launch} {E : Ev} {P : Nat → Prop} {sd : Nat → Nat → Nat} {G : GH} {post : Int32 → GH → Prop} {x1 x2 : Int32} (hPP : ∀ o, stt o = true → P o) (h : wp_X8_steps post x1 x2 G) : Ct l yX8_steps cX8_steps 4 (some .int) 2 0 0 E P sd G [.ref (sd 24 0), .int x1, .int x2] (pI post) := by
  refine ct_of (own := "MarkFieldModel") (by decide) rfl (Nat.le_of_ble_eq_true rfl) hPP (fun X F T el eP es => ?_)
  subst el; subst eP; subst es
  have hP := F.P
  change AW E X 4 0 [(0, .ref (sdX X 24 0)), (1, .int x1), (2, .int x2)] [] G 0 0
  refine aw_al_n F 0 dX8_steps_0 rfl rfl ?_
  refine aw_ic F dX8_steps_1 ic_0 ?_
  refine pf8_5 F (lo_s rfl) (hP _ rfl) rfl w_1165 dX8_steps_2 (fun G_1 eG_1 => ?_)
  replace h := h G_1 eG_1
  refine aw_il_n F 1 dX8_steps_5 rfl rfl ?_
  refine aw_cSb (stk := []) F T.room [.int x1] (k_X8_isClass hP h) ms_X8_isClass w_1450 rfl rfl (Nat.le_of_ble_eq_true rfl) ⟨(Nat.le_of_ble_eq_true rfl), (Nat.le_of_ble_eq_true rfl)⟩ ⟨(Nat.le_of_ble_eq_true rfl), (Nat.le_of_ble_eq_true rfl)⟩ dX8_steps_6 (fun b_3 G_2 h => ?_)
  refine aw_if_eq (tgt := 19) F dX8_steps_9 (by decide) (fun c_4 => ?_) (fun c_4 => ?_)
  · replace h := h.1 (bI_2 c_4)
    refine aw_sub [0] rfl ?_
    exact kj_X8_steps_19 F T h
  · replace h := h.2 (bI_1 c_4)
    refine aw_il_n F 2 dX8_steps_12 rfl rfl ?_
    refine aw_cSb (stk := []) F T.room [.int x2] (k_X8_isClass hP h) ms_X8_isClass w_1450 rfl rfl (Nat.le_of_ble_eq_true rfl) ⟨(Nat.le_of_ble_eq_true rfl), (Nat.le_of_ble_eq_true rfl)⟩ ⟨(Nat.le_of_ble_eq_true rfl), (Nat.le_of_ble_eq_true rfl)⟩ dX8_steps_13 (fun b_8 G_7 h => ?_)
    refine aw_if_ne (tgt := 25) F dX8_steps_16 (by decide) (fun c_9 => ?_) (fun c_9 => ?_)
    · replace h := h.2 (bI_1 c_9)
      refine aw_al_n F 0 dX8_steps_25 rfl rfl ?_
      refine aw_ic F dX8_steps_26 ic_1 ?_
      refine aw_il_n F 1 dX8_steps_27 rfl rfl ?_
      refine aw_ishl F dX8_steps_28 ?_
      refine aw_cVi (stk := []) F T.room [.int ((1 : Int32) <<< (x1 &&& 31))] (k_X8_layStepsFrom hP h) mv_X8_layStepsFrom w_1381 cf8 (lo_s rfl) (hP _ rfl) rfl (by decide) rfl rfl (Nat.le_of_ble_eq_true rfl) ⟨(Nat.le_of_ble_eq_true rfl), (Nat.le_of_ble_eq_true rfl)⟩ ⟨(Nat.le_of_ble_eq_true rfl), (Nat.le_of_ble_eq_true rfl)⟩ dX8_steps_29 (fun r_11 G_10 h => ?_)
      refine aw_is_n (lv1 := [(3, .int r_11), (0, .ref (sdX X 24 0)), (1, .int x1), (2, .int x2)]) F dX8_steps_32 rfl (by decide) rfl ?_
      refine aw_il_n F 0 dX8_steps_33 rfl rfl ?_
      refine aw_il_n F 3 dX8_steps_34 rfl rfl ?_
      refine aw_cSb (stk := []) F T.room [.int r_11, .int x2] (k_X8_has hP h) ms_X8_has w_1385 rfl rfl (Nat.le_of_ble_eq_true rfl) ⟨(Nat.le_of_ble_eq_true rfl), (Nat.le_of_ble_eq_true rfl)⟩ ⟨(Nat.le_of_ble_eq_true rfl), (Nat.le_of_ble_eq_true rfl)⟩ dX8_steps_35 (fun b_13 G_12 h => ?_)
      refine aw_if_eq (tgt := 50) F dX8_steps_38 (by decide) (fun c_14 => ?_) (fun c_14 => ?_)
      · replace h := h.1 (bI_2 c_14)
        refine aw_ic F dX8_steps_50 ic_m1 ?_
        exact aw_iret F T (Nat.le_of_ble_eq_true rfl) (Nat.le_of_ble_eq_true rfl) ⟨_, rfl, h⟩ dX8_steps_51
      · replace h := h.2 (bI_1 c_14)
        refine aw_al_n F 1 dX8_steps_41 rfl rfl ?_
        refine gr8_20 F (lo_s rfl) (hP _ rfl) rfl w_1180 (hP _ rfl) dX8_steps_42 ?_
        refine aw_il_n F 3 dX8_steps_45 rfl rfl ?_
        refine aw_iald F 24 21 (lo_s rfl) (hP _ rfl) rfl h.1 dX8_steps_46 ?_
        replace h := h.2
        refine aw_go (tgt := 51) F dX8_steps_47 (by decide) ?_
        exact aw_iret F T (Nat.le_of_ble_eq_true rfl) (Nat.le_of_ble_eq_true rfl) ⟨_, rfl, h⟩ dX8_steps_51
    · replace h := h.1 (bI_2 c_9)
      refine aw_sub [0] rfl ?_
      exact kj_X8_steps_19 F T h
-- X8_here (height 9)
def j_X8_here_43 (post : Int32 → GH → Prop) (v1 v2 v3 v4 s1 : Int32) (G : GH) : Prop :=
  (∀ G_4 : GH, G_4 = gs G 24 0 (upd (G 24 0) 5 s1) → (((G_4 24 0 5) ≤ 0 → ((v4 = 0 → wp_X8_sinceOf (fun (r_15 : Int32) (G_14 : GH) => post r_15 G_14) v1 v2 v3 G_4) ∧ (¬ v4 = 0 → wp_X8_layHalf (fun (G_7 : GH) => ((v4 = (1 : Int32) → (vp_in v1 13 ∧ post (G_7 24 22 v1.toNatClampNeg) G_7)) ∧ (¬ v4 = (1 : Int32) → ((v4 = (2 : Int32) → (vp_in v1 13 ∧ post (G_7 24 24 v1.toNatClampNeg) G_7)) ∧ (¬ v4 = (2 : Int32) → wp_X8_has (fun (b_12 : Bool) (G_11 : GH) => ((b_12 = false → post (0 : Int32) G_11) ∧ (b_12 = true → post (1 : Int32) G_11))) (G_7 24 0 25) v1 G_7))))) v2 v3 G_4))) ∧ (¬ (G_4 24 0 5) ≤ 0 → post (0 : Int32) G_4)))
def j_X8_here_27 (post : Int32 → GH → Prop) (v1 v2 v3 v4 : Int32) (G : GH) : Prop :=
  j_X8_here_43 post v1 v2 v3 v4 (1 : Int32) G
def wp_X8_here (post : Int32 → GH → Prop) (x1 x2 x3 x4 : Int32) (G : GH) : Prop :=
  wp_X8_isMark (fun (b_2 : Bool) (G_1 : GH) => ((b_2 = false → j_X8_here_27 post x1 x2 x3 x4 G_1) ∧ (b_2 = true → wp_X8_isHalf (fun (b_17 : Bool) (G_16 : GH) => ((b_17 = false → j_X8_here_27 post x1 x2 x3 x4 G_16) ∧ (b_17 = true → wp_X8_within (fun (b_20 : Bool) (G_19 : GH) => ((b_20 = false → j_X8_here_27 post x1 x2 x3 x4 G_19) ∧ (b_20 = true → wp_X8_isDay (fun (b_23 : Bool) (G_22 : GH) => ((b_23 = false → j_X8_here_43 post x1 x2 x3 x4 (2 : Int32) G_22) ∧ (b_23 = true → j_X8_here_43 post x1 x2 x3 x4 (0 : Int32) G_22))) x3 G_19))) x4 (0 : Int32) (3 : Int32) G_16))) x2 G_1))) x1 G
set_option maxRecDepth 100000 in
set_option maxHeartbeats 4000000 in
theorem kj_X8_here_43 {E : Ev} {X : Cx} {post : Int32 → GH → Prop} {v1 v2 v3 v4 s1 : Int32} {G : GH} (F : Fx E X "MarkFieldModel" cX8_here 5) (T : RT E X 9 0 0 (some .int) (pI post)) (h : j_X8_here_43 post v1 v2 v3 v4 s1 G) : AW E X 5 43 [(0, .ref (sdX X 24 0)), (1, .int v1), (2, .int v2), (3, .int v3), (4, .int v4)] [.int s1, .ref (sdX X 24 0)] G 0 0 := by
  have hP := F.P
  refine pf8_5 F (lo_s rfl) (hP _ rfl) rfl w_1165 dX8_here_43 (fun G_4 eG_4 => ?_)
  replace h := h G_4 eG_4
  refine aw_al_n F 0 dX8_here_46 rfl rfl ?_
  refine gf8_5 F (lo_s rfl) (hP _ rfl) rfl w_1165 dX8_here_47 ?_
  refine aw_if_le (tgt := 55) F dX8_here_50 (by decide) (fun c_5 => ?_) (fun c_5 => ?_)
  · replace h := h.1 c_5
    refine aw_il F 4 dX8_here_55 rfl ?_
    refine aw_if_ne (tgt := 68) F dX8_here_57 (by decide) (fun c_6 => ?_) (fun c_6 => ?_)
    · replace h := h.2 c_6
      refine aw_al_n F 0 dX8_here_68 rfl rfl ?_
      refine aw_il_n F 2 dX8_here_69 rfl rfl ?_
      refine aw_il_n F 3 dX8_here_70 rfl rfl ?_
      refine aw_cVv (stk := []) F T.room [.int v2, .int v3] (k_X8_layHalf hP h) mv_X8_layHalf w_1472 cf8 (lo_s rfl) (hP _ rfl) rfl (by decide) rfl rfl (Nat.le_of_ble_eq_true rfl) ⟨(Nat.le_of_ble_eq_true rfl), (Nat.le_of_ble_eq_true rfl)⟩ ⟨(Nat.le_of_ble_eq_true rfl), (Nat.le_of_ble_eq_true rfl)⟩ dX8_here_71 (fun G_7 h => ?_)
      refine aw_il F 4 dX8_here_74 rfl ?_
      refine aw_ic F dX8_here_76 ic_1 ?_
      refine aw_icmp_ne (tgt := 89) F dX8_here_77 (by decide) (fun c_9 => ?_) (fun c_9 => ?_)
      · replace h := h.2 c_9
        refine aw_il F 4 dX8_here_89 rfl ?_
        refine aw_ic F dX8_here_91 ic_2 ?_
        refine aw_icmp_ne (tgt := 104) F dX8_here_92 (by decide) (fun c_10 => ?_) (fun c_10 => ?_)
        · replace h := h.2 c_10
          refine aw_al_n F 0 dX8_here_104 rfl rfl ?_
          refine gf8_25 F (lo_s rfl) (hP _ rfl) rfl w_1185 dX8_here_105 ?_
          refine aw_il_n F 1 dX8_here_108 rfl rfl ?_
          refine aw_cSb (stk := []) F T.room [.int (G_7 24 0 25), .int v1] (k_X8_has hP h) ms_X8_has w_1385 rfl rfl (Nat.le_of_ble_eq_true rfl) ⟨(Nat.le_of_ble_eq_true rfl), (Nat.le_of_ble_eq_true rfl)⟩ ⟨(Nat.le_of_ble_eq_true rfl), (Nat.le_of_ble_eq_true rfl)⟩ dX8_here_109 (fun b_12 G_11 h => ?_)
          refine aw_if_eq (tgt := 119) F dX8_here_112 (by decide) (fun c_13 => ?_) (fun c_13 => ?_)
          · replace h := h.1 (bI_2 c_13)
            refine aw_ic F dX8_here_119 ic_0 ?_
            exact aw_iret F T (Nat.le_of_ble_eq_true rfl) (Nat.le_of_ble_eq_true rfl) ⟨_, rfl, h⟩ dX8_here_120
          · replace h := h.2 (bI_1 c_13)
            refine aw_ic F dX8_here_115 ic_1 ?_
            refine aw_go (tgt := 120) F dX8_here_116 (by decide) ?_
            exact aw_iret F T (Nat.le_of_ble_eq_true rfl) (Nat.le_of_ble_eq_true rfl) ⟨_, rfl, h⟩ dX8_here_120
        · replace h := h.1 c_10
          refine aw_al_n F 0 dX8_here_95 rfl rfl ?_
          refine gr8_23 F (lo_s rfl) (hP _ rfl) rfl w_1183 (hP _ rfl) dX8_here_96 ?_
          refine aw_il_n F 1 dX8_here_99 rfl rfl ?_
          refine aw_iald F 24 24 (lo_s rfl) (hP _ rfl) rfl h.1 dX8_here_100 ?_
          replace h := h.2
          refine aw_go (tgt := 120) F dX8_here_101 (by decide) ?_
          exact aw_iret F T (Nat.le_of_ble_eq_true rfl) (Nat.le_of_ble_eq_true rfl) ⟨_, rfl, h⟩ dX8_here_120
      · replace h := h.1 c_9
        refine aw_al_n F 0 dX8_here_80 rfl rfl ?_
        refine gr8_21 F (lo_s rfl) (hP _ rfl) rfl w_1181 (hP _ rfl) dX8_here_81 ?_
        refine aw_il_n F 1 dX8_here_84 rfl rfl ?_
        refine aw_iald F 24 22 (lo_s rfl) (hP _ rfl) rfl h.1 dX8_here_85 ?_
        replace h := h.2
        refine aw_go (tgt := 120) F dX8_here_86 (by decide) ?_
        exact aw_iret F T (Nat.le_of_ble_eq_true rfl) (Nat.le_of_ble_eq_true rfl) ⟨_, rfl, h⟩ dX8_here_120
    · replace h := h.1 c_6
      refine aw_al_n F 0 dX8_here_60 rfl rfl ?_
      refine aw_il_n F 1 dX8_here_61 rfl rfl ?_
      refine aw_il_n F 2 dX8_here_62 rfl rfl ?_
      refine aw_il_n F 3 dX8_here_63 rfl rfl ?_
      refine aw_cVi (stk := []) F T.room [.int v1, .int v2, .int v3] (k_X8_sinceOf hP h) mv_X8_sinceOf w_1464 cf8 (lo_s rfl) (hP _ rfl) rfl (by decide) rfl rfl (Nat.le_of_ble_eq_true rfl) ⟨(Nat.le_of_ble_eq_true rfl), (Nat.le_of_ble_eq_true rfl)⟩ ⟨(Nat.le_of_ble_eq_true rfl), (Nat.le_of_ble_eq_true rfl)⟩ dX8_here_64 (fun r_15 G_14 h => ?_)
      exact aw_iret F T (Nat.le_of_ble_eq_true rfl) (Nat.le_of_ble_eq_true rfl) ⟨_, rfl, h⟩ dX8_here_67
  · replace h := h.2 c_5
    refine aw_ic F dX8_here_53 ic_0 ?_
    exact aw_iret F T (Nat.le_of_ble_eq_true rfl) (Nat.le_of_ble_eq_true rfl) ⟨_, rfl, h⟩ dX8_here_54
set_option maxRecDepth 100000 in
set_option maxHeartbeats 4000000 in
theorem kj_X8_here_27 {E : Ev} {X : Cx} {post : Int32 → GH → Prop} {v1 v2 v3 v4 : Int32} {G : GH} (F : Fx E X "MarkFieldModel" cX8_here 5) (T : RT E X 9 0 0 (some .int) (pI post)) (h : j_X8_here_27 post v1 v2 v3 v4 G) : AW E X 5 27 [(0, .ref (sdX X 24 0)), (1, .int v1), (2, .int v2), (3, .int v3), (4, .int v4)] [.ref (sdX X 24 0)] G 0 0 := by
  have hP := F.P
  refine aw_ic F dX8_here_27 ic_1 ?_
  refine aw_go (tgt := 43) F dX8_here_28 (by decide) ?_
  exact kj_X8_here_43 F T h
set_option maxRecDepth 100000 in
set_option maxHeartbeats 4000000 in
theorem k_X8_here {l : Launch} {E : Ev} {P : Nat → Prop} {sd : Nat → Nat → Nat} {G : GH} {post : Int32 → GH → Prop} {x1 x2 x3 x4 : Int32} (hPP : ∀ o, stt o = true → P o) (h : wp_X8_here post x1 x2 x3 x4 G) : Ct l yX8_here cX8_here 5 (some .int) 9 0 0 E P sd G [.ref (sd 24 0), .int x1, .int x2, .int x3, .int x4] (pI post) := by
  refine ct_of (own := "MarkFieldModel") (by decide) rfl (Nat.le_of_ble_eq_true rfl) hPP (fun X F T el eP es => ?_)
  subst el; subst eP; subst es
  have hP := F.P
  change AW E X 5 0 [(0, .ref (sdX X 24 0)), (1, .int x1), (2, .int x2), (3, .int x3), (4, .int x4)] [] G 0 0
  refine aw_al_n F 0 dX8_here_0 rfl rfl ?_
  refine aw_al_n F 0 dX8_here_1 rfl rfl ?_
  refine aw_il_n F 1 dX8_here_2 rfl rfl ?_
  refine aw_cVb (stk := [.ref (sdX X 24 0)]) F T.room [.int x1] (k_X8_isMark hP h) mv_X8_isMark w_1423 cf8 (lo_s rfl) (hP _ rfl) rfl (by decide) rfl rfl (Nat.le_of_ble_eq_true rfl) ⟨(Nat.le_of_ble_eq_true rfl), (Nat.le_of_ble_eq_true rfl)⟩ ⟨(Nat.le_of_ble_eq_true rfl), (Nat.le_of_ble_eq_true rfl)⟩ dX8_here_3 (fun b_2 G_1 h => ?_)
  refine aw_if_eq (tgt := 27) F dX8_here_6 (by decide) (fun c_3 => ?_) (fun c_3 => ?_)
  · replace h := h.1 (bI_2 c_3)
    exact kj_X8_here_27 F T h
  · replace h := h.2 (bI_1 c_3)
    refine aw_al_n F 0 dX8_here_9 rfl rfl ?_
    refine aw_il_n F 2 dX8_here_10 rfl rfl ?_
    refine aw_cVb (stk := [.ref (sdX X 24 0)]) F T.room [.int x2] (k_X8_isHalf hP h) mv_X8_isHalf w_1457 cf8 (lo_s rfl) (hP _ rfl) rfl (by decide) rfl rfl (Nat.le_of_ble_eq_true rfl) ⟨(Nat.le_of_ble_eq_true rfl), (Nat.le_of_ble_eq_true rfl)⟩ ⟨(Nat.le_of_ble_eq_true rfl), (Nat.le_of_ble_eq_true rfl)⟩ dX8_here_11 (fun b_17 G_16 h => ?_)
    refine aw_if_eq (tgt := 27) F dX8_here_14 (by decide) (fun c_18 => ?_) (fun c_18 => ?_)
    · replace h := h.1 (bI_2 c_18)
      exact kj_X8_here_27 F T h
    · replace h := h.2 (bI_1 c_18)
      refine aw_il F 4 dX8_here_17 rfl ?_
      refine aw_ic F dX8_here_19 ic_0 ?_
      refine aw_ic F dX8_here_20 ic_3 ?_
      refine aw_cSb (stk := [.ref (sdX X 24 0)]) F T.room [.int x4, .int (0 : Int32), .int (3 : Int32)] (k_X8_within hP h) ms_X8_within w_1427 rfl rfl (Nat.le_of_ble_eq_true rfl) ⟨(Nat.le_of_ble_eq_true rfl), (Nat.le_of_ble_eq_true rfl)⟩ ⟨(Nat.le_of_ble_eq_true rfl), (Nat.le_of_ble_eq_true rfl)⟩ dX8_here_21 (fun b_20 G_19 h => ?_)
      refine aw_if_ne (tgt := 31) F dX8_here_24 (by decide) (fun c_21 => ?_) (fun c_21 => ?_)
      · replace h := h.2 (bI_1 c_21)
        refine aw_il_n F 3 dX8_here_31 rfl rfl ?_
        refine aw_cSb (stk := [.ref (sdX X 24 0)]) F T.room [.int x3] (k_X8_isDay hP h) ms_X8_isDay w_1461 rfl rfl (Nat.le_of_ble_eq_true rfl) ⟨(Nat.le_of_ble_eq_true rfl), (Nat.le_of_ble_eq_true rfl)⟩ ⟨(Nat.le_of_ble_eq_true rfl), (Nat.le_of_ble_eq_true rfl)⟩ dX8_here_32 (fun b_23 G_22 h => ?_)
        refine aw_if_ne (tgt := 42) F dX8_here_35 (by decide) (fun c_24 => ?_) (fun c_24 => ?_)
        · replace h := h.2 (bI_1 c_24)
          refine aw_ic F dX8_here_42 ic_0 ?_
          exact kj_X8_here_43 F T h
        · replace h := h.1 (bI_2 c_24)
          refine aw_ic F dX8_here_38 ic_2 ?_
          refine aw_go (tgt := 43) F dX8_here_39 (by decide) ?_
          exact kj_X8_here_43 F T h
      · replace h := h.1 (bI_2 c_21)
        exact kj_X8_here_27 F T h
-- X8_halves (height 10)
def j_X8_halves_34 (post : Int32 → GH → Prop) (v1 v2 v3 s1 : Int32) (G : GH) : Prop :=
  (∀ G_4 : GH, G_4 = gs G 24 0 (upd (G 24 0) 5 s1) → (((G_4 24 0 5) ≤ 0 → wp_X8_halvesOf (fun (r_7 : Int32) (G_6 : GH) => post r_7 G_6) v1 v2 v3 G_4) ∧ (¬ (G_4 24 0 5) ≤ 0 → post (0 : Int32) G_4)))
def j_X8_halves_18 (post : Int32 → GH → Prop) (v1 v2 v3 : Int32) (G : GH) : Prop :=
  j_X8_halves_34 post v1 v2 v3 (1 : Int32) G
def wp_X8_halves (post : Int32 → GH → Prop) (x1 x2 x3 : Int32) (G : GH) : Prop :=
  wp_X8_isMark (fun (b_2 : Bool) (G_1 : GH) => ((b_2 = false → j_X8_halves_18 post x1 x2 x3 G_1) ∧ (b_2 = true → wp_X8_within (fun (b_9 : Bool) (G_8 : GH) => ((b_9 = false → j_X8_halves_18 post x1 x2 x3 G_8) ∧ (b_9 = true → wp_X8_isDay (fun (b_12 : Bool) (G_11 : GH) => ((b_12 = false → j_X8_halves_34 post x1 x2 x3 (2 : Int32) G_11) ∧ (b_12 = true → j_X8_halves_34 post x1 x2 x3 (0 : Int32) G_11))) x2 G_8))) x3 (0 : Int32) (2 : Int32) G_1))) x1 G
set_option maxRecDepth 100000 in
set_option maxHeartbeats 4000000 in
theorem kj_X8_halves_34 {E : Ev} {X : Cx} {post : Int32 → GH → Prop} {v1 v2 v3 s1 : Int32} {G : GH} (F : Fx E X "MarkFieldModel" cX8_halves 4) (T : RT E X 10 0 0 (some .int) (pI post)) (h : j_X8_halves_34 post v1 v2 v3 s1 G) : AW E X 4 34 [(0, .ref (sdX X 24 0)), (1, .int v1), (2, .int v2), (3, .int v3)] [.int s1, .ref (sdX X 24 0)] G 0 0 := by
  have hP := F.P
  refine pf8_5 F (lo_s rfl) (hP _ rfl) rfl w_1165 dX8_halves_34 (fun G_4 eG_4 => ?_)
  replace h := h G_4 eG_4
  refine aw_al_n F 0 dX8_halves_37 rfl rfl ?_
  refine gf8_5 F (lo_s rfl) (hP _ rfl) rfl w_1165 dX8_halves_38 ?_
  refine aw_if_le (tgt := 48) F dX8_halves_41 (by decide) (fun c_5 => ?_) (fun c_5 => ?_)
  · replace h := h.1 c_5
    refine aw_al_n F 0 dX8_halves_48 rfl rfl ?_
    refine aw_il_n F 1 dX8_halves_49 rfl rfl ?_
    refine aw_il_n F 2 dX8_halves_50 rfl rfl ?_
    refine aw_il_n F 3 dX8_halves_51 rfl rfl ?_
    refine aw_cVi (stk := []) F T.room [.int v1, .int v2, .int v3] (k_X8_halvesOf hP h) mv_X8_halvesOf w_1492 cf8 (lo_s rfl) (hP _ rfl) rfl (by decide) rfl rfl (Nat.le_of_ble_eq_true rfl) ⟨(Nat.le_of_ble_eq_true rfl), (Nat.le_of_ble_eq_true rfl)⟩ ⟨(Nat.le_of_ble_eq_true rfl), (Nat.le_of_ble_eq_true rfl)⟩ dX8_halves_52 (fun r_7 G_6 h => ?_)
    exact aw_iret F T (Nat.le_of_ble_eq_true rfl) (Nat.le_of_ble_eq_true rfl) ⟨_, rfl, h⟩ dX8_halves_55
  · replace h := h.2 c_5
    refine aw_ic F dX8_halves_44 ic_0 ?_
    refine aw_go (tgt := 55) F dX8_halves_45 (by decide) ?_
    exact aw_iret F T (Nat.le_of_ble_eq_true rfl) (Nat.le_of_ble_eq_true rfl) ⟨_, rfl, h⟩ dX8_halves_55
set_option maxRecDepth 100000 in
set_option maxHeartbeats 4000000 in
theorem kj_X8_halves_18 {E : Ev} {X : Cx} {post : Int32 → GH → Prop} {v1 v2 v3 : Int32} {G : GH} (F : Fx E X "MarkFieldModel" cX8_halves 4) (T : RT E X 10 0 0 (some .int) (pI post)) (h : j_X8_halves_18 post v1 v2 v3 G) : AW E X 4 18 [(0, .ref (sdX X 24 0)), (1, .int v1), (2, .int v2), (3, .int v3)] [.ref (sdX X 24 0)] G 0 0 := by
  have hP := F.P
  refine aw_ic F dX8_halves_18 ic_1 ?_
  refine aw_go (tgt := 34) F dX8_halves_19 (by decide) ?_
  exact kj_X8_halves_34 F T h
set_option maxRecDepth 100000 in
set_option maxHeartbeats 4000000 in
theorem k_X8_halves {l : Launch} {E : Ev} {P : Nat → Prop} {sd : Nat → Nat → Nat} {G : GH} {post : Int32 → GH → Prop} {x1 x2 x3 : Int32} (hPP : ∀ o, stt o = true → P o) (h : wp_X8_halves post x1 x2 x3 G) : Ct l yX8_halves cX8_halves 4 (some .int) 10 0 0 E P sd G [.ref (sd 24 0), .int x1, .int x2, .int x3] (pI post) := by
  refine ct_of (own := "MarkFieldModel") (by decide) rfl (Nat.le_of_ble_eq_true rfl) hPP (fun X F T el eP es => ?_)
  subst el; subst eP; subst es
  have hP := F.P
  change AW E X 4 0 [(0, .ref (sdX X 24 0)), (1, .int x1), (2, .int x2), (3, .int x3)] [] G 0 0
  refine aw_al_n F 0 dX8_halves_0 rfl rfl ?_
  refine aw_al_n F 0 dX8_halves_1 rfl rfl ?_
  refine aw_il_n F 1 dX8_halves_2 rfl rfl ?_
  refine aw_cVb (stk := [.ref (sdX X 24 0)]) F T.room [.int x1] (k_X8_isMark hP h) mv_X8_isMark w_1423 cf8 (lo_s rfl) (hP _ rfl) rfl (by decide) rfl rfl (Nat.le_of_ble_eq_true rfl) ⟨(Nat.le_of_ble_eq_true rfl), (Nat.le_of_ble_eq_true rfl)⟩ ⟨(Nat.le_of_ble_eq_true rfl), (Nat.le_of_ble_eq_true rfl)⟩ dX8_halves_3 (fun b_2 G_1 h => ?_)
  refine aw_if_eq (tgt := 18) F dX8_halves_6 (by decide) (fun c_3 => ?_) (fun c_3 => ?_)
  · replace h := h.1 (bI_2 c_3)
    exact kj_X8_halves_18 F T h
  · replace h := h.2 (bI_1 c_3)
    refine aw_il_n F 3 dX8_halves_9 rfl rfl ?_
    refine aw_ic F dX8_halves_10 ic_0 ?_
    refine aw_ic F dX8_halves_11 ic_2 ?_
    refine aw_cSb (stk := [.ref (sdX X 24 0)]) F T.room [.int x3, .int (0 : Int32), .int (2 : Int32)] (k_X8_within hP h) ms_X8_within w_1427 rfl rfl (Nat.le_of_ble_eq_true rfl) ⟨(Nat.le_of_ble_eq_true rfl), (Nat.le_of_ble_eq_true rfl)⟩ ⟨(Nat.le_of_ble_eq_true rfl), (Nat.le_of_ble_eq_true rfl)⟩ dX8_halves_12 (fun b_9 G_8 h => ?_)
    refine aw_if_ne (tgt := 22) F dX8_halves_15 (by decide) (fun c_10 => ?_) (fun c_10 => ?_)
    · replace h := h.2 (bI_1 c_10)
      refine aw_il_n F 2 dX8_halves_22 rfl rfl ?_
      refine aw_cSb (stk := [.ref (sdX X 24 0)]) F T.room [.int x2] (k_X8_isDay hP h) ms_X8_isDay w_1461 rfl rfl (Nat.le_of_ble_eq_true rfl) ⟨(Nat.le_of_ble_eq_true rfl), (Nat.le_of_ble_eq_true rfl)⟩ ⟨(Nat.le_of_ble_eq_true rfl), (Nat.le_of_ble_eq_true rfl)⟩ dX8_halves_23 (fun b_12 G_11 h => ?_)
      refine aw_if_ne (tgt := 33) F dX8_halves_26 (by decide) (fun c_13 => ?_) (fun c_13 => ?_)
      · replace h := h.2 (bI_1 c_13)
        refine aw_ic F dX8_halves_33 ic_0 ?_
        exact kj_X8_halves_34 F T h
      · replace h := h.1 (bI_2 c_13)
        refine aw_ic F dX8_halves_29 ic_2 ?_
        refine aw_go (tgt := 34) F dX8_halves_30 (by decide) ?_
        exact kj_X8_halves_34 F T h
    · replace h := h.1 (bI_2 c_10)
      exact kj_X8_halves_18 F T h
-- X8_holders (height 9)
def j_X8_holders_25 (post : Int32 → GH → Prop) (v1 v2 s1 : Int32) (G : GH) : Prop :=
  (∀ G_7 : GH, G_7 = gs G 24 0 (upd (G 24 0) 5 s1) → (((G_7 24 0 5) ≤ 0 → wp_X8_layHalf (fun (G_9 : GH) => post (G_9 24 0 25) G_9) v1 v2 G_7) ∧ (¬ (G_7 24 0 5) ≤ 0 → post (0 : Int32) G_7)))
def wp_X8_holders (post : Int32 → GH → Prop) (x1 x2 : Int32) (G : GH) : Prop :=
  wp_X8_isHalf (fun (b_2 : Bool) (G_1 : GH) => ((b_2 = false → j_X8_holders_25 post x1 x2 (1 : Int32) G_1) ∧ (b_2 = true → wp_X8_isDay (fun (b_5 : Bool) (G_4 : GH) => ((b_5 = false → j_X8_holders_25 post x1 x2 (2 : Int32) G_4) ∧ (b_5 = true → j_X8_holders_25 post x1 x2 (0 : Int32) G_4))) x2 G_1))) x1 G
set_option maxRecDepth 100000 in
set_option maxHeartbeats 4000000 in
theorem kj_X8_holders_25 {E : Ev} {X : Cx} {post : Int32 → GH → Prop} {v1 v2 s1 : Int32} {G : GH} (F : Fx E X "MarkFieldModel" cX8_holders 3) (T : RT E X 9 0 0 (some .int) (pI post)) (h : j_X8_holders_25 post v1 v2 s1 G) : AW E X 3 25 [(0, .ref (sdX X 24 0)), (1, .int v1), (2, .int v2)] [.int s1, .ref (sdX X 24 0)] G 0 0 := by
  have hP := F.P
  refine pf8_5 F (lo_s rfl) (hP _ rfl) rfl w_1165 dX8_holders_25 (fun G_7 eG_7 => ?_)
  replace h := h G_7 eG_7
  refine aw_al_n F 0 dX8_holders_28 rfl rfl ?_
  refine gf8_5 F (lo_s rfl) (hP _ rfl) rfl w_1165 dX8_holders_29 ?_
  refine aw_if_le (tgt := 37) F dX8_holders_32 (by decide) (fun c_8 => ?_) (fun c_8 => ?_)
  · replace h := h.1 c_8
    refine aw_al_n F 0 dX8_holders_37 rfl rfl ?_
    refine aw_il_n F 1 dX8_holders_38 rfl rfl ?_
    refine aw_il_n F 2 dX8_holders_39 rfl rfl ?_
    refine aw_cVv (stk := []) F T.room [.int v1, .int v2] (k_X8_layHalf hP h) mv_X8_layHalf w_1472 cf8 (lo_s rfl) (hP _ rfl) rfl (by decide) rfl rfl (Nat.le_of_ble_eq_true rfl) ⟨(Nat.le_of_ble_eq_true rfl), (Nat.le_of_ble_eq_true rfl)⟩ ⟨(Nat.le_of_ble_eq_true rfl), (Nat.le_of_ble_eq_true rfl)⟩ dX8_holders_40 (fun G_9 h => ?_)
    refine aw_al_n F 0 dX8_holders_43 rfl rfl ?_
    refine gf8_25 F (lo_s rfl) (hP _ rfl) rfl w_1185 dX8_holders_44 ?_
    exact aw_iret F T (Nat.le_of_ble_eq_true rfl) (Nat.le_of_ble_eq_true rfl) ⟨_, rfl, h⟩ dX8_holders_47
  · replace h := h.2 c_8
    refine aw_ic F dX8_holders_35 ic_0 ?_
    exact aw_iret F T (Nat.le_of_ble_eq_true rfl) (Nat.le_of_ble_eq_true rfl) ⟨_, rfl, h⟩ dX8_holders_36
set_option maxRecDepth 100000 in
set_option maxHeartbeats 4000000 in
theorem k_X8_holders {l : Launch} {E : Ev} {P : Nat → Prop} {sd : Nat → Nat → Nat} {G : GH} {post : Int32 → GH → Prop} {x1 x2 : Int32} (hPP : ∀ o, stt o = true → P o) (h : wp_X8_holders post x1 x2 G) : Ct l yX8_holders cX8_holders 3 (some .int) 9 0 0 E P sd G [.ref (sd 24 0), .int x1, .int x2] (pI post) := by
  refine ct_of (own := "MarkFieldModel") (by decide) rfl (Nat.le_of_ble_eq_true rfl) hPP (fun X F T el eP es => ?_)
  subst el; subst eP; subst es
  have hP := F.P
  change AW E X 3 0 [(0, .ref (sdX X 24 0)), (1, .int x1), (2, .int x2)] [] G 0 0
  refine aw_al_n F 0 dX8_holders_0 rfl rfl ?_
  refine aw_al_n F 0 dX8_holders_1 rfl rfl ?_
  refine aw_il_n F 1 dX8_holders_2 rfl rfl ?_
  refine aw_cVb (stk := [.ref (sdX X 24 0)]) F T.room [.int x1] (k_X8_isHalf hP h) mv_X8_isHalf w_1457 cf8 (lo_s rfl) (hP _ rfl) rfl (by decide) rfl rfl (Nat.le_of_ble_eq_true rfl) ⟨(Nat.le_of_ble_eq_true rfl), (Nat.le_of_ble_eq_true rfl)⟩ ⟨(Nat.le_of_ble_eq_true rfl), (Nat.le_of_ble_eq_true rfl)⟩ dX8_holders_3 (fun b_2 G_1 h => ?_)
  refine aw_if_ne (tgt := 13) F dX8_holders_6 (by decide) (fun c_3 => ?_) (fun c_3 => ?_)
  · replace h := h.2 (bI_1 c_3)
    refine aw_il_n F 2 dX8_holders_13 rfl rfl ?_
    refine aw_cSb (stk := [.ref (sdX X 24 0)]) F T.room [.int x2] (k_X8_isDay hP h) ms_X8_isDay w_1461 rfl rfl (Nat.le_of_ble_eq_true rfl) ⟨(Nat.le_of_ble_eq_true rfl), (Nat.le_of_ble_eq_true rfl)⟩ ⟨(Nat.le_of_ble_eq_true rfl), (Nat.le_of_ble_eq_true rfl)⟩ dX8_holders_14 (fun b_5 G_4 h => ?_)
    refine aw_if_ne (tgt := 24) F dX8_holders_17 (by decide) (fun c_6 => ?_) (fun c_6 => ?_)
    · replace h := h.2 (bI_1 c_6)
      refine aw_ic F dX8_holders_24 ic_0 ?_
      exact kj_X8_holders_25 F T h
    · replace h := h.1 (bI_2 c_6)
      refine aw_ic F dX8_holders_20 ic_2 ?_
      refine aw_go (tgt := 25) F dX8_holders_21 (by decide) ?_
      exact kj_X8_holders_25 F T h
  · replace h := h.1 (bI_2 c_3)
    refine aw_ic F dX8_holders_9 ic_1 ?_
    refine aw_go (tgt := 25) F dX8_holders_10 (by decide) ?_
    exact kj_X8_holders_25 F T h
-- X8_holdersOf (height 9)
def wp_X8_holdersOf (post : Int32 → GH → Prop) (x1 x2 : Int32) (G : GH) : Prop :=
  wp_X8_layHalf (fun (G_1 : GH) => post (G_1 24 0 25) G_1) x1 x2 G
set_option maxRecDepth 100000 in
set_option maxHeartbeats 4000000 in
theorem k_X8_holdersOf {l : Launch} {E : Ev} {P : Nat → Prop} {sd : Nat → Nat → Nat} {G : GH} {post : Int32 → GH → Prop} {x1 x2 : Int32} (hPP : ∀ o, stt o = true → P o) (h : wp_X8_holdersOf post x1 x2 G) : Ct l yX8_holdersOf cX8_holdersOf 3 (some .int) 9 0 0 E P sd G [.ref (sd 24 0), .int x1, .int x2] (pI post) := by
  refine ct_of (own := "MarkFieldModel") (by decide) rfl (Nat.le_of_ble_eq_true rfl) hPP (fun X F T el eP es => ?_)
  subst el; subst eP; subst es
  have hP := F.P
  change AW E X 3 0 [(0, .ref (sdX X 24 0)), (1, .int x1), (2, .int x2)] [] G 0 0
  refine aw_al_n F 0 dX8_holdersOf_0 rfl rfl ?_
  refine aw_il_n F 1 dX8_holdersOf_1 rfl rfl ?_
  refine aw_il_n F 2 dX8_holdersOf_2 rfl rfl ?_
  refine aw_cVv (stk := []) F T.room [.int x1, .int x2] (k_X8_layHalf hP h) mv_X8_layHalf w_1472 cf8 (lo_s rfl) (hP _ rfl) rfl (by decide) rfl rfl (Nat.le_of_ble_eq_true rfl) ⟨(Nat.le_of_ble_eq_true rfl), (Nat.le_of_ble_eq_true rfl)⟩ ⟨(Nat.le_of_ble_eq_true rfl), (Nat.le_of_ble_eq_true rfl)⟩ dX8_holdersOf_3 (fun G_1 h => ?_)
  refine aw_al_n F 0 dX8_holdersOf_6 rfl rfl ?_
  refine gf8_25 F (lo_s rfl) (hP _ rfl) rfl w_1185 dX8_holdersOf_7 ?_
  exact aw_iret F T (Nat.le_of_ble_eq_true rfl) (Nat.le_of_ble_eq_true rfl) ⟨_, rfl, h⟩ dX8_holdersOf_10
-- X8_shared (height 10)
def lb_X8_shared_64 (post : Int32 → GH → Prop) (P29 : Int32 → Int32 → Int32 → GH → Prop) (P64 : Int32 → Int32 → Int32 → Int32 → Int32 → Int32 → GH → Prop) (v1 v2 v3 v4 v5 v6 : Int32) (G : GH) : Prop :=
  wp_X8_marks (fun (r_12 : Int32) (G_11 : GH) => ((r_12 ≤ v6 → P29 v1 v2 (v3 + (1 : Int32)) G_11) ∧ (¬ r_12 ≤ v6 → wp_X8_has (fun (b_15 : Bool) (G_14 : GH) => ((b_15 = false → P64 v1 v2 v3 v4 v5 (v6 + (1 : Int32)) G_14) ∧ (b_15 = true → (vp_in v6 13 ∧ (((((G_14 24 20 v6.toNatClampNeg) &&& v5) &&& (v4 ^^^ (-1 : Int32))) = 0 → P64 v1 v2 v3 v4 v5 (v6 + (1 : Int32)) G_14) ∧ (¬ (((G_14 24 20 v6.toNatClampNeg) &&& v5) &&& (v4 ^^^ (-1 : Int32))) = 0 → (∀ y_18 : Int32, y_18 = (v2 ||| ((1 : Int32) <<< (v3 &&& 31))) → P64 v1 y_18 v3 v4 v5 (v6 + (1 : Int32)) G_14))))))) (v4 &&& (v5 ^^^ (-1 : Int32))) v6 G_11))) G
def lp_X8_shared_64 (post : Int32 → GH → Prop) (P29 : Int32 → Int32 → Int32 → GH → Prop) (v1 v2 v3 v4 v5 v6 : Int32) (G : GH) : Prop := ∀ P64 : Int32 → Int32 → Int32 → Int32 → Int32 → Int32 → GH → Prop, (∀ (v1 v2 v3 v4 v5 v6 : Int32) (G : GH), lb_X8_shared_64 post P29 P64 v1 v2 v3 v4 v5 v6 G → P64 v1 v2 v3 v4 v5 v6 G) → P64 v1 v2 v3 v4 v5 v6 G
def lb_X8_shared_29 (post : Int32 → GH → Prop) (P29 : Int32 → Int32 → Int32 → GH → Prop) (v1 v2 v3 : Int32) (G : GH) : Prop :=
  (((G 24 1 0) ≤ v3 → post v2 G) ∧ (¬ (G 24 1 0) ≤ v3 → wp_X8_holdersOf (fun (r_8 : Int32) (G_7 : GH) => wp_X8_holdersOf (fun (r_10 : Int32) (G_9 : GH) => lp_X8_shared_64 post P29 v1 v2 v3 r_8 r_10 (0 : Int32) G_9) (((2 : Int32) * v3) + (1 : Int32)) v1 G_7) ((2 : Int32) * v3) v1 G))
def lp_X8_shared_29 (post : Int32 → GH → Prop) (v1 v2 v3 : Int32) (G : GH) : Prop := ∀ P29 : Int32 → Int32 → Int32 → GH → Prop, (∀ (v1 v2 v3 : Int32) (G : GH), lb_X8_shared_29 post P29 v1 v2 v3 G → P29 v1 v2 v3 G) → P29 v1 v2 v3 G
def j_X8_shared_13 (post : Int32 → GH → Prop) (v1 s1 : Int32) (G : GH) : Prop :=
  (∀ G_4 : GH, G_4 = gs G 24 0 (upd (G 24 0) 5 s1) → (((G_4 24 0 5) ≤ 0 → lp_X8_shared_29 post v1 (0 : Int32) (0 : Int32) G_4) ∧ (¬ (G_4 24 0 5) ≤ 0 → post (0 : Int32) G_4)))
def wp_X8_shared (post : Int32 → GH → Prop) (x1 : Int32) (G : GH) : Prop :=
  wp_X8_isDay (fun (b_2 : Bool) (G_1 : GH) => ((b_2 = false → j_X8_shared_13 post x1 (1 : Int32) G_1) ∧ (b_2 = true → j_X8_shared_13 post x1 (0 : Int32) G_1))) x1 G
set_option maxRecDepth 100000 in
set_option maxHeartbeats 4000000 in
theorem kl_X8_shared_64 {E : Ev} {X : Cx} {post : Int32 → GH → Prop} {P29 : Int32 → Int32 → Int32 → GH → Prop} {v1 v2 v3 v4 v5 v6 : Int32} {G : GH} (F : Fx E X "MarkFieldModel" cX8_shared 7) (T : RT E X 10 0 0 (some .int) (pI post)) (K29 : ∀ (v1 v2 v3 : Int32) (G : GH), P29 v1 v2 v3 G → AW E X 7 29 [(0, .ref (sdX X 24 0)), (1, .int v1), (2, .int v2), (3, .int v3)] [] G 0 0) (h : lp_X8_shared_64 post P29 v1 v2 v3 v4 v5 v6 G) : AW E X 7 64 [(0, .ref (sdX X 24 0)), (1, .int v1), (2, .int v2), (3, .int v3), (4, .int v4), (5, .int v5), (6, .int v6)] [] G 0 0 := by
  have hP := F.P
  have K64 : ∀ (v1 v2 v3 v4 v5 v6 : Int32) (G : GH), AW E X 7 64 [(0, .ref (sdX X 24 0)), (1, .int v1), (2, .int v2), (3, .int v3), (4, .int v4), (5, .int v5), (6, .int v6)] [] G 0 0 → AW E X 7 64 [(0, .ref (sdX X 24 0)), (1, .int v1), (2, .int v2), (3, .int v3), (4, .int v4), (5, .int v5), (6, .int v6)] [] G 0 0 := fun _ _ _ _ _ _ _ q => q
  refine h (fun (v1 v2 v3 v4 v5 v6 : Int32) (G : GH) => AW E X 7 64 [(0, .ref (sdX X 24 0)), (1, .int v1), (2, .int v2), (3, .int v3), (4, .int v4), (5, .int v5), (6, .int v6)] [] G 0 0) (fun (v1 v2 v3 v4 v5 v6 : Int32) (G : GH) h => ?_)
  refine aw_il F 6 dX8_shared_64 rfl ?_
  refine aw_al_n F 0 dX8_shared_66 rfl rfl ?_
  refine aw_cVi (stk := [.int v6]) F T.room [] (k_X8_marks hP h) mv_X8_marks w_1305 cf8 (lo_s rfl) (hP _ rfl) rfl (by decide) rfl rfl (Nat.le_of_ble_eq_true rfl) ⟨(Nat.le_of_ble_eq_true rfl), (Nat.le_of_ble_eq_true rfl)⟩ ⟨(Nat.le_of_ble_eq_true rfl), (Nat.le_of_ble_eq_true rfl)⟩ dX8_shared_67 (fun r_12 G_11 h => ?_)
  refine aw_icmp_ge (tgt := 118) F dX8_shared_70 (by decide) (fun c_13 => ?_) (fun c_13 => ?_)
  · replace h := h.1 c_13
    refine aw_inc (lv1 := [(3, .int (v3 + (1 : Int32))), (0, .ref (sdX X 24 0)), (1, .int v1), (2, .int v2), (4, .int v4), (5, .int v5), (6, .int v6)]) F 3 dX8_shared_118 rfl (in_1 _) (by decide) rfl ?_
    refine aw_go (tgt := 29) F dX8_shared_121 (by decide) ?_
    refine aw_sub [1, 2, 3, 0] rfl ?_
    exact K29 _ _ _ _ h
  · replace h := h.2 c_13
    refine aw_il F 4 dX8_shared_73 rfl ?_
    refine aw_il F 5 dX8_shared_75 rfl ?_
    refine aw_ic F dX8_shared_77 ic_m1 ?_
    refine aw_ixor F dX8_shared_78 ?_
    refine aw_iand F dX8_shared_79 ?_
    refine aw_il F 6 dX8_shared_80 rfl ?_
    refine aw_cSb (stk := []) F T.room [.int (v4 &&& (v5 ^^^ (-1 : Int32))), .int v6] (k_X8_has hP h) ms_X8_has w_1385 rfl rfl (Nat.le_of_ble_eq_true rfl) ⟨(Nat.le_of_ble_eq_true rfl), (Nat.le_of_ble_eq_true rfl)⟩ ⟨(Nat.le_of_ble_eq_true rfl), (Nat.le_of_ble_eq_true rfl)⟩ dX8_shared_82 (fun b_15 G_14 h => ?_)
    refine aw_if_eq (tgt := 112) F dX8_shared_85 (by decide) (fun c_16 => ?_) (fun c_16 => ?_)
    · replace h := h.1 (bI_2 c_16)
      refine aw_inc (lv1 := [(6, .int (v6 + (1 : Int32))), (0, .ref (sdX X 24 0)), (1, .int v1), (2, .int v2), (3, .int v3), (4, .int v4), (5, .int v5)]) F 6 dX8_shared_112 rfl (in_1 _) (by decide) rfl ?_
      refine aw_go (tgt := 64) F dX8_shared_115 (by decide) ?_
      refine aw_sub [1, 2, 3, 4, 5, 6, 0] rfl ?_
      exact K64 _ _ _ _ _ _ _ h
    · replace h := h.2 (bI_1 c_16)
      refine aw_al_n F 0 dX8_shared_88 rfl rfl ?_
      refine gr8_19 F (lo_s rfl) (hP _ rfl) rfl w_1179 (hP _ rfl) dX8_shared_89 ?_
      refine aw_il F 6 dX8_shared_92 rfl ?_
      refine aw_iald F 24 20 (lo_s rfl) (hP _ rfl) rfl h.1 dX8_shared_94 ?_
      replace h := h.2
      refine aw_il F 5 dX8_shared_95 rfl ?_
      refine aw_iand F dX8_shared_97 ?_
      refine aw_il F 4 dX8_shared_98 rfl ?_
      refine aw_ic F dX8_shared_100 ic_m1 ?_
      refine aw_ixor F dX8_shared_101 ?_
      refine aw_iand F dX8_shared_102 ?_
      refine aw_if_eq (tgt := 112) F dX8_shared_103 (by decide) (fun c_17 => ?_) (fun c_17 => ?_)
      · replace h := h.1 c_17
        refine aw_inc (lv1 := [(6, .int (v6 + (1 : Int32))), (0, .ref (sdX X 24 0)), (1, .int v1), (2, .int v2), (3, .int v3), (4, .int v4), (5, .int v5)]) F 6 dX8_shared_112 rfl (in_1 _) (by decide) rfl ?_
        refine aw_go (tgt := 64) F dX8_shared_115 (by decide) ?_
        refine aw_sub [1, 2, 3, 4, 5, 6, 0] rfl ?_
        exact K64 _ _ _ _ _ _ _ h
      · replace h := h.2 c_17
        refine aw_il_n F 2 dX8_shared_106 rfl rfl ?_
        refine aw_ic F dX8_shared_107 ic_1 ?_
        refine aw_il_n F 3 dX8_shared_108 rfl rfl ?_
        refine aw_ishl F dX8_shared_109 ?_
        refine aw_ior F dX8_shared_110 ?_
        refine aw_top (fun y_18 ey_18 => ?_)
        replace h := h y_18 ey_18
        refine aw_is_n (lv1 := [(2, .int y_18), (0, .ref (sdX X 24 0)), (1, .int v1), (3, .int v3), (4, .int v4), (5, .int v5), (6, .int v6)]) F dX8_shared_111 rfl (by decide) rfl ?_
        refine aw_inc (lv1 := [(6, .int (v6 + (1 : Int32))), (2, .int y_18), (0, .ref (sdX X 24 0)), (1, .int v1), (3, .int v3), (4, .int v4), (5, .int v5)]) F 6 dX8_shared_112 rfl (in_1 _) (by decide) rfl ?_
        refine aw_go (tgt := 64) F dX8_shared_115 (by decide) ?_
        refine aw_sub [2, 3, 1, 4, 5, 6, 0] rfl ?_
        exact K64 _ _ _ _ _ _ _ h
set_option maxRecDepth 100000 in
set_option maxHeartbeats 4000000 in
theorem kl_X8_shared_29 {E : Ev} {X : Cx} {post : Int32 → GH → Prop} {v1 v2 v3 : Int32} {G : GH} (F : Fx E X "MarkFieldModel" cX8_shared 7) (T : RT E X 10 0 0 (some .int) (pI post)) (h : lp_X8_shared_29 post v1 v2 v3 G) : AW E X 7 29 [(0, .ref (sdX X 24 0)), (1, .int v1), (2, .int v2), (3, .int v3)] [] G 0 0 := by
  have hP := F.P
  have K29 : ∀ (v1 v2 v3 : Int32) (G : GH), AW E X 7 29 [(0, .ref (sdX X 24 0)), (1, .int v1), (2, .int v2), (3, .int v3)] [] G 0 0 → AW E X 7 29 [(0, .ref (sdX X 24 0)), (1, .int v1), (2, .int v2), (3, .int v3)] [] G 0 0 := fun _ _ _ _ q => q
  refine h (fun (v1 v2 v3 : Int32) (G : GH) => AW E X 7 29 [(0, .ref (sdX X 24 0)), (1, .int v1), (2, .int v2), (3, .int v3)] [] G 0 0) (fun (v1 v2 v3 : Int32) (G : GH) h => ?_)
  refine aw_il_n F 3 dX8_shared_29 rfl rfl ?_
  refine aw_al_n F 0 dX8_shared_30 rfl rfl ?_
  refine gr8_0 F (lo_s rfl) (hP _ rfl) rfl w_1160 (hP _ rfl) dX8_shared_31 ?_
  refine aw_ic F dX8_shared_34 ic_0 ?_
  refine aw_ialdL F 24 1 (lo_s rfl) (hP _ rfl) rfl (vin_l rfl) tn_0 dX8_shared_35 ?_
  refine aw_icmp_ge (tgt := 124) F dX8_shared_36 (by decide) (fun c_6 => ?_) (fun c_6 => ?_)
  · replace h := h.1 c_6
    refine aw_il_n F 2 dX8_shared_124 rfl rfl ?_
    exact aw_iret F T (Nat.le_of_ble_eq_true rfl) (Nat.le_of_ble_eq_true rfl) ⟨_, rfl, h⟩ dX8_shared_125
  · replace h := h.2 c_6
    refine aw_al_n F 0 dX8_shared_39 rfl rfl ?_
    refine aw_ic F dX8_shared_40 ic_2 ?_
    refine aw_il_n F 3 dX8_shared_41 rfl rfl ?_
    refine aw_imul F dX8_shared_42 ?_
    refine aw_il_n F 1 dX8_shared_43 rfl rfl ?_
    refine aw_cVi (stk := []) F T.room [.int ((2 : Int32) * v3), .int v1] (k_X8_holdersOf hP h) mv_X8_holdersOf w_1504 cf8 (lo_s rfl) (hP _ rfl) rfl (by decide) rfl rfl (Nat.le_of_ble_eq_true rfl) ⟨(Nat.le_of_ble_eq_true rfl), (Nat.le_of_ble_eq_true rfl)⟩ ⟨(Nat.le_of_ble_eq_true rfl), (Nat.le_of_ble_eq_true rfl)⟩ dX8_shared_44 (fun r_8 G_7 h => ?_)
    refine aw_is (lv1 := [(4, .int r_8), (0, .ref (sdX X 24 0)), (1, .int v1), (2, .int v2), (3, .int v3)]) F dX8_shared_47 (by decide) rfl ?_
    refine aw_al_n F 1 dX8_shared_49 rfl rfl ?_
    refine aw_ic F dX8_shared_50 ic_2 ?_
    refine aw_il_n F 4 dX8_shared_51 rfl rfl ?_
    refine aw_imul F dX8_shared_52 ?_
    refine aw_ic F dX8_shared_53 ic_1 ?_
    refine aw_iadd F dX8_shared_54 ?_
    refine aw_il_n F 2 dX8_shared_55 rfl rfl ?_
    refine aw_cVi (stk := []) F T.room [.int (((2 : Int32) * v3) + (1 : Int32)), .int v1] (k_X8_holdersOf hP h) mv_X8_holdersOf w_1504 cf8 (lo_s rfl) (hP _ rfl) rfl (by decide) rfl rfl (Nat.le_of_ble_eq_true rfl) ⟨(Nat.le_of_ble_eq_true rfl), (Nat.le_of_ble_eq_true rfl)⟩ ⟨(Nat.le_of_ble_eq_true rfl), (Nat.le_of_ble_eq_true rfl)⟩ dX8_shared_56 (fun r_10 G_9 h => ?_)
    refine aw_is (lv1 := [(5, .int r_10), (4, .int r_8), (0, .ref (sdX X 24 0)), (1, .int v1), (2, .int v2), (3, .int v3)]) F dX8_shared_59 (by decide) rfl ?_
    refine aw_ic F dX8_shared_61 ic_0 ?_
    refine aw_is (lv1 := [(6, .int (0 : Int32)), (5, .int r_10), (4, .int r_8), (0, .ref (sdX X 24 0)), (1, .int v1), (2, .int v2), (3, .int v3)]) F dX8_shared_62 (by decide) rfl ?_
    refine aw_sub [3, 4, 5, 6, 2, 1, 0] rfl ?_
    exact kl_X8_shared_64 F T K29 h
set_option maxRecDepth 100000 in
set_option maxHeartbeats 4000000 in
theorem kj_X8_shared_13 {E : Ev} {X : Cx} {post : Int32 → GH → Prop} {v1 s1 : Int32} {G : GH} (F : Fx E X "MarkFieldModel" cX8_shared 7) (T : RT E X 10 0 0 (some .int) (pI post)) (h : j_X8_shared_13 post v1 s1 G) : AW E X 7 13 [(0, .ref (sdX X 24 0)), (1, .int v1)] [.int s1, .ref (sdX X 24 0)] G 0 0 := by
  have hP := F.P
  refine pf8_5 F (lo_s rfl) (hP _ rfl) rfl w_1165 dX8_shared_13 (fun G_4 eG_4 => ?_)
  replace h := h G_4 eG_4
  refine aw_al_n F 0 dX8_shared_16 rfl rfl ?_
  refine gf8_5 F (lo_s rfl) (hP _ rfl) rfl w_1165 dX8_shared_17 ?_
  refine aw_if_le (tgt := 25) F dX8_shared_20 (by decide) (fun c_5 => ?_) (fun c_5 => ?_)
  · replace h := h.1 c_5
    refine aw_ic F dX8_shared_25 ic_0 ?_
    refine aw_is_n (lv1 := [(2, .int (0 : Int32)), (0, .ref (sdX X 24 0)), (1, .int v1)]) F dX8_shared_26 rfl (by decide) rfl ?_
    refine aw_ic F dX8_shared_27 ic_0 ?_
    refine aw_is_n (lv1 := [(3, .int (0 : Int32)), (2, .int (0 : Int32)), (0, .ref (sdX X 24 0)), (1, .int v1)]) F dX8_shared_28 rfl (by decide) rfl ?_
    refine aw_sub [2, 3, 1, 0] rfl ?_
    exact kl_X8_shared_29 F T h
  · replace h := h.2 c_5
    refine aw_ic F dX8_shared_23 ic_0 ?_
    exact aw_iret F T (Nat.le_of_ble_eq_true rfl) (Nat.le_of_ble_eq_true rfl) ⟨_, rfl, h⟩ dX8_shared_24
set_option maxRecDepth 100000 in
set_option maxHeartbeats 4000000 in
theorem k_X8_shared {l : Launch} {E : Ev} {P : Nat → Prop} {sd : Nat → Nat → Nat} {G : GH} {post : Int32 → GH → Prop} {x1 : Int32} (hPP : ∀ o, stt o = true → P o) (h : wp_X8_shared post x1 G) : Ct l yX8_shared cX8_shared 7 (some .int) 10 0 0 E P sd G [.ref (sd 24 0), .int x1] (pI post) := by
  refine ct_of (own := "MarkFieldModel") (by decide) rfl (Nat.le_of_ble_eq_true rfl) hPP (fun X F T el eP es => ?_)
  subst el; subst eP; subst es
  have hP := F.P
  change AW E X 7 0 [(0, .ref (sdX X 24 0)), (1, .int x1)] [] G 0 0
  refine aw_al_n F 0 dX8_shared_0 rfl rfl ?_
  refine aw_il_n F 1 dX8_shared_1 rfl rfl ?_
  refine aw_cSb (stk := [.ref (sdX X 24 0)]) F T.room [.int x1] (k_X8_isDay hP h) ms_X8_isDay w_1461 rfl rfl (Nat.le_of_ble_eq_true rfl) ⟨(Nat.le_of_ble_eq_true rfl), (Nat.le_of_ble_eq_true rfl)⟩ ⟨(Nat.le_of_ble_eq_true rfl), (Nat.le_of_ble_eq_true rfl)⟩ dX8_shared_2 (fun b_2 G_1 h => ?_)
  refine aw_if_eq (tgt := 12) F dX8_shared_5 (by decide) (fun c_3 => ?_) (fun c_3 => ?_)
  · replace h := h.1 (bI_2 c_3)
    refine aw_ic F dX8_shared_12 ic_1 ?_
    exact kj_X8_shared_13 F T h
  · replace h := h.2 (bI_1 c_3)
    refine aw_ic F dX8_shared_8 ic_0 ?_
    refine aw_go (tgt := 13) F dX8_shared_9 (by decide) ?_
    exact kj_X8_shared_13 F T h
-- X8_refusedOf (height 10)
def lb_X8_refusedOf_4 (post : Int32 → GH → Prop) (P4 : Int32 → Int32 → Int32 → GH → Prop) (v1 v2 v3 : Int32) (G : GH) : Prop :=
  wp_X8_marks (fun (r_2 : Int32) (G_1 : GH) => ((r_2 ≤ v3 → post v2 G_1) ∧ (¬ r_2 ≤ v3 → wp_X8_halvesOf (fun (r_5 : Int32) (G_4 : GH) => ((r_5 = 0 → P4 v1 v2 (v3 + (1 : Int32)) G_4) ∧ (¬ r_5 = 0 → wp_X8_halvesOf (fun (r_8 : Int32) (G_7 : GH) => ((r_8 = 0 → (∀ y_10 : Int32, y_10 = (v2 ||| ((1 : Int32) <<< (v3 &&& 31))) → P4 v1 y_10 (v3 + (1 : Int32)) G_7)) ∧ (¬ r_8 = 0 → P4 v1 v2 (v3 + (1 : Int32)) G_7))) v3 v1 (1 : Int32) G_4))) v3 v1 (0 : Int32) G_1))) G
def lp_X8_refusedOf_4 (post : Int32 → GH → Prop) (v1 v2 v3 : Int32) (G : GH) : Prop := ∀ P4 : Int32 → Int32 → Int32 → GH → Prop, (∀ (v1 v2 v3 : Int32) (G : GH), lb_X8_refusedOf_4 post P4 v1 v2 v3 G → P4 v1 v2 v3 G) → P4 v1 v2 v3 G
def wp_X8_refusedOf (post : Int32 → GH → Prop) (x1 : Int32) (G : GH) : Prop :=
  lp_X8_refusedOf_4 post x1 (0 : Int32) (0 : Int32) G
set_option maxRecDepth 100000 in
set_option maxHeartbeats 4000000 in
theorem kl_X8_refusedOf_4 {E : Ev} {X : Cx} {post : Int32 → GH → Prop} {v1 v2 v3 : Int32} {G : GH} (F : Fx E X "MarkFieldModel" cX8_refusedOf 4) (T : RT E X 10 0 0 (some .int) (pI post)) (h : lp_X8_refusedOf_4 post v1 v2 v3 G) : AW E X 4 4 [(0, .ref (sdX X 24 0)), (1, .int v1), (2, .int v2), (3, .int v3)] [] G 0 0 := by
  have hP := F.P
  have K4 : ∀ (v1 v2 v3 : Int32) (G : GH), AW E X 4 4 [(0, .ref (sdX X 24 0)), (1, .int v1), (2, .int v2), (3, .int v3)] [] G 0 0 → AW E X 4 4 [(0, .ref (sdX X 24 0)), (1, .int v1), (2, .int v2), (3, .int v3)] [] G 0 0 := fun _ _ _ _ q => q
  refine h (fun (v1 v2 v3 : Int32) (G : GH) => AW E X 4 4 [(0, .ref (sdX X 24 0)), (1, .int v1), (2, .int v2), (3, .int v3)] [] G 0 0) (fun (v1 v2 v3 : Int32) (G : GH) h => ?_)
  refine aw_il_n F 3 dX8_refusedOf_4 rfl rfl ?_
  refine aw_al_n F 0 dX8_refusedOf_5 rfl rfl ?_
  refine aw_cVi (stk := [.int v3]) F T.room [] (k_X8_marks hP h) mv_X8_marks w_1305 cf8 (lo_s rfl) (hP _ rfl) rfl (by decide) rfl rfl (Nat.le_of_ble_eq_true rfl) ⟨(Nat.le_of_ble_eq_true rfl), (Nat.le_of_ble_eq_true rfl)⟩ ⟨(Nat.le_of_ble_eq_true rfl), (Nat.le_of_ble_eq_true rfl)⟩ dX8_refusedOf_6 (fun r_2 G_1 h => ?_)
  refine aw_icmp_ge (tgt := 44) F dX8_refusedOf_9 (by decide) (fun c_3 => ?_) (fun c_3 => ?_)
  · replace h := h.1 c_3
    refine aw_il_n F 2 dX8_refusedOf_44 rfl rfl ?_
    exact aw_iret F T (Nat.le_of_ble_eq_true rfl) (Nat.le_of_ble_eq_true rfl) ⟨_, rfl, h⟩ dX8_refusedOf_45
  · replace h := h.2 c_3
    refine aw_al_n F 0 dX8_refusedOf_12 rfl rfl ?_
    refine aw_il_n F 3 dX8_refusedOf_13 rfl rfl ?_
    refine aw_il_n F 1 dX8_refusedOf_14 rfl rfl ?_
    refine aw_ic F dX8_refusedOf_15 ic_0 ?_
    refine aw_cVi (stk := []) F T.room [.int v3, .int v1, .int (0 : Int32)] (k_X8_halvesOf hP h) mv_X8_halvesOf w_1492 cf8 (lo_s rfl) (hP _ rfl) rfl (by decide) rfl rfl (Nat.le_of_ble_eq_true rfl) ⟨(Nat.le_of_ble_eq_true rfl), (Nat.le_of_ble_eq_true rfl)⟩ ⟨(Nat.le_of_ble_eq_true rfl), (Nat.le_of_ble_eq_true rfl)⟩ dX8_refusedOf_16 (fun r_5 G_4 h => ?_)
    refine aw_if_eq (tgt := 38) F dX8_refusedOf_19 (by decide) (fun c_6 => ?_) (fun c_6 => ?_)
    · replace h := h.1 c_6
      refine aw_inc (lv1 := [(3, .int (v3 + (1 : Int32))), (0, .ref (sdX X 24 0)), (1, .int v1), (2, .int v2)]) F 3 dX8_refusedOf_38 rfl (in_1 _) (by decide) rfl ?_
      refine aw_go (tgt := 4) F dX8_refusedOf_41 (by decide) ?_
      refine aw_sub [1, 2, 3, 0] rfl ?_
      exact K4 _ _ _ _ h
    · replace h := h.2 c_6
      refine aw_al_n F 0 dX8_refusedOf_22 rfl rfl ?_
      refine aw_il_n F 3 dX8_refusedOf_23 rfl rfl ?_
      refine aw_il_n F 1 dX8_refusedOf_24 rfl rfl ?_
      refine aw_ic F dX8_refusedOf_25 ic_1 ?_
      refine aw_cVi (stk := []) F T.room [.int v3, .int v1, .int (1 : Int32)] (k_X8_halvesOf hP h) mv_X8_halvesOf w_1492 cf8 (lo_s rfl) (hP _ rfl) rfl (by decide) rfl rfl (Nat.le_of_ble_eq_true rfl) ⟨(Nat.le_of_ble_eq_true rfl), (Nat.le_of_ble_eq_true rfl)⟩ ⟨(Nat.le_of_ble_eq_true rfl), (Nat.le_of_ble_eq_true rfl)⟩ dX8_refusedOf_26 (fun r_8 G_7 h => ?_)
      refine aw_if_ne (tgt := 38) F dX8_refusedOf_29 (by decide) (fun c_9 => ?_) (fun c_9 => ?_)
      · replace h := h.2 c_9
        refine aw_inc (lv1 := [(3, .int (v3 + (1 : Int32))), (0, .ref (sdX X 24 0)), (1, .int v1), (2, .int v2)]) F 3 dX8_refusedOf_38 rfl (in_1 _) (by decide) rfl ?_
        refine aw_go (tgt := 4) F dX8_refusedOf_41 (by decide) ?_
        refine aw_sub [1, 2, 3, 0] rfl ?_
        exact K4 _ _ _ _ h
      · replace h := h.1 c_9
        refine aw_il_n F 2 dX8_refusedOf_32 rfl rfl ?_
        refine aw_ic F dX8_refusedOf_33 ic_1 ?_
        refine aw_il_n F 3 dX8_refusedOf_34 rfl rfl ?_
        refine aw_ishl F dX8_refusedOf_35 ?_
        refine aw_ior F dX8_refusedOf_36 ?_
        refine aw_top (fun y_10 ey_10 => ?_)
        replace h := h y_10 ey_10
        refine aw_is_n (lv1 := [(2, .int y_10), (0, .ref (sdX X 24 0)), (1, .int v1), (3, .int v3)]) F dX8_refusedOf_37 rfl (by decide) rfl ?_
        refine aw_inc (lv1 := [(3, .int (v3 + (1 : Int32))), (2, .int y_10), (0, .ref (sdX X 24 0)), (1, .int v1)]) F 3 dX8_refusedOf_38 rfl (in_1 _) (by decide) rfl ?_
        refine aw_go (tgt := 4) F dX8_refusedOf_41 (by decide) ?_
        refine aw_sub [2, 3, 1, 0] rfl ?_
        exact K4 _ _ _ _ h
set_option maxRecDepth 100000 in
set_option maxHeartbeats 4000000 in
theorem k_X8_refusedOf {l : Launch} {E : Ev} {P : Nat → Prop} {sd : Nat → Nat → Nat} {G : GH} {post : Int32 → GH → Prop} {x1 : Int32} (hPP : ∀ o, stt o = true → P o) (h : wp_X8_refusedOf post x1 G) : Ct l yX8_refusedOf cX8_refusedOf 4 (some .int) 10 0 0 E P sd G [.ref (sd 24 0), .int x1] (pI post) := by
  refine ct_of (own := "MarkFieldModel") (by decide) rfl (Nat.le_of_ble_eq_true rfl) hPP (fun X F T el eP es => ?_)
  subst el; subst eP; subst es
  have hP := F.P
  change AW E X 4 0 [(0, .ref (sdX X 24 0)), (1, .int x1)] [] G 0 0
  refine aw_ic F dX8_refusedOf_0 ic_0 ?_
  refine aw_is_n (lv1 := [(2, .int (0 : Int32)), (0, .ref (sdX X 24 0)), (1, .int x1)]) F dX8_refusedOf_1 rfl (by decide) rfl ?_
  refine aw_ic F dX8_refusedOf_2 ic_0 ?_
  refine aw_is_n (lv1 := [(3, .int (0 : Int32)), (2, .int (0 : Int32)), (0, .ref (sdX X 24 0)), (1, .int x1)]) F dX8_refusedOf_3 rfl (by decide) rfl ?_
  refine aw_sub [2, 3, 1, 0] rfl ?_
  exact kl_X8_refusedOf_4 F T h
-- X8_refused (height 11)
def lb_X8_refused_56 (post : Int32 → GH → Prop) (P56 : Int32 → Int32 → Int32 → GH → Prop) (v3 v4 v5 : Int32) (G : GH) : Prop :=
  wp_X8_marks (fun (r_13 : Int32) (G_12 : GH) => ((r_13 ≤ v5 → post v4 G_12) ∧ (¬ r_13 ≤ v5 → wp_X8_has (fun (b_16 : Bool) (G_15 : GH) => ((b_16 = false → P56 v3 v4 (v5 + (1 : Int32)) G_15) ∧ (b_16 = true → ((v4 = (-1 : Int32) → P56 v3 v5 (v5 + (1 : Int32)) G_15) ∧ (¬ v4 = (-1 : Int32) → wp_X8_of1 (fun (r_20 : Int32) (G_19 : GH) => wp_X8_of1 (fun (r_22 : Int32) (G_21 : GH) => ((r_20 < r_22 → P56 v3 v5 (v5 + (1 : Int32)) G_21) ∧ (¬ r_20 < r_22 → P56 v3 v4 (v5 + (1 : Int32)) G_21))) v4 (12 : Int32) G_19) v5 (12 : Int32) G_15))))) v3 v5 G_12))) G
def lp_X8_refused_56 (post : Int32 → GH → Prop) (v3 v4 v5 : Int32) (G : GH) : Prop := ∀ P56 : Int32 → Int32 → Int32 → GH → Prop, (∀ (v3 v4 v5 : Int32) (G : GH), lb_X8_refused_56 post P56 v3 v4 v5 G → P56 v3 v4 v5 G) → P56 v3 v4 v5 G
def j_X8_refused_26 (post : Int32 → GH → Prop) (v1 v2 s1 : Int32) (G : GH) : Prop :=
  (∀ G_7 : GH, G_7 = gs G 24 0 (upd (G 24 0) 5 s1) → (((G_7 24 0 5) ≤ 0 → wp_X8_refusedOf (fun (r_10 : Int32) (G_9 : GH) => ((v2 = 0 → post r_10 G_9) ∧ (¬ v2 = 0 → lp_X8_refused_56 post r_10 (-1 : Int32) (0 : Int32) G_9))) v1 G_7) ∧ (¬ (G_7 24 0 5) ≤ 0 → post (0 : Int32) G_7)))
def wp_X8_refused (post : Int32 → GH → Prop) (x1 x2 : Int32) (G : GH) : Prop :=
  wp_X8_within (fun (b_2 : Bool) (G_1 : GH) => ((b_2 = false → j_X8_refused_26 post x1 x2 (1 : Int32) G_1) ∧ (b_2 = true → wp_X8_isDay (fun (b_5 : Bool) (G_4 : GH) => ((b_5 = false → j_X8_refused_26 post x1 x2 (2 : Int32) G_4) ∧ (b_5 = true → j_X8_refused_26 post x1 x2 (0 : Int32) G_4))) x1 G_1))) x2 (0 : Int32) (1 : Int32) G
set_option maxRecDepth 100000 in
set_option maxHeartbeats 4000000 in
theorem kl_X8_refused_56 {E : Ev} {X : Cx} {post : Int32 → GH → Prop} {v3 v4 v5 : Int32} {G : GH} (F : Fx E X "MarkFieldModel" cX8_refused 6) (T : RT E X 11 0 0 (some .int) (pI post)) (h : lp_X8_refused_56 post v3 v4 v5 G) : AW E X 6 56 [(0, .ref (sdX X 24 0)), (3, .int v3), (4, .int v4), (5, .int v5)] [] G 0 0 := by
  have hP := F.P
  have K56 : ∀ (v3 v4 v5 : Int32) (G : GH), AW E X 6 56 [(0, .ref (sdX X 24 0)), (3, .int v3), (4, .int v4), (5, .int v5)] [] G 0 0 → AW E X 6 56 [(0, .ref (sdX X 24 0)), (3, .int v3), (4, .int v4), (5, .int v5)] [] G 0 0 := fun _ _ _ _ q => q
  refine h (fun (v3 v4 v5 : Int32) (G : GH) => AW E X 6 56 [(0, .ref (sdX X 24 0)), (3, .int v3), (4, .int v4), (5, .int v5)] [] G 0 0) (fun (v3 v4 v5 : Int32) (G : GH) h => ?_)
  refine aw_il F 3 dX8_refused_56 rfl ?_
  refine aw_al_n F 0 dX8_refused_58 rfl rfl ?_
  refine aw_cVi (stk := [.int v5]) F T.room [] (k_X8_marks hP h) mv_X8_marks w_1305 cf8 (lo_s rfl) (hP _ rfl) rfl (by decide) rfl rfl (Nat.le_of_ble_eq_true rfl) ⟨(Nat.le_of_ble_eq_true rfl), (Nat.le_of_ble_eq_true rfl)⟩ ⟨(Nat.le_of_ble_eq_true rfl), (Nat.le_of_ble_eq_true rfl)⟩ dX8_refused_59 (fun r_13 G_12 h => ?_)
  refine aw_icmp_ge (tgt := 112) F dX8_refused_62 (by decide) (fun c_14 => ?_) (fun c_14 => ?_)
  · replace h := h.1 c_14
    refine aw_il F 2 dX8_refused_112 rfl ?_
    exact aw_iret F T (Nat.le_of_ble_eq_true rfl) (Nat.le_of_ble_eq_true rfl) ⟨_, rfl, h⟩ dX8_refused_114
  · replace h := h.2 c_14
    refine aw_il_n F 1 dX8_refused_65 rfl rfl ?_
    refine aw_il F 3 dX8_refused_66 rfl ?_
    refine aw_cSb (stk := []) F T.room [.int v3, .int v5] (k_X8_has hP h) ms_X8_has w_1385 rfl rfl (Nat.le_of_ble_eq_true rfl) ⟨(Nat.le_of_ble_eq_true rfl), (Nat.le_of_ble_eq_true rfl)⟩ ⟨(Nat.le_of_ble_eq_true rfl), (Nat.le_of_ble_eq_true rfl)⟩ dX8_refused_68 (fun b_16 G_15 h => ?_)
    refine aw_if_eq (tgt := 106) F dX8_refused_71 (by decide) (fun c_17 => ?_) (fun c_17 => ?_)
    · replace h := h.1 (bI_2 c_17)
      refine aw_inc (lv1 := [(5, .int (v5 + (1 : Int32))), (0, .ref (sdX X 24 0)), (3, .int v3), (4, .int v4)]) F 3 dX8_refused_106 rfl (in_1 _) (by decide) rfl ?_
      refine aw_go (tgt := 56) F dX8_refused_109 (by decide) ?_
      refine aw_sub [1, 2, 3, 0] rfl ?_
      exact K56 _ _ _ _ h
    · replace h := h.2 (bI_1 c_17)
      refine aw_il F 2 dX8_refused_74 rfl ?_
      refine aw_ic F dX8_refused_76 ic_m1 ?_
      refine aw_icmp_eq (tgt := 102) F dX8_refused_77 (by decide) (fun c_18 => ?_) (fun c_18 => ?_)
      · replace h := h.1 c_18
        refine aw_il F 3 dX8_refused_102 rfl ?_
        refine aw_is (lv1 := [(4, .int v5), (0, .ref (sdX X 24 0)), (3, .int v3), (5, .int v5)]) F dX8_refused_104 (by decide) rfl ?_
        refine aw_inc (lv1 := [(5, .int (v5 + (1 : Int32))), (4, .int v5), (0, .ref (sdX X 24 0)), (3, .int v3)]) F 3 dX8_refused_106 rfl (in_1 _) (by decide) rfl ?_
        refine aw_go (tgt := 56) F dX8_refused_109 (by decide) ?_
        refine aw_sub [2, 3, 1, 0] rfl ?_
        exact K56 _ _ _ _ h
      · replace h := h.2 c_18
        refine aw_al_n F 0 dX8_refused_80 rfl rfl ?_
        refine aw_il F 3 dX8_refused_81 rfl ?_
        refine aw_bi F dX8_refused_83 bi_12 ?_
        refine aw_cVi (stk := []) F T.room [.int v5, .int (12 : Int32)] (k_X8_of1 hP h) mv_X8_of1 w_1313 cf8 (lo_s rfl) (hP _ rfl) rfl (by decide) rfl rfl (Nat.le_of_ble_eq_true rfl) ⟨(Nat.le_of_ble_eq_true rfl), (Nat.le_of_ble_eq_true rfl)⟩ ⟨(Nat.le_of_ble_eq_true rfl), (Nat.le_of_ble_eq_true rfl)⟩ dX8_refused_85 (fun r_20 G_19 h => ?_)
        refine aw_al_n F 0 dX8_refused_88 rfl rfl ?_
        refine aw_il F 2 dX8_refused_89 rfl ?_
        refine aw_bi F dX8_refused_91 bi_12 ?_
        refine aw_cVi (stk := [.int r_20]) F T.room [.int v4, .int (12 : Int32)] (k_X8_of1 hP h) mv_X8_of1 w_1313 cf8 (lo_s rfl) (hP _ rfl) rfl (by decide) rfl rfl (Nat.le_of_ble_eq_true rfl) ⟨(Nat.le_of_ble_eq_true rfl), (Nat.le_of_ble_eq_true rfl)⟩ ⟨(Nat.le_of_ble_eq_true rfl), (Nat.le_of_ble_eq_true rfl)⟩ dX8_refused_93 (fun r_22 G_21 h => ?_)
        refine aw_icmp_lt (tgt := 102) F dX8_refused_96 (by decide) (fun c_23 => ?_) (fun c_23 => ?_)
        · replace h := h.1 c_23
          refine aw_il F 3 dX8_refused_102 rfl ?_
          refine aw_is (lv1 := [(4, .int v5), (0, .ref (sdX X 24 0)), (3, .int v3), (5, .int v5)]) F dX8_refused_104 (by decide) rfl ?_
          refine aw_inc (lv1 := [(5, .int (v5 + (1 : Int32))), (4, .int v5), (0, .ref (sdX X 24 0)), (3, .int v3)]) F 3 dX8_refused_106 rfl (in_1 _) (by decide) rfl ?_
          refine aw_go (tgt := 56) F dX8_refused_109 (by decide) ?_
          refine aw_sub [2, 3, 1, 0] rfl ?_
          exact K56 _ _ _ _ h
        · replace h := h.2 c_23
          refine aw_go (tgt := 106) F dX8_refused_99 (by decide) ?_
          refine aw_inc (lv1 := [(5, .int (v5 + (1 : Int32))), (0, .ref (sdX X 24 0)), (3, .int v3), (4, .int v4)]) F 3 dX8_refused_106 rfl (in_1 _) (by decide) rfl ?_
          refine aw_go (tgt := 56) F dX8_refused_109 (by decide) ?_
          refine aw_sub [1, 2, 3, 0] rfl ?_
          exact K56 _ _ _ _ h
set_option maxRecDepth 100000 in
set_option maxHeartbeats 4000000 in
theorem kj_X8_refused_26 {E : Ev} {X : Cx} {post : Int32 → GH → Prop} {v1 v2 s1 : Int32} {G : GH} (F : Fx E X "MarkFieldModel" cX8_refused 6) (T : RT E X 11 0 0 (some .int) (pI post)) (h : j_X8_refused_26 post v1 v2 s1 G) : AW E X 6 26 [(0, .ref (sdX X 24 0)), (1, .int v1), (2, .int v2)] [.int s1, .ref (sdX X 24 0)] G 0 0 := by
  have hP := F.P
  refine pf8_5 F (lo_s rfl) (hP _ rfl) rfl w_1165 dX8_refused_26 (fun G_7 eG_7 => ?_)
  replace h := h G_7 eG_7
  refine aw_al_n F 0 dX8_refused_29 rfl rfl ?_
  refine gf8_5 F (lo_s rfl) (hP _ rfl) rfl w_1165 dX8_refused_30 ?_
  refine aw_if_le (tgt := 38) F dX8_refused_33 (by decide) (fun c_8 => ?_) (fun c_8 => ?_)
  · replace h := h.1 c_8
    refine aw_al_n F 0 dX8_refused_38 rfl rfl ?_
    refine aw_il_n F 1 dX8_refused_39 rfl rfl ?_
    refine aw_cVi (stk := []) F T.room [.int v1] (k_X8_refusedOf hP h) mv_X8_refusedOf w_1512 cf8 (lo_s rfl) (hP _ rfl) rfl (by decide) rfl rfl (Nat.le_of_ble_eq_true rfl) ⟨(Nat.le_of_ble_eq_true rfl), (Nat.le_of_ble_eq_true rfl)⟩ ⟨(Nat.le_of_ble_eq_true rfl), (Nat.le_of_ble_eq_true rfl)⟩ dX8_refused_40 (fun r_10 G_9 h => ?_)
    refine aw_is_n (lv1 := [(3, .int r_10), (0, .ref (sdX X 24 0)), (1, .int v1), (2, .int v2)]) F dX8_refused_43 rfl (by decide) rfl ?_
    refine aw_il_n F 3 dX8_refused_44 rfl rfl ?_
    refine aw_if_ne (tgt := 50) F dX8_refused_45 (by decide) (fun c_11 => ?_) (fun c_11 => ?_)
    · replace h := h.2 c_11
      refine aw_ic F dX8_refused_50 ic_m1 ?_
      refine aw_is (lv1 := [(4, .int (-1 : Int32)), (3, .int r_10), (0, .ref (sdX X 24 0)), (1, .int v1), (2, .int v2)]) F dX8_refused_51 (by decide) rfl ?_
      refine aw_ic F dX8_refused_53 ic_0 ?_
      refine aw_is (lv1 := [(5, .int (0 : Int32)), (4, .int (-1 : Int32)), (3, .int r_10), (0, .ref (sdX X 24 0)), (1, .int v1), (2, .int v2)]) F dX8_refused_54 (by decide) rfl ?_
      refine aw_sub [3, 2, 1, 0] rfl ?_
      exact kl_X8_refused_56 F T h
    · replace h := h.1 c_11
      refine aw_il_n F 0 dX8_refused_48 rfl rfl ?_
      exact aw_iret F T (Nat.le_of_ble_eq_true rfl) (Nat.le_of_ble_eq_true rfl) ⟨_, rfl, h⟩ dX8_refused_49
  · replace h := h.2 c_8
    refine aw_ic F dX8_refused_36 ic_0 ?_
    exact aw_iret F T (Nat.le_of_ble_eq_true rfl) (Nat.le_of_ble_eq_true rfl) ⟨_, rfl, h⟩ dX8_refused_37
set_option maxRecDepth 100000 in
set_option maxHeartbeats 4000000 in
theorem k_X8_refused {l : Launch} {E : Ev} {P : Nat → Prop} {sd : Nat → Nat → Nat} {G : GH} {post : Int32 → GH → Prop} {x1 x2 : Int32} (hPP : ∀ o, stt o = true → P o) (h : wp_X8_refused post x1 x2 G) : Ct l yX8_refused cX8_refused 6 (some .int) 11 0 0 E P sd G [.ref (sd 24 0), .int x1, .int x2] (pI post) := by
  refine ct_of (own := "MarkFieldModel") (by decide) rfl (Nat.le_of_ble_eq_true rfl) hPP (fun X F T el eP es => ?_)
  subst el; subst eP; subst es
  have hP := F.P
  change AW E X 6 0 [(0, .ref (sdX X 24 0)), (1, .int x1), (2, .int x2)] [] G 0 0
  refine aw_al_n F 0 dX8_refused_0 rfl rfl ?_
  refine aw_il_n F 2 dX8_refused_1 rfl rfl ?_
  refine aw_ic F dX8_refused_2 ic_0 ?_
  refine aw_ic F dX8_refused_3 ic_1 ?_
  refine aw_cSb (stk := [.ref (sdX X 24 0)]) F T.room [.int x2, .int (0 : Int32), .int (1 : Int32)] (k_X8_within hP h) ms_X8_within w_1427 rfl rfl (Nat.le_of_ble_eq_true rfl) ⟨(Nat.le_of_ble_eq_true rfl), (Nat.le_of_ble_eq_true rfl)⟩ ⟨(Nat.le_of_ble_eq_true rfl), (Nat.le_of_ble_eq_true rfl)⟩ dX8_refused_4 (fun b_2 G_1 h => ?_)
  refine aw_if_ne (tgt := 14) F dX8_refused_7 (by decide) (fun c_3 => ?_) (fun c_3 => ?_)
  · replace h := h.2 (bI_1 c_3)
    refine aw_il_n F 1 dX8_refused_14 rfl rfl ?_
    refine aw_cSb (stk := [.ref (sdX X 24 0)]) F T.room [.int x1] (k_X8_isDay hP h) ms_X8_isDay w_1461 rfl rfl (Nat.le_of_ble_eq_true rfl) ⟨(Nat.le_of_ble_eq_true rfl), (Nat.le_of_ble_eq_true rfl)⟩ ⟨(Nat.le_of_ble_eq_true rfl), (Nat.le_of_ble_eq_true rfl)⟩ dX8_refused_15 (fun b_5 G_4 h => ?_)
    refine aw_if_ne (tgt := 25) F dX8_refused_18 (by decide) (fun c_6 => ?_) (fun c_6 => ?_)
    · replace h := h.2 (bI_1 c_6)
      refine aw_ic F dX8_refused_25 ic_0 ?_
      exact kj_X8_refused_26 F T h
    · replace h := h.1 (bI_2 c_6)
      refine aw_ic F dX8_refused_21 ic_2 ?_
      refine aw_go (tgt := 26) F dX8_refused_22 (by decide) ?_
      exact kj_X8_refused_26 F T h
  · replace h := h.1 (bI_2 c_3)
    refine aw_ic F dX8_refused_10 ic_1 ?_
    refine aw_go (tgt := 26) F dX8_refused_11 (by decide) ?_
    exact kj_X8_refused_26 F T h
-- X8_addTurn (height 2)
def wp_X8_addTurn (post : GH → Prop) (x1 : Int32) (G : GH) : Prop :=
  wp_X8_isDay (fun (b_2 : Bool) (G_1 : GH) => ((b_2 = false → post G_1) ∧ (b_2 = true → (vp_in (G_1 24 0 28) 325 ∧ (∀ G_4 : GH, G_4 = gs G_1 24 28 (upd (G_1 24 28) (G_1 24 0 28).toNatClampNeg x1) → (∀ G_5 : GH, G_5 = gs G_4 24 0 (upd (G_4 24 0) 28 ((G_4 24 0 28) + (1 : Int32))) → post G_5)))))) x1 G
set_option maxRecDepth 100000 in
set_option maxHeartbeats 4000000 in
theorem k_X8_addTurn {l : Launch} {E : Ev} {P : Nat → Prop} {sd : Nat → Nat → Nat} {G : GH} {post : GH → Prop} {x1 : Int32} (hPP : ∀ o, stt o = true → P o) (h : wp_X8_addTurn post x1 G) : Ct l yX8_addTurn cX8_addTurn 2 none 2 0 0 E P sd G [.ref (sd 24 0), .int x1] (pV post) := by
  refine ct_of (own := "MarkFieldModel") (by decide) rfl (Nat.le_of_ble_eq_true rfl) hPP (fun X F T el eP es => ?_)
  subst el; subst eP; subst es
  have hP := F.P
  change AW E X 2 0 [(0, .ref (sdX X 24 0)), (1, .int x1)] [] G 0 0
  refine aw_il_n F 1 dX8_addTurn_0 rfl rfl ?_
  refine aw_cSb (stk := []) F T.room [.int x1] (k_X8_isDay hP h) ms_X8_isDay w_1461 rfl rfl (Nat.le_of_ble_eq_true rfl) ⟨(Nat.le_of_ble_eq_true rfl), (Nat.le_of_ble_eq_true rfl)⟩ ⟨(Nat.le_of_ble_eq_true rfl), (Nat.le_of_ble_eq_true rfl)⟩ dX8_addTurn_1 (fun b_2 G_1 h => ?_)
  refine aw_if_ne (tgt := 8) F dX8_addTurn_4 (by decide) (fun c_3 => ?_) (fun c_3 => ?_)
  · replace h := h.2 (bI_1 c_3)
    refine aw_al_n F 0 dX8_addTurn_8 rfl rfl ?_
    refine gr8_27 F (lo_s rfl) (hP _ rfl) rfl w_1187 (hP _ rfl) dX8_addTurn_9 ?_
    refine aw_al_n F 0 dX8_addTurn_12 rfl rfl ?_
    refine gf8_28 F (lo_s rfl) (hP _ rfl) rfl w_1188 dX8_addTurn_13 ?_
    refine aw_il_n F 1 dX8_addTurn_16 rfl rfl ?_
    refine aw_iast F 24 28 (lo_s rfl) (hP _ rfl) rfl h.1 dX8_addTurn_17 ?_
    refine aw_nG (fun G_4 eG_4 => ?_)
    replace h := h.2 G_4 eG_4
    refine aw_al_n F 0 dX8_addTurn_18 rfl rfl ?_
    refine aw_dup F dX8_addTurn_19 rfl ?_
    refine gf8_28 F (lo_s rfl) (hP _ rfl) rfl w_1188 dX8_addTurn_20 ?_
    refine aw_ic F dX8_addTurn_23 ic_1 ?_
    refine aw_iadd F dX8_addTurn_24 ?_
    refine pf8_28 F (lo_s rfl) (hP _ rfl) rfl w_1188 dX8_addTurn_25 (fun G_5 eG_5 => ?_)
    replace h := h G_5 eG_5
    exact aw_vret F T (Nat.le_of_ble_eq_true rfl) (Nat.le_of_ble_eq_true rfl) ⟨rfl, h⟩ dX8_addTurn_28
  · replace h := h.1 (bI_2 c_3)
    exact aw_vret F T (Nat.le_of_ble_eq_true rfl) (Nat.le_of_ble_eq_true rfl) ⟨rfl, h⟩ dX8_addTurn_7
-- X8_layTurns (height 3)
def lb_X8_layTurns_28 (post : GH → Prop) (P7 : Int32 → GH → Prop) (P28 : Int32 → Int32 → GH → Prop) (v1 v2 : Int32) (G : GH) : Prop :=
  wp_X8_of1 (fun (r_10 : Int32) (G_9 : GH) => ((r_10 ≤ v2 → P7 (v1 + (1 : Int32)) G_9) ∧ (¬ r_10 ≤ v2 → wp_X8_of1 (fun (r_13 : Int32) (G_12 : GH) => wp_X8_addTurn (fun (G_14 : GH) => wp_X8_of1 (fun (r_17 : Int32) (G_16 : GH) => wp_X8_ruleOf (fun (r_19 : Int32) (G_18 : GH) => wp_X8_addTurn (fun (G_20 : GH) => P28 v1 (v2 + (1 : Int32)) G_20) ((r_17 + r_19) + (1 : Int32)) G_18) (4 : Int32) G_16) v1 (((14 : Int32) + ((3 : Int32) * v2)) + (2 : Int32)) G_14) r_13 G_12) v1 (((14 : Int32) + ((3 : Int32) * v2)) + (1 : Int32)) G_9))) v1 (13 : Int32) G
def lp_X8_layTurns_28 (post : GH → Prop) (P7 : Int32 → GH → Prop) (v1 v2 : Int32) (G : GH) : Prop := ∀ P28 : Int32 → Int32 → GH → Prop, (∀ (v1 v2 : Int32) (G : GH), lb_X8_layTurns_28 post P7 P28 v1 v2 G → P28 v1 v2 G) → P28 v1 v2 G
def lb_X8_layTurns_7 (post : GH → Prop) (P7 : Int32 → GH → Prop) (v1 : Int32) (G : GH) : Prop :=
  wp_X8_marks (fun (r_3 : Int32) (G_2 : GH) => ((r_3 ≤ v1 → post G_2) ∧ (¬ r_3 ≤ v1 → wp_X8_of1 (fun (r_6 : Int32) (G_5 : GH) => wp_X8_addTurn (fun (G_7 : GH) => lp_X8_layTurns_28 post P7 v1 (0 : Int32) G_7) r_6 G_5) v1 (12 : Int32) G_2))) G
def lp_X8_layTurns_7 (post : GH → Prop) (v1 : Int32) (G : GH) : Prop := ∀ P7 : Int32 → GH → Prop, (∀ (v1 : Int32) (G : GH), lb_X8_layTurns_7 post P7 v1 G → P7 v1 G) → P7 v1 G
def wp_X8_layTurns (post : GH → Prop) (G : GH) : Prop :=
  (∀ G_1 : GH, G_1 = gs G 24 0 (upd (G 24 0) 28 (0 : Int32)) → lp_X8_layTurns_7 post (0 : Int32) G_1)
set_option maxRecDepth 100000 in
set_option maxHeartbeats 4000000 in
theorem kl_X8_layTurns_28 {E : Ev} {X : Cx} {post : GH → Prop} {P7 : Int32 → GH → Prop} {v1 v2 : Int32} {G : GH} (F : Fx E X "MarkFieldModel" cX8_layTurns 3) (T : RT E X 3 0 0 none (pV post)) (K7 : ∀ (v1 : Int32) (G : GH), P7 v1 G → AW E X 3 7 [(0, .ref (sdX X 24 0)), (1, .int v1)] [] G 0 0) (h : lp_X8_layTurns_28 post P7 v1 v2 G) : AW E X 3 28 [(0, .ref (sdX X 24 0)), (1, .int v1), (2, .int v2)] [] G 0 0 := by
  have hP := F.P
  have K28 : ∀ (v1 v2 : Int32) (G : GH), AW E X 3 28 [(0, .ref (sdX X 24 0)), (1, .int v1), (2, .int v2)] [] G 0 0 → AW E X 3 28 [(0, .ref (sdX X 24 0)), (1, .int v1), (2, .int v2)] [] G 0 0 := fun _ _ _ q => q
  refine h (fun (v1 v2 : Int32) (G : GH) => AW E X 3 28 [(0, .ref (sdX X 24 0)), (1, .int v1), (2, .int v2)] [] G 0 0) (fun (v1 v2 : Int32) (G : GH) h => ?_)
  refine aw_il_n F 2 dX8_layTurns_28 rfl rfl ?_
  refine aw_al_n F 0 dX8_layTurns_29 rfl rfl ?_
  refine aw_il_n F 1 dX8_layTurns_30 rfl rfl ?_
  refine aw_bi F dX8_layTurns_31 bi_13 ?_
  refine aw_cVi (stk := [.int v2]) F T.room [.int v1, .int (13 : Int32)] (k_X8_of1 hP h) mv_X8_of1 w_1313 cf8 (lo_s rfl) (hP _ rfl) rfl (by decide) rfl rfl (Nat.le_of_ble_eq_true rfl) ⟨(Nat.le_of_ble_eq_true rfl), (Nat.le_of_ble_eq_true rfl)⟩ ⟨(Nat.le_of_ble_eq_true rfl), (Nat.le_of_ble_eq_true rfl)⟩ dX8_layTurns_33 (fun r_10 G_9 h => ?_)
  refine aw_icmp_ge (tgt := 87) F dX8_layTurns_36 (by decide) (fun c_11 => ?_) (fun c_11 => ?_)
  · replace h := h.1 c_11
    refine aw_inc (lv1 := [(1, .int (v1 + (1 : Int32))), (0, .ref (sdX X 24 0)), (2, .int v2)]) F 1 dX8_layTurns_87 rfl (in_1 _) (by decide) rfl ?_
    refine aw_go (tgt := 7) F dX8_layTurns_90 (by decide) ?_
    refine aw_sub [1, 0] rfl ?_
    exact K7 _ _ h
  · replace h := h.2 c_11
    refine aw_al_n F 0 dX8_layTurns_39 rfl rfl ?_
    refine aw_al_n F 0 dX8_layTurns_40 rfl rfl ?_
    refine aw_il_n F 1 dX8_layTurns_41 rfl rfl ?_
    refine aw_bi F dX8_layTurns_42 bi_14 ?_
    refine aw_ic F dX8_layTurns_44 ic_3 ?_
    refine aw_il_n F 2 dX8_layTurns_45 rfl rfl ?_
    refine aw_imul F dX8_layTurns_46 ?_
    refine aw_iadd F dX8_layTurns_47 ?_
    refine aw_ic F dX8_layTurns_48 ic_1 ?_
    refine aw_iadd F dX8_layTurns_49 ?_
    refine aw_cVi (stk := [.ref (sdX X 24 0)]) F T.room [.int v1, .int (((14 : Int32) + ((3 : Int32) * v2)) + (1 : Int32))] (k_X8_of1 hP h) mv_X8_of1 w_1313 cf8 (lo_s rfl) (hP _ rfl) rfl (by decide) rfl rfl (Nat.le_of_ble_eq_true rfl) ⟨(Nat.le_of_ble_eq_true rfl), (Nat.le_of_ble_eq_true rfl)⟩ ⟨(Nat.le_of_ble_eq_true rfl), (Nat.le_of_ble_eq_true rfl)⟩ dX8_layTurns_50 (fun r_13 G_12 h => ?_)
    refine aw_cVv (stk := []) F T.room [.int r_13] (k_X8_addTurn hP h) mv_X8_addTurn w_1524 cf8 (lo_s rfl) (hP _ rfl) rfl (by decide) rfl rfl (Nat.le_of_ble_eq_true rfl) ⟨(Nat.le_of_ble_eq_true rfl), (Nat.le_of_ble_eq_true rfl)⟩ ⟨(Nat.le_of_ble_eq_true rfl), (Nat.le_of_ble_eq_true rfl)⟩ dX8_layTurns_53 (fun G_14 h => ?_)
    refine aw_al_n F 0 dX8_layTurns_56 rfl rfl ?_
    refine aw_al_n F 0 dX8_layTurns_57 rfl rfl ?_
    refine aw_il_n F 1 dX8_layTurns_58 rfl rfl ?_
    refine aw_bi F dX8_layTurns_59 bi_14 ?_
    refine aw_ic F dX8_layTurns_61 ic_3 ?_
    refine aw_il_n F 2 dX8_layTurns_62 rfl rfl ?_
    refine aw_imul F dX8_layTurns_63 ?_
    refine aw_iadd F dX8_layTurns_64 ?_
    refine aw_ic F dX8_layTurns_65 ic_2 ?_
    refine aw_iadd F dX8_layTurns_66 ?_
    refine aw_cVi (stk := [.ref (sdX X 24 0)]) F T.room [.int v1, .int (((14 : Int32) + ((3 : Int32) * v2)) + (2 : Int32))] (k_X8_of1 hP h) mv_X8_of1 w_1313 cf8 (lo_s rfl) (hP _ rfl) rfl (by decide) rfl rfl (Nat.le_of_ble_eq_true rfl) ⟨(Nat.le_of_ble_eq_true rfl), (Nat.le_of_ble_eq_true rfl)⟩ ⟨(Nat.le_of_ble_eq_true rfl), (Nat.le_of_ble_eq_true rfl)⟩ dX8_layTurns_67 (fun r_17 G_16 h => ?_)
    refine aw_al_n F 0 dX8_layTurns_70 rfl rfl ?_
    refine aw_ic F dX8_layTurns_71 ic_4 ?_
    refine aw_cVi (stk := [.int r_17, .ref (sdX X 24 0)]) F T.room [.int (4 : Int32)] (k_X8_ruleOf hP h) mv_X8_ruleOf w_1373 cf8 (lo_s rfl) (hP _ rfl) rfl (by decide) rfl rfl (Nat.le_of_ble_eq_true rfl) ⟨(Nat.le_of_ble_eq_true rfl), (Nat.le_of_ble_eq_true rfl)⟩ ⟨(Nat.le_of_ble_eq_true rfl), (Nat.le_of_ble_eq_true rfl)⟩ dX8_layTurns_72 (fun r_19 G_18 h => ?_)
    refine aw_iadd F dX8_layTurns_75 ?_
    refine aw_ic F dX8_layTurns_76 ic_1 ?_
    refine aw_iadd F dX8_layTurns_77 ?_
    refine aw_cVv (stk := []) F T.room [.int ((r_17 + r_19) + (1 : Int32))] (k_X8_addTurn hP h) mv_X8_addTurn w_1524 cf8 (lo_s rfl) (hP _ rfl) rfl (by decide) rfl rfl (Nat.le_of_ble_eq_true rfl) ⟨(Nat.le_of_ble_eq_true rfl), (Nat.le_of_ble_eq_true rfl)⟩ ⟨(Nat.le_of_ble_eq_true rfl), (Nat.le_of_ble_eq_true rfl)⟩ dX8_layTurns_78 (fun G_20 h => ?_)
    refine aw_inc (lv1 := [(2, .int (v2 + (1 : Int32))), (0, .ref (sdX X 24 0)), (1, .int v1)]) F 2 dX8_layTurns_81 rfl (in_1 _) (by decide) rfl ?_
    refine aw_go (tgt := 28) F dX8_layTurns_84 (by decide) ?_
    refine aw_sub [1, 2, 0] rfl ?_
    exact K28 _ _ _ h
set_option maxRecDepth 100000 in
set_option maxHeartbeats 4000000 in
theorem kl_X8_layTurns_7 {E : Ev} {X : Cx} {post : GH → Prop} {v1 : Int32} {G : GH} (F : Fx E X "MarkFieldModel" cX8_layTurns 3) (T : RT E X 3 0 0 none (pV post)) (h : lp_X8_layTurns_7 post v1 G) : AW E X 3 7 [(0, .ref (sdX X 24 0)), (1, .int v1)] [] G 0 0 := by
  have hP := F.P
  have K7 : ∀ (v1 : Int32) (G : GH), AW E X 3 7 [(0, .ref (sdX X 24 0)), (1, .int v1)] [] G 0 0 → AW E X 3 7 [(0, .ref (sdX X 24 0)), (1, .int v1)] [] G 0 0 := fun _ _ q => q
  refine h (fun (v1 : Int32) (G : GH) => AW E X 3 7 [(0, .ref (sdX X 24 0)), (1, .int v1)] [] G 0 0) (fun (v1 : Int32) (G : GH) h => ?_)
  refine aw_il_n F 1 dX8_layTurns_7 rfl rfl ?_
  refine aw_al_n F 0 dX8_layTurns_8 rfl rfl ?_
  refine aw_cVi (stk := [.int v1]) F T.room [] (k_X8_marks hP h) mv_X8_marks w_1305 cf8 (lo_s rfl) (hP _ rfl) rfl (by decide) rfl rfl (Nat.le_of_ble_eq_true rfl) ⟨(Nat.le_of_ble_eq_true rfl), (Nat.le_of_ble_eq_true rfl)⟩ ⟨(Nat.le_of_ble_eq_true rfl), (Nat.le_of_ble_eq_true rfl)⟩ dX8_layTurns_9 (fun r_3 G_2 h => ?_)
  refine aw_icmp_ge (tgt := 93) F dX8_layTurns_12 (by decide) (fun c_4 => ?_) (fun c_4 => ?_)
  · replace h := h.1 c_4
    exact aw_vret F T (Nat.le_of_ble_eq_true rfl) (Nat.le_of_ble_eq_true rfl) ⟨rfl, h⟩ dX8_layTurns_93
  · replace h := h.2 c_4
    refine aw_al_n F 0 dX8_layTurns_15 rfl rfl ?_
    refine aw_al_n F 0 dX8_layTurns_16 rfl rfl ?_
    refine aw_il_n F 1 dX8_layTurns_17 rfl rfl ?_
    refine aw_bi F dX8_layTurns_18 bi_12 ?_
    refine aw_cVi (stk := [.ref (sdX X 24 0)]) F T.room [.int v1, .int (12 : Int32)] (k_X8_of1 hP h) mv_X8_of1 w_1313 cf8 (lo_s rfl) (hP _ rfl) rfl (by decide) rfl rfl (Nat.le_of_ble_eq_true rfl) ⟨(Nat.le_of_ble_eq_true rfl), (Nat.le_of_ble_eq_true rfl)⟩ ⟨(Nat.le_of_ble_eq_true rfl), (Nat.le_of_ble_eq_true rfl)⟩ dX8_layTurns_20 (fun r_6 G_5 h => ?_)
    refine aw_cVv (stk := []) F T.room [.int r_6] (k_X8_addTurn hP h) mv_X8_addTurn w_1524 cf8 (lo_s rfl) (hP _ rfl) rfl (by decide) rfl rfl (Nat.le_of_ble_eq_true rfl) ⟨(Nat.le_of_ble_eq_true rfl), (Nat.le_of_ble_eq_true rfl)⟩ ⟨(Nat.le_of_ble_eq_true rfl), (Nat.le_of_ble_eq_true rfl)⟩ dX8_layTurns_23 (fun G_7 h => ?_)
    refine aw_ic F dX8_layTurns_26 ic_0 ?_
    refine aw_is_n (lv1 := [(2, .int (0 : Int32)), (0, .ref (sdX X 24 0)), (1, .int v1)]) F dX8_layTurns_27 rfl (by decide) rfl ?_
    refine aw_sub [1, 2, 0] rfl ?_
    exact kl_X8_layTurns_28 F T K7 h
set_option maxRecDepth 100000 in
set_option maxHeartbeats 4000000 in
theorem k_X8_layTurns {l : Launch} {E : Ev} {P : Nat → Prop} {sd : Nat → Nat → Nat} {G : GH} {post : GH → Prop} (hPP : ∀ o, stt o = true → P o) (h : wp_X8_layTurns post G) : Ct l yX8_layTurns cX8_layTurns 3 none 3 0 0 E P sd G [.ref (sd 24 0)] (pV post) := by
  refine ct_of (own := "MarkFieldModel") (by decide) rfl (Nat.le_of_ble_eq_true rfl) hPP (fun X F T el eP es => ?_)
  subst el; subst eP; subst es
  have hP := F.P
  change AW E X 3 0 [(0, .ref (sdX X 24 0))] [] G 0 0
  refine aw_al_n F 0 dX8_layTurns_0 rfl rfl ?_
  refine aw_ic F dX8_layTurns_1 ic_0 ?_
  refine pf8_28 F (lo_s rfl) (hP _ rfl) rfl w_1188 dX8_layTurns_2 (fun G_1 eG_1 => ?_)
  replace h := h G_1 eG_1
  refine aw_ic F dX8_layTurns_5 ic_0 ?_
  refine aw_is_n (lv1 := [(1, .int (0 : Int32)), (0, .ref (sdX X 24 0))]) F dX8_layTurns_6 rfl (by decide) rfl ?_
  refine aw_sub [1, 0] rfl ?_
  exact kl_X8_layTurns_7 F T h
-- X8_firstDay (height 10)
def j_X8_firstDay_21 (post : Int32 → GH → Prop) (G : GH) : Prop :=
  wp_X8_fail (fun (r_6 : Int32) (G_5 : GH) => post r_6 G_5) (1 : Int32) G
def j_X8_firstDay_64 (post : Int32 → GH → Prop) (P36 : Int32 → Int32 → Int32 → Int32 → GH → Prop) (v1 v2 v3 v4 : Int32) (G : GH) : Prop :=
  (vp_in v4 325 ∧ wp_X8_holdersOf (fun (r_15 : Int32) (G_14 : GH) => wp_X8_has (fun (b_17 : Bool) (G_16 : GH) => ((b_17 = false → P36 v1 v2 v3 (v4 + (1 : Int32)) G_16) ∧ (b_17 = true → (vp_in v4 325 ∧ (∀ y_19 : Int32, y_19 = (G_16 24 28 v4.toNatClampNeg) → P36 v1 v2 y_19 (v4 + (1 : Int32)) G_16))))) r_15 v1 G_14) v2 (G 24 28 v4.toNatClampNeg) G)
def lb_X8_firstDay_36 (post : Int32 → GH → Prop) (P36 : Int32 → Int32 → Int32 → Int32 → GH → Prop) (v1 v2 v3 v4 : Int32) (G : GH) : Prop :=
  (((G 24 0 28) ≤ v4 → post v3 G) ∧ (¬ (G 24 0 28) ≤ v4 → ((v3 = (-1 : Int32) → j_X8_firstDay_64 post P36 v1 v2 v3 v4 G) ∧ (¬ v3 = (-1 : Int32) → (vp_in v4 325 ∧ (((G 24 28 v4.toNatClampNeg) < v3 → j_X8_firstDay_64 post P36 v1 v2 v3 v4 G) ∧ (¬ (G 24 28 v4.toNatClampNeg) < v3 → P36 v1 v2 v3 (v4 + (1 : Int32)) G)))))))
def lp_X8_firstDay_36 (post : Int32 → GH → Prop) (v1 v2 v3 v4 : Int32) (G : GH) : Prop := ∀ P36 : Int32 → Int32 → Int32 → Int32 → GH → Prop, (∀ (v1 v2 v3 v4 : Int32) (G : GH), lb_X8_firstDay_36 post P36 v1 v2 v3 v4 G → P36 v1 v2 v3 v4 G) → P36 v1 v2 v3 v4 G
def wp_X8_firstDay (post : Int32 → GH → Prop) (x1 x2 : Int32) (G : GH) : Prop :=
  (∀ G_1 : GH, G_1 = gs G 24 0 (upd (G 24 0) 5 (0 : Int32)) → wp_X8_isMark (fun (b_3 : Bool) (G_2 : GH) => ((b_3 = false → j_X8_firstDay_21 post G_2) ∧ (b_3 = true → wp_X8_isHalf (fun (b_8 : Bool) (G_7 : GH) => ((b_8 = false → j_X8_firstDay_21 post G_7) ∧ (b_8 = true → wp_X8_layTurns (fun (G_10 : GH) => lp_X8_firstDay_36 post x1 x2 (-1 : Int32) (0 : Int32) G_10) G_7))) x2 G_2))) x1 G_1)
set_option maxRecDepth 100000 in
set_option maxHeartbeats 4000000 in
theorem kj_X8_firstDay_21 {E : Ev} {X : Cx} {post : Int32 → GH → Prop} {G : GH} (F : Fx E X "MarkFieldModel" cX8_firstDay 5) (T : RT E X 10 0 0 (some .int) (pI post)) (h : j_X8_firstDay_21 post G) : AW E X 5 21 [(0, .ref (sdX X 24 0))] [] G 0 0 := by
  have hP := F.P
  refine aw_al_n F 0 dX8_firstDay_21 rfl rfl ?_
  refine aw_ic F dX8_firstDay_22 ic_1 ?_
  refine aw_cVi (stk := []) F T.room [.int (1 : Int32)] (k_X8_fail hP h) mv_X8_fail w_1415 cf8 (lo_s rfl) (hP _ rfl) rfl (by decide) rfl rfl (Nat.le_of_ble_eq_true rfl) ⟨(Nat.le_of_ble_eq_true rfl), (Nat.le_of_ble_eq_true rfl)⟩ ⟨(Nat.le_of_ble_eq_true rfl), (Nat.le_of_ble_eq_true rfl)⟩ dX8_firstDay_23 (fun r_6 G_5 h => ?_)
  exact aw_iret F T (Nat.le_of_ble_eq_true rfl) (Nat.le_of_ble_eq_true rfl) ⟨_, rfl, h⟩ dX8_firstDay_26
set_option maxRecDepth 100000 in
set_option maxHeartbeats 4000000 in
theorem kj_X8_firstDay_64 {E : Ev} {X : Cx} {post : Int32 → GH → Prop} {P36 : Int32 → Int32 → Int32 → Int32 → GH → Prop} {v1 v2 v3 v4 : Int32} {G : GH} (F : Fx E X "MarkFieldModel" cX8_firstDay 5) (T : RT E X 10 0 0 (some .int) (pI post)) (K36 : ∀ (v1 v2 v3 v4 : Int32) (G : GH), P36 v1 v2 v3 v4 G → AW E X 5 36 [(0, .ref (sdX X 24 0)), (1, .int v1), (2, .int v2), (3, .int v3), (4, .int v4)] [] G 0 0) (h : j_X8_firstDay_64 post P36 v1 v2 v3 v4 G) : AW E X 5 64 [(0, .ref (sdX X 24 0)), (1, .int v1), (2, .int v2), (3, .int v3), (4, .int v4)] [] G 0 0 := by
  have hP := F.P
  refine aw_al_n F 0 dX8_firstDay_64 rfl rfl ?_
  refine aw_il_n F 2 dX8_firstDay_65 rfl rfl ?_
  refine aw_al_n F 0 dX8_firstDay_66 rfl rfl ?_
  refine gr8_27 F (lo_s rfl) (hP _ rfl) rfl w_1187 (hP _ rfl) dX8_firstDay_67 ?_
  refine aw_il F 4 dX8_firstDay_70 rfl ?_
  refine aw_iald F 24 28 (lo_s rfl) (hP _ rfl) rfl h.1 dX8_firstDay_72 ?_
  replace h := h.2
  refine aw_cVi (stk := []) F T.room [.int v2, .int (G 24 28 v4.toNatClampNeg)] (k_X8_holdersOf hP h) mv_X8_holdersOf w_1504 cf8 (lo_s rfl) (hP _ rfl) rfl (by decide) rfl rfl (Nat.le_of_ble_eq_true rfl) ⟨(Nat.le_of_ble_eq_true rfl), (Nat.le_of_ble_eq_true rfl)⟩ ⟨(Nat.le_of_ble_eq_true rfl), (Nat.le_of_ble_eq_true rfl)⟩ dX8_firstDay_73 (fun r_15 G_14 h => ?_)
  refine aw_il_n F 1 dX8_firstDay_76 rfl rfl ?_
  refine aw_cSb (stk := []) F T.room [.int r_15, .int v1] (k_X8_has hP h) ms_X8_has w_1385 rfl rfl (Nat.le_of_ble_eq_true rfl) ⟨(Nat.le_of_ble_eq_true rfl), (Nat.le_of_ble_eq_true rfl)⟩ ⟨(Nat.le_of_ble_eq_true rfl), (Nat.le_of_ble_eq_true rfl)⟩ dX8_firstDay_77 (fun b_17 G_16 h => ?_)
  refine aw_if_eq (tgt := 91) F dX8_firstDay_80 (by decide) (fun c_18 => ?_) (fun c_18 => ?_)
  · replace h := h.1 (bI_2 c_18)
    refine aw_inc (lv1 := [(4, .int (v4 + (1 : Int32))), (0, .ref (sdX X 24 0)), (1, .int v1), (2, .int v2), (3, .int v3)]) F 4 dX8_firstDay_91 rfl (in_1 _) (by decide) rfl ?_
    refine aw_go (tgt := 36) F dX8_firstDay_94 (by decide) ?_
    refine aw_sub [1, 2, 3, 4, 0] rfl ?_
    exact K36 _ _ _ _ _ h
  · replace h := h.2 (bI_1 c_18)
    refine aw_al_n F 0 dX8_firstDay_83 rfl rfl ?_
    refine gr8_27 F (lo_s rfl) (hP _ rfl) rfl w_1187 (hP _ rfl) dX8_firstDay_84 ?_
    refine aw_il F 4 dX8_firstDay_87 rfl ?_
    refine aw_iald F 24 28 (lo_s rfl) (hP _ rfl) rfl h.1 dX8_firstDay_89 ?_
    replace h := h.2
    refine aw_top (fun y_19 ey_19 => ?_)
    replace h := h y_19 ey_19
    refine aw_is_n (lv1 := [(3, .int y_19), (0, .ref (sdX X 24 0)), (1, .int v1), (2, .int v2), (4, .int v4)]) F dX8_firstDay_90 rfl (by decide) rfl ?_
    refine aw_inc (lv1 := [(4, .int (v4 + (1 : Int32))), (3, .int y_19), (0, .ref (sdX X 24 0)), (1, .int v1), (2, .int v2)]) F 4 dX8_firstDay_91 rfl (in_1 _) (by decide) rfl ?_
    refine aw_go (tgt := 36) F dX8_firstDay_94 (by decide) ?_
    refine aw_sub [2, 3, 4, 1, 0] rfl ?_
    exact K36 _ _ _ _ _ h
set_option maxRecDepth 100000 in
set_option maxHeartbeats 4000000 in
theorem kl_X8_firstDay_36 {E : Ev} {X : Cx} {post : Int32 → GH → Prop} {v1 v2 v3 v4 : Int32} {G : GH} (F : Fx E X "MarkFieldModel" cX8_firstDay 5) (T : RT E X 10 0 0 (some .int) (pI post)) (h : lp_X8_firstDay_36 post v1 v2 v3 v4 G) : AW E X 5 36 [(0, .ref (sdX X 24 0)), (1, .int v1), (2, .int v2), (3, .int v3), (4, .int v4)] [] G 0 0 := by
  have hP := F.P
  have K36 : ∀ (v1 v2 v3 v4 : Int32) (G : GH), AW E X 5 36 [(0, .ref (sdX X 24 0)), (1, .int v1), (2, .int v2), (3, .int v3), (4, .int v4)] [] G 0 0 → AW E X 5 36 [(0, .ref (sdX X 24 0)), (1, .int v1), (2, .int v2), (3, .int v3), (4, .int v4)] [] G 0 0 := fun _ _ _ _ _ q => q
  refine h (fun (v1 v2 v3 v4 : Int32) (G : GH) => AW E X 5 36 [(0, .ref (sdX X 24 0)), (1, .int v1), (2, .int v2), (3, .int v3), (4, .int v4)] [] G 0 0) (fun (v1 v2 v3 v4 : Int32) (G : GH) h => ?_)
  refine aw_il F 4 dX8_firstDay_36 rfl ?_
  refine aw_al_n F 0 dX8_firstDay_38 rfl rfl ?_
  refine gf8_28 F (lo_s rfl) (hP _ rfl) rfl w_1188 dX8_firstDay_39 ?_
  refine aw_icmp_ge (tgt := 97) F dX8_firstDay_42 (by decide) (fun c_12 => ?_) (fun c_12 => ?_)
  · replace h := h.1 c_12
    refine aw_il_n F 3 dX8_firstDay_97 rfl rfl ?_
    exact aw_iret F T (Nat.le_of_ble_eq_true rfl) (Nat.le_of_ble_eq_true rfl) ⟨_, rfl, h⟩ dX8_firstDay_98
  · replace h := h.2 c_12
    refine aw_il_n F 3 dX8_firstDay_45 rfl rfl ?_
    refine aw_ic F dX8_firstDay_46 ic_m1 ?_
    refine aw_icmp_eq (tgt := 64) F dX8_firstDay_47 (by decide) (fun c_13 => ?_) (fun c_13 => ?_)
    · replace h := h.1 c_13
      exact kj_X8_firstDay_64 F T K36 h
    · replace h := h.2 c_13
      refine aw_al_n F 0 dX8_firstDay_50 rfl rfl ?_
      refine gr8_27 F (lo_s rfl) (hP _ rfl) rfl w_1187 (hP _ rfl) dX8_firstDay_51 ?_
      refine aw_il F 4 dX8_firstDay_54 rfl ?_
      refine aw_iald F 24 28 (lo_s rfl) (hP _ rfl) rfl h.1 dX8_firstDay_56 ?_
      replace h := h.2
      refine aw_il_n F 3 dX8_firstDay_57 rfl rfl ?_
      refine aw_icmp_lt (tgt := 64) F dX8_firstDay_58 (by decide) (fun c_20 => ?_) (fun c_20 => ?_)
      · replace h := h.1 c_20
        exact kj_X8_firstDay_64 F T K36 h
      · replace h := h.2 c_20
        refine aw_go (tgt := 91) F dX8_firstDay_61 (by decide) ?_
        refine aw_inc (lv1 := [(4, .int (v4 + (1 : Int32))), (0, .ref (sdX X 24 0)), (1, .int v1), (2, .int v2), (3, .int v3)]) F 4 dX8_firstDay_91 rfl (in_1 _) (by decide) rfl ?_
        refine aw_go (tgt := 36) F dX8_firstDay_94 (by decide) ?_
        refine aw_sub [1, 2, 3, 4, 0] rfl ?_
        exact K36 _ _ _ _ _ h
set_option maxRecDepth 100000 in
set_option maxHeartbeats 4000000 in
theorem k_X8_firstDay {l : Launch} {E : Ev} {P : Nat → Prop} {sd : Nat → Nat → Nat} {G : GH} {post : Int32 → GH → Prop} {x1 x2 : Int32} (hPP : ∀ o, stt o = true → P o) (h : wp_X8_firstDay post x1 x2 G) : Ct l yX8_firstDay cX8_firstDay 5 (some .int) 10 0 0 E P sd G [.ref (sd 24 0), .int x1, .int x2] (pI post) := by
  refine ct_of (own := "MarkFieldModel") (by decide) rfl (Nat.le_of_ble_eq_true rfl) hPP (fun X F T el eP es => ?_)
  subst el; subst eP; subst es
  have hP := F.P
  change AW E X 5 0 [(0, .ref (sdX X 24 0)), (1, .int x1), (2, .int x2)] [] G 0 0
  refine aw_al_n F 0 dX8_firstDay_0 rfl rfl ?_
  refine aw_ic F dX8_firstDay_1 ic_0 ?_
  refine pf8_5 F (lo_s rfl) (hP _ rfl) rfl w_1165 dX8_firstDay_2 (fun G_1 eG_1 => ?_)
  replace h := h G_1 eG_1
  refine aw_al_n F 0 dX8_firstDay_5 rfl rfl ?_
  refine aw_il_n F 1 dX8_firstDay_6 rfl rfl ?_
  refine aw_cVb (stk := []) F T.room [.int x1] (k_X8_isMark hP h) mv_X8_isMark w_1423 cf8 (lo_s rfl) (hP _ rfl) rfl (by decide) rfl rfl (Nat.le_of_ble_eq_true rfl) ⟨(Nat.le_of_ble_eq_true rfl), (Nat.le_of_ble_eq_true rfl)⟩ ⟨(Nat.le_of_ble_eq_true rfl), (Nat.le_of_ble_eq_true rfl)⟩ dX8_firstDay_7 (fun b_3 G_2 h => ?_)
  refine aw_if_eq (tgt := 21) F dX8_firstDay_10 (by decide) (fun c_4 => ?_) (fun c_4 => ?_)
  · replace h := h.1 (bI_2 c_4)
    refine aw_sub [0] rfl ?_
    exact kj_X8_firstDay_21 F T h
  · replace h := h.2 (bI_1 c_4)
    refine aw_al_n F 0 dX8_firstDay_13 rfl rfl ?_
    refine aw_il_n F 2 dX8_firstDay_14 rfl rfl ?_
    refine aw_cVb (stk := []) F T.room [.int x2] (k_X8_isHalf hP h) mv_X8_isHalf w_1457 cf8 (lo_s rfl) (hP _ rfl) rfl (by decide) rfl rfl (Nat.le_of_ble_eq_true rfl) ⟨(Nat.le_of_ble_eq_true rfl), (Nat.le_of_ble_eq_true rfl)⟩ ⟨(Nat.le_of_ble_eq_true rfl), (Nat.le_of_ble_eq_true rfl)⟩ dX8_firstDay_15 (fun b_8 G_7 h => ?_)
    refine aw_if_ne (tgt := 27) F dX8_firstDay_18 (by decide) (fun c_9 => ?_) (fun c_9 => ?_)
    · replace h := h.2 (bI_1 c_9)
      refine aw_al_n F 0 dX8_firstDay_27 rfl rfl ?_
      refine aw_cVv (stk := []) F T.room [] (k_X8_layTurns hP h) mv_X8_layTurns w_1520 cf8 (lo_s rfl) (hP _ rfl) rfl (by decide) rfl rfl (Nat.le_of_ble_eq_true rfl) ⟨(Nat.le_of_ble_eq_true rfl), (Nat.le_of_ble_eq_true rfl)⟩ ⟨(Nat.le_of_ble_eq_true rfl), (Nat.le_of_ble_eq_true rfl)⟩ dX8_firstDay_28 (fun G_10 h => ?_)
      refine aw_ic F dX8_firstDay_31 ic_m1 ?_
      refine aw_is_n (lv1 := [(3, .int (-1 : Int32)), (0, .ref (sdX X 24 0)), (1, .int x1), (2, .int x2)]) F dX8_firstDay_32 rfl (by decide) rfl ?_
      refine aw_ic F dX8_firstDay_33 ic_0 ?_
      refine aw_is (lv1 := [(4, .int (0 : Int32)), (3, .int (-1 : Int32)), (0, .ref (sdX X 24 0)), (1, .int x1), (2, .int x2)]) F dX8_firstDay_34 (by decide) rfl ?_
      refine aw_sub [2, 3, 4, 1, 0] rfl ?_
      exact kl_X8_firstDay_36 F T h
    · replace h := h.1 (bI_2 c_9)
      refine aw_sub [0] rfl ?_
      exact kj_X8_firstDay_21 F T h
-- X8_group (height 8)
def lb_X8_group_39 (post : Int32 → GH → Prop) (P29 : Int32 → Int32 → GH → Prop) (P39 : Int32 → Int32 → Int32 → GH → Prop) (v2 v3 v4 : Int32) (G : GH) : Prop :=
  wp_X8_marks (fun (r_10 : Int32) (G_9 : GH) => ((r_10 ≤ v4 → P29 v2 v3 G_9) ∧ (¬ r_10 ≤ v4 → wp_X8_has (fun (b_13 : Bool) (G_12 : GH) => ((b_13 = false → P39 v2 v3 (v4 + (1 : Int32)) G_12) ∧ (b_13 = true → (vp_in v4 13 ∧ (∀ y_15 : Int32, y_15 = (v2 ||| (G_12 24 20 v4.toNatClampNeg)) → P39 y_15 v3 (v4 + (1 : Int32)) G_12))))) v3 v4 G_9))) G
def lp_X8_group_39 (post : Int32 → GH → Prop) (P29 : Int32 → Int32 → GH → Prop) (v2 v3 v4 : Int32) (G : GH) : Prop := ∀ P39 : Int32 → Int32 → Int32 → GH → Prop, (∀ (v2 v3 v4 : Int32) (G : GH), lb_X8_group_39 post P29 P39 v2 v3 v4 G → P39 v2 v3 v4 G) → P39 v2 v3 v4 G
def lb_X8_group_29 (post : Int32 → GH → Prop) (P29 : Int32 → Int32 → GH → Prop) (v2 v3 : Int32) (G : GH) : Prop :=
  ((v3 = v2 → post v2 G) ∧ (¬ v3 = v2 → lp_X8_group_39 post P29 v2 v2 (0 : Int32) G))
def lp_X8_group_29 (post : Int32 → GH → Prop) (v2 v3 : Int32) (G : GH) : Prop := ∀ P29 : Int32 → Int32 → GH → Prop, (∀ (v2 v3 : Int32) (G : GH), lb_X8_group_29 post P29 v2 v3 G → P29 v2 v3 G) → P29 v2 v3 G
def wp_X8_group (post : Int32 → GH → Prop) (x1 : Int32) (G : GH) : Prop :=
  (∀ G_1 : GH, G_1 = gs G 24 0 (upd (G 24 0) 5 (0 : Int32)) → wp_X8_isMark (fun (b_3 : Bool) (G_2 : GH) => ((b_3 = false → wp_X8_fail (fun (r_17 : Int32) (G_16 : GH) => post r_17 G_16) (1 : Int32) G_2) ∧ (b_3 = true → wp_X8_lay (fun (G_5 : GH) => (∀ y_7 : Int32, y_7 = ((1 : Int32) <<< (x1 &&& 31)) → lp_X8_group_29 post y_7 (0 : Int32) G_5)) G_2))) x1 G_1)
set_option maxRecDepth 100000 in
set_option maxHeartbeats 4000000 in
theorem kl_X8_group_39 {E : Ev} {X : Cx} {post : Int32 → GH → Prop} {P29 : Int32 → Int32 → GH → Prop} {v2 v3 v4 : Int32} {G : GH} (F : Fx E X "MarkFieldModel" cX8_group 5) (T : RT E X 8 0 0 (some .int) (pI post)) (K29 : ∀ (v2 v3 : Int32) (G : GH), P29 v2 v3 G → AW E X 5 29 [(0, .ref (sdX X 24 0)), (2, .int v2), (3, .int v3)] [] G 0 0) (h : lp_X8_group_39 post P29 v2 v3 v4 G) : AW E X 5 39 [(0, .ref (sdX X 24 0)), (2, .int v2), (3, .int v3), (4, .int v4)] [] G 0 0 := by
  have hP := F.P
  have K39 : ∀ (v2 v3 v4 : Int32) (G : GH), AW E X 5 39 [(0, .ref (sdX X 24 0)), (2, .int v2), (3, .int v3), (4, .int v4)] [] G 0 0 → AW E X 5 39 [(0, .ref (sdX X 24 0)), (2, .int v2), (3, .int v3), (4, .int v4)] [] G 0 0 := fun _ _ _ _ q => q
  refine h (fun (v2 v3 v4 : Int32) (G : GH) => AW E X 5 39 [(0, .ref (sdX X 24 0)), (2, .int v2), (3, .int v3), (4, .int v4)] [] G 0 0) (fun (v2 v3 v4 : Int32) (G : GH) h => ?_)
  refine aw_il F 3 dX8_group_39 rfl ?_
  refine aw_al_n F 0 dX8_group_41 rfl rfl ?_
  refine aw_cVi (stk := [.int v4]) F T.room [] (k_X8_marks hP h) mv_X8_marks w_1305 cf8 (lo_s rfl) (hP _ rfl) rfl (by decide) rfl rfl (Nat.le_of_ble_eq_true rfl) ⟨(Nat.le_of_ble_eq_true rfl), (Nat.le_of_ble_eq_true rfl)⟩ ⟨(Nat.le_of_ble_eq_true rfl), (Nat.le_of_ble_eq_true rfl)⟩ dX8_group_42 (fun r_10 G_9 h => ?_)
  refine aw_icmp_ge (tgt := 73) F dX8_group_45 (by decide) (fun c_11 => ?_) (fun c_11 => ?_)
  · replace h := h.1 c_11
    refine aw_go (tgt := 29) F dX8_group_73 (by decide) ?_
    refine aw_sub [0, 1, 2] rfl ?_
    exact K29 _ _ _ h
  · replace h := h.2 c_11
    refine aw_il_n F 2 dX8_group_48 rfl rfl ?_
    refine aw_il F 3 dX8_group_49 rfl ?_
    refine aw_cSb (stk := []) F T.room [.int v3, .int v4] (k_X8_has hP h) ms_X8_has w_1385 rfl rfl (Nat.le_of_ble_eq_true rfl) ⟨(Nat.le_of_ble_eq_true rfl), (Nat.le_of_ble_eq_true rfl)⟩ ⟨(Nat.le_of_ble_eq_true rfl), (Nat.le_of_ble_eq_true rfl)⟩ dX8_group_51 (fun b_13 G_12 h => ?_)
    refine aw_if_eq (tgt := 67) F dX8_group_54 (by decide) (fun c_14 => ?_) (fun c_14 => ?_)
    · replace h := h.1 (bI_2 c_14)
      refine aw_inc (lv1 := [(4, .int (v4 + (1 : Int32))), (0, .ref (sdX X 24 0)), (2, .int v2), (3, .int v3)]) F 3 dX8_group_67 rfl (in_1 _) (by decide) rfl ?_
      refine aw_go (tgt := 39) F dX8_group_70 (by decide) ?_
      refine aw_sub [1, 2, 3, 0] rfl ?_
      exact K39 _ _ _ _ h
    · replace h := h.2 (bI_1 c_14)
      refine aw_il_n F 1 dX8_group_57 rfl rfl ?_
      refine aw_al_n F 0 dX8_group_58 rfl rfl ?_
      refine gr8_19 F (lo_s rfl) (hP _ rfl) rfl w_1179 (hP _ rfl) dX8_group_59 ?_
      refine aw_il F 3 dX8_group_62 rfl ?_
      refine aw_iald F 24 20 (lo_s rfl) (hP _ rfl) rfl h.1 dX8_group_64 ?_
      replace h := h.2
      refine aw_ior F dX8_group_65 ?_
      refine aw_top (fun y_15 ey_15 => ?_)
      replace h := h y_15 ey_15
      refine aw_is_n (lv1 := [(2, .int y_15), (0, .ref (sdX X 24 0)), (3, .int v3), (4, .int v4)]) F dX8_group_66 rfl (by decide) rfl ?_
      refine aw_inc (lv1 := [(4, .int (v4 + (1 : Int32))), (2, .int y_15), (0, .ref (sdX X 24 0)), (3, .int v3)]) F 3 dX8_group_67 rfl (in_1 _) (by decide) rfl ?_
      refine aw_go (tgt := 39) F dX8_group_70 (by decide) ?_
      refine aw_sub [2, 1, 3, 0] rfl ?_
      exact K39 _ _ _ _ h
set_option maxRecDepth 100000 in
set_option maxHeartbeats 4000000 in
theorem kl_X8_group_29 {E : Ev} {X : Cx} {post : Int32 → GH → Prop} {v2 v3 : Int32} {G : GH} (F : Fx E X "MarkFieldModel" cX8_group 5) (T : RT E X 8 0 0 (some .int) (pI post)) (h : lp_X8_group_29 post v2 v3 G) : AW E X 5 29 [(0, .ref (sdX X 24 0)), (2, .int v2), (3, .int v3)] [] G 0 0 := by
  have hP := F.P
  have K29 : ∀ (v2 v3 : Int32) (G : GH), AW E X 5 29 [(0, .ref (sdX X 24 0)), (2, .int v2), (3, .int v3)] [] G 0 0 → AW E X 5 29 [(0, .ref (sdX X 24 0)), (2, .int v2), (3, .int v3)] [] G 0 0 := fun _ _ _ q => q
  refine h (fun (v2 v3 : Int32) (G : GH) => AW E X 5 29 [(0, .ref (sdX X 24 0)), (2, .int v2), (3, .int v3)] [] G 0 0) (fun (v2 v3 : Int32) (G : GH) h => ?_)
  refine aw_il_n F 2 dX8_group_29 rfl rfl ?_
  refine aw_il_n F 1 dX8_group_30 rfl rfl ?_
  refine aw_icmp_eq (tgt := 76) F dX8_group_31 (by decide) (fun c_8 => ?_) (fun c_8 => ?_)
  · replace h := h.1 c_8
    refine aw_il_n F 1 dX8_group_76 rfl rfl ?_
    exact aw_iret F T (Nat.le_of_ble_eq_true rfl) (Nat.le_of_ble_eq_true rfl) ⟨_, rfl, h⟩ dX8_group_77
  · replace h := h.2 c_8
    refine aw_il_n F 1 dX8_group_34 rfl rfl ?_
    refine aw_is_n (lv1 := [(3, .int v2), (0, .ref (sdX X 24 0)), (2, .int v2)]) F dX8_group_35 rfl (by decide) rfl ?_
    refine aw_ic F dX8_group_36 ic_0 ?_
    refine aw_is (lv1 := [(4, .int (0 : Int32)), (3, .int v2), (0, .ref (sdX X 24 0)), (2, .int v2)]) F dX8_group_37 (by decide) rfl ?_
    refine aw_sub [2, 3, 1, 0] rfl ?_
    exact kl_X8_group_39 F T K29 h
set_option maxRecDepth 100000 in
set_option maxHeartbeats 4000000 in
theorem k_X8_group {l : Launch} {E : Ev} {P : Nat → Prop} {sd : Nat → Nat → Nat} {G : GH} {post : Int32 → GH → Prop} {x1 : Int32} (hPP : ∀ o, stt o = true → P o) (h : wp_X8_group post x1 G) : Ct l yX8_group cX8_group 5 (some .int) 8 0 0 E P sd G [.ref (sd 24 0), .int x1] (pI post) := by
  refine ct_of (own := "MarkFieldModel") (by decide) rfl (Nat.le_of_ble_eq_true rfl) hPP (fun X F T el eP es => ?_)
  subst el; subst eP; subst es
  have hP := F.P
  change AW E X 5 0 [(0, .ref (sdX X 24 0)), (1, .int x1)] [] G 0 0
  refine aw_al_n F 0 dX8_group_0 rfl rfl ?_
  refine aw_ic F dX8_group_1 ic_0 ?_
  refine pf8_5 F (lo_s rfl) (hP _ rfl) rfl w_1165 dX8_group_2 (fun G_1 eG_1 => ?_)
  replace h := h G_1 eG_1
  refine aw_al_n F 0 dX8_group_5 rfl rfl ?_
  refine aw_il_n F 1 dX8_group_6 rfl rfl ?_
  refine aw_cVb (stk := []) F T.room [.int x1] (k_X8_isMark hP h) mv_X8_isMark w_1423 cf8 (lo_s rfl) (hP _ rfl) rfl (by decide) rfl rfl (Nat.le_of_ble_eq_true rfl) ⟨(Nat.le_of_ble_eq_true rfl), (Nat.le_of_ble_eq_true rfl)⟩ ⟨(Nat.le_of_ble_eq_true rfl), (Nat.le_of_ble_eq_true rfl)⟩ dX8_group_7 (fun b_3 G_2 h => ?_)
  refine aw_if_ne (tgt := 19) F dX8_group_10 (by decide) (fun c_4 => ?_) (fun c_4 => ?_)
  · replace h := h.2 (bI_1 c_4)
    refine aw_al_n F 0 dX8_group_19 rfl rfl ?_
    refine aw_cVv (stk := []) F T.room [] (k_X8_lay hP h) mv_X8_lay w_1301 cf8 (lo_s rfl) (hP _ rfl) rfl (by decide) rfl rfl (Nat.le_of_ble_eq_true rfl) ⟨(Nat.le_of_ble_eq_true rfl), (Nat.le_of_ble_eq_true rfl)⟩ ⟨(Nat.le_of_ble_eq_true rfl), (Nat.le_of_ble_eq_true rfl)⟩ dX8_group_20 (fun G_5 h => ?_)
    refine aw_ic F dX8_group_23 ic_1 ?_
    refine aw_il_n F 1 dX8_group_24 rfl rfl ?_
    refine aw_ishl F dX8_group_25 ?_
    refine aw_top (fun y_7 ey_7 => ?_)
    replace h := h y_7 ey_7
    refine aw_is_n (lv1 := [(2, .int y_7), (0, .ref (sdX X 24 0)), (1, .int x1)]) F dX8_group_26 rfl (by decide) rfl ?_
    refine aw_ic F dX8_group_27 ic_0 ?_
    refine aw_is_n (lv1 := [(3, .int (0 : Int32)), (2, .int y_7), (0, .ref (sdX X 24 0)), (1, .int x1)]) F dX8_group_28 rfl (by decide) rfl ?_
    refine aw_sub [2, 1, 0] rfl ?_
    exact kl_X8_group_29 F T h
  · replace h := h.1 (bI_2 c_4)
    refine aw_al_n F 0 dX8_group_13 rfl rfl ?_
    refine aw_ic F dX8_group_14 ic_1 ?_
    refine aw_cVi (stk := []) F T.room [.int (1 : Int32)] (k_X8_fail hP h) mv_X8_fail w_1415 cf8 (lo_s rfl) (hP _ rfl) rfl (by decide) rfl rfl (Nat.le_of_ble_eq_true rfl) ⟨(Nat.le_of_ble_eq_true rfl), (Nat.le_of_ble_eq_true rfl)⟩ ⟨(Nat.le_of_ble_eq_true rfl), (Nat.le_of_ble_eq_true rfl)⟩ dX8_group_15 (fun r_17 G_16 h => ?_)
    exact aw_iret F T (Nat.le_of_ble_eq_true rfl) (Nat.le_of_ble_eq_true rfl) ⟨_, rfl, h⟩ dX8_group_18
-- X8_ranked (height 9)
def j_X8_ranked_25 (post : Int32 → GH → Prop) (v1 v2 v3 s1 : Int32) (G : GH) : Prop :=
  (∀ G_7 : GH, G_7 = gs G 24 0 (upd (G 24 0) 5 s1) → (((G_7 24 0 5) ≤ 0 → wp_X8_layHalf (fun (G_9 : GH) => wp_X8_within (fun (b_12 : Bool) (G_11 : GH) => ((b_12 = false → wp_X8_fail (fun (r_15 : Int32) (G_14 : GH) => post r_15 G_14) (1 : Int32) G_11) ∧ (b_12 = true → (vp_in v3 13 ∧ post (G_11 24 23 v3.toNatClampNeg) G_11)))) v3 (0 : Int32) ((G_9 24 0 24) - (1 : Int32)) G_9) v1 v2 G_7) ∧ (¬ (G_7 24 0 5) ≤ 0 → post (0 : Int32) G_7)))
def wp_X8_ranked (post : Int32 → GH → Prop) (x1 x2 x3 : Int32) (G : GH) : Prop :=
  wp_X8_isHalf (fun (b_2 : Bool) (G_1 : GH) => ((b_2 = false → j_X8_ranked_25 post x1 x2 x3 (1 : Int32) G_1) ∧ (b_2 = true → wp_X8_isDay (fun (b_5 : Bool) (G_4 : GH) => ((b_5 = false → j_X8_ranked_25 post x1 x2 x3 (2 : Int32) G_4) ∧ (b_5 = true → j_X8_ranked_25 post x1 x2 x3 (0 : Int32) G_4))) x2 G_1))) x1 G
set_option maxRecDepth 100000 in
set_option maxHeartbeats 4000000 in
theorem kj_X8_ranked_25 {E : Ev} {X : Cx} {post : Int32 → GH → Prop} {v1 v2 v3 s1 : Int32} {G : GH} (F : Fx E X "MarkFieldModel" cX8_ranked 4) (T : RT E X 9 0 0 (some .int) (pI post)) (h : j_X8_ranked_25 post v1 v2 v3 s1 G) : AW E X 4 25 [(0, .ref (sdX X 24 0)), (1, .int v1), (2, .int v2), (3, .int v3)] [.int s1, .ref (sdX X 24 0)] G 0 0 := by
  have hP := F.P
  refine pf8_5 F (lo_s rfl) (hP _ rfl) rfl w_1165 dX8_ranked_25 (fun G_7 eG_7 => ?_)
  replace h := h G_7 eG_7
  refine aw_al_n F 0 dX8_ranked_28 rfl rfl ?_
  refine gf8_5 F (lo_s rfl) (hP _ rfl) rfl w_1165 dX8_ranked_29 ?_
  refine aw_if_le (tgt := 37) F dX8_ranked_32 (by decide) (fun c_8 => ?_) (fun c_8 => ?_)
  · replace h := h.1 c_8
    refine aw_al_n F 0 dX8_ranked_37 rfl rfl ?_
    refine aw_il_n F 1 dX8_ranked_38 rfl rfl ?_
    refine aw_il_n F 2 dX8_ranked_39 rfl rfl ?_
    refine aw_cVv (stk := []) F T.room [.int v1, .int v2] (k_X8_layHalf hP h) mv_X8_layHalf w_1472 cf8 (lo_s rfl) (hP _ rfl) rfl (by decide) rfl rfl (Nat.le_of_ble_eq_true rfl) ⟨(Nat.le_of_ble_eq_true rfl), (Nat.le_of_ble_eq_true rfl)⟩ ⟨(Nat.le_of_ble_eq_true rfl), (Nat.le_of_ble_eq_true rfl)⟩ dX8_ranked_40 (fun G_9 h => ?_)
    refine aw_il_n F 3 dX8_ranked_43 rfl rfl ?_
    refine aw_ic F dX8_ranked_44 ic_0 ?_
    refine aw_al_n F 0 dX8_ranked_45 rfl rfl ?_
    refine gf8_24 F (lo_s rfl) (hP _ rfl) rfl w_1184 dX8_ranked_46 ?_
    refine aw_ic F dX8_ranked_49 ic_1 ?_
    refine aw_isub F dX8_ranked_50 ?_
    refine aw_cSb (stk := []) F T.room [.int v3, .int (0 : Int32), .int ((G_9 24 0 24) - (1 : Int32))] (k_X8_within hP h) ms_X8_within w_1427 rfl rfl (Nat.le_of_ble_eq_true rfl) ⟨(Nat.le_of_ble_eq_true rfl), (Nat.le_of_ble_eq_true rfl)⟩ ⟨(Nat.le_of_ble_eq_true rfl), (Nat.le_of_ble_eq_true rfl)⟩ dX8_ranked_51 (fun b_12 G_11 h => ?_)
    refine aw_if_eq (tgt := 66) F dX8_ranked_54 (by decide) (fun c_13 => ?_) (fun c_13 => ?_)
    · replace h := h.1 (bI_2 c_13)
      refine aw_al_n F 0 dX8_ranked_66 rfl rfl ?_
      refine aw_ic F dX8_ranked_67 ic_1 ?_
      refine aw_cVi (stk := []) F T.room [.int (1 : Int32)] (k_X8_fail hP h) mv_X8_fail w_1415 cf8 (lo_s rfl) (hP _ rfl) rfl (by decide) rfl rfl (Nat.le_of_ble_eq_true rfl) ⟨(Nat.le_of_ble_eq_true rfl), (Nat.le_of_ble_eq_true rfl)⟩ ⟨(Nat.le_of_ble_eq_true rfl), (Nat.le_of_ble_eq_true rfl)⟩ dX8_ranked_68 (fun r_15 G_14 h => ?_)
      exact aw_iret F T (Nat.le_of_ble_eq_true rfl) (Nat.le_of_ble_eq_true rfl) ⟨_, rfl, h⟩ dX8_ranked_71
    · replace h := h.2 (bI_1 c_13)
      refine aw_al_n F 0 dX8_ranked_57 rfl rfl ?_
      refine gr8_22 F (lo_s rfl) (hP _ rfl) rfl w_1182 (hP _ rfl) dX8_ranked_58 ?_
      refine aw_il_n F 3 dX8_ranked_61 rfl rfl ?_
      refine aw_iald F 24 23 (lo_s rfl) (hP _ rfl) rfl h.1 dX8_ranked_62 ?_
      replace h := h.2
      refine aw_go (tgt := 71) F dX8_ranked_63 (by decide) ?_
      exact aw_iret F T (Nat.le_of_ble_eq_true rfl) (Nat.le_of_ble_eq_true rfl) ⟨_, rfl, h⟩ dX8_ranked_71
  · replace h := h.2 c_8
    refine aw_ic F dX8_ranked_35 ic_0 ?_
    exact aw_iret F T (Nat.le_of_ble_eq_true rfl) (Nat.le_of_ble_eq_true rfl) ⟨_, rfl, h⟩ dX8_ranked_36
set_option maxRecDepth 100000 in
set_option maxHeartbeats 4000000 in
theorem k_X8_ranked {l : Launch} {E : Ev} {P : Nat → Prop} {sd : Nat → Nat → Nat} {G : GH} {post : Int32 → GH → Prop} {x1 x2 x3 : Int32} (hPP : ∀ o, stt o = true → P o) (h : wp_X8_ranked post x1 x2 x3 G) : Ct l yX8_ranked cX8_ranked 4 (some .int) 9 0 0 E P sd G [.ref (sd 24 0), .int x1, .int x2, .int x3] (pI post) := by
  refine ct_of (own := "MarkFieldModel") (by decide) rfl (Nat.le_of_ble_eq_true rfl) hPP (fun X F T el eP es => ?_)
  subst el; subst eP; subst es
  have hP := F.P
  change AW E X 4 0 [(0, .ref (sdX X 24 0)), (1, .int x1), (2, .int x2), (3, .int x3)] [] G 0 0
  refine aw_al_n F 0 dX8_ranked_0 rfl rfl ?_
  refine aw_al_n F 0 dX8_ranked_1 rfl rfl ?_
  refine aw_il_n F 1 dX8_ranked_2 rfl rfl ?_
  refine aw_cVb (stk := [.ref (sdX X 24 0)]) F T.room [.int x1] (k_X8_isHalf hP h) mv_X8_isHalf w_1457 cf8 (lo_s rfl) (hP _ rfl) rfl (by decide) rfl rfl (Nat.le_of_ble_eq_true rfl) ⟨(Nat.le_of_ble_eq_true rfl), (Nat.le_of_ble_eq_true rfl)⟩ ⟨(Nat.le_of_ble_eq_true rfl), (Nat.le_of_ble_eq_true rfl)⟩ dX8_ranked_3 (fun b_2 G_1 h => ?_)
  refine aw_if_ne (tgt := 13) F dX8_ranked_6 (by decide) (fun c_3 => ?_) (fun c_3 => ?_)
  · replace h := h.2 (bI_1 c_3)
    refine aw_il_n F 2 dX8_ranked_13 rfl rfl ?_
    refine aw_cSb (stk := [.ref (sdX X 24 0)]) F T.room [.int x2] (k_X8_isDay hP h) ms_X8_isDay w_1461 rfl rfl (Nat.le_of_ble_eq_true rfl) ⟨(Nat.le_of_ble_eq_true rfl), (Nat.le_of_ble_eq_true rfl)⟩ ⟨(Nat.le_of_ble_eq_true rfl), (Nat.le_of_ble_eq_true rfl)⟩ dX8_ranked_14 (fun b_5 G_4 h => ?_)
    refine aw_if_ne (tgt := 24) F dX8_ranked_17 (by decide) (fun c_6 => ?_) (fun c_6 => ?_)
    · replace h := h.2 (bI_1 c_6)
      refine aw_ic F dX8_ranked_24 ic_0 ?_
      exact kj_X8_ranked_25 F T h
    · replace h := h.1 (bI_2 c_6)
      refine aw_ic F dX8_ranked_20 ic_2 ?_
      refine aw_go (tgt := 25) F dX8_ranked_21 (by decide) ?_
      exact kj_X8_ranked_25 F T h
  · replace h := h.1 (bI_2 c_3)
    refine aw_ic F dX8_ranked_9 ic_1 ?_
    refine aw_go (tgt := 25) F dX8_ranked_10 (by decide) ?_
    exact kj_X8_ranked_25 F T h
-- X8_takesName (height 1)
def lb_X8_takesName_24 (post : Bool → GH → Prop) (P24 : Int32 → Int32 → GH → Prop) (v1 v2 : Int32) (G : GH) : Prop :=
  ((v1 ≤ v2 → post true G) ∧ (¬ v1 ≤ v2 → (vp_in v2 700 ∧ wp_X8_within (fun (b_8 : Bool) (G_7 : GH) => ((b_8 = false → post false G_7) ∧ (b_8 = true → (vp_in v2 700 ∧ (vp_in v2 10 ∧ (∀ G_10 : GH, G_10 = gs G_7 24 30 (upd (G_7 24 30) v2.toNatClampNeg (G_7 24 32 v2.toNatClampNeg)) → P24 v1 (v2 + (1 : Int32)) G_10)))))) (G 24 32 v2.toNatClampNeg) (97 : Int32) (122 : Int32) G)))
def lp_X8_takesName_24 (post : Bool → GH → Prop) (v1 v2 : Int32) (G : GH) : Prop := ∀ P24 : Int32 → Int32 → GH → Prop, (∀ (v1 v2 : Int32) (G : GH), lb_X8_takesName_24 post P24 v1 v2 G → P24 v1 v2 G) → P24 v1 v2 G
def wp_X8_takesName (post : Bool → GH → Prop) (x1 : Int32) (G : GH) : Prop :=
  (∀ G_1 : GH, G_1 = gs G 24 0 (upd (G 24 0) 32 (0 : Int32)) → (∀ G_2 : GH, G_2 = gs G_1 24 0 (upd (G_1 24 0) 30 x1) → wp_X8_within (fun (b_4 : Bool) (G_3 : GH) => ((b_4 = false → post false G_3) ∧ (b_4 = true → lp_X8_takesName_24 post x1 (0 : Int32) G_3))) x1 (1 : Int32) (10 : Int32) G_2))
set_option maxRecDepth 100000 in
set_option maxHeartbeats 4000000 in
theorem kl_X8_takesName_24 {E : Ev} {X : Cx} {post : Bool → GH → Prop} {v1 v2 : Int32} {G : GH} (F : Fx E X "MarkFieldModel" cX8_takesName 3) (T : RT E X 1 0 0 (some .boolean) (pB post)) (h : lp_X8_takesName_24 post v1 v2 G) : AW E X 3 24 [(0, .ref (sdX X 24 0)), (1, .int v1), (2, .int v2)] [] G 0 0 := by
  have hP := F.P
  have K24 : ∀ (v1 v2 : Int32) (G : GH), AW E X 3 24 [(0, .ref (sdX X 24 0)), (1, .int v1), (2, .int v2)] [] G 0 0 → AW E X 3 24 [(0, .ref (sdX X 24 0)), (1, .int v1), (2, .int v2)] [] G 0 0 := fun _ _ _ q => q
  refine h (fun (v1 v2 : Int32) (G : GH) => AW E X 3 24 [(0, .ref (sdX X 24 0)), (1, .int v1), (2, .int v2)] [] G 0 0) (fun (v1 v2 : Int32) (G : GH) h => ?_)
  refine aw_il_n F 2 dX8_takesName_24 rfl rfl ?_
  refine aw_il_n F 1 dX8_takesName_25 rfl rfl ?_
  refine aw_icmp_ge (tgt := 65) F dX8_takesName_26 (by decide) (fun c_6 => ?_) (fun c_6 => ?_)
  · replace h := h.1 c_6
    refine aw_ic F dX8_takesName_65 ic_1 ?_
    exact aw_zret F T true rfl (Nat.le_of_ble_eq_true rfl) (Nat.le_of_ble_eq_true rfl) ⟨_, rfl, h⟩ dX8_takesName_66
  · replace h := h.2 c_6
    refine aw_al_n F 0 dX8_takesName_29 rfl rfl ?_
    refine gr8_31 F (lo_s rfl) (hP _ rfl) rfl w_1191 (hP _ rfl) dX8_takesName_30 ?_
    refine aw_il_n F 2 dX8_takesName_33 rfl rfl ?_
    refine aw_iald F 24 32 (lo_s rfl) (hP _ rfl) rfl h.1 dX8_takesName_34 ?_
    replace h := h.2
    refine aw_bi F dX8_takesName_35 bi_97 ?_
    refine aw_bi F dX8_takesName_37 bi_122 ?_
    refine aw_cSb (stk := []) F T.room [.int (G 24 32 v2.toNatClampNeg), .int (97 : Int32), .int (122 : Int32)] (k_X8_within hP h) ms_X8_within w_1427 rfl rfl (Nat.le_of_ble_eq_true rfl) ⟨(Nat.le_of_ble_eq_true rfl), (Nat.le_of_ble_eq_true rfl)⟩ ⟨(Nat.le_of_ble_eq_true rfl), (Nat.le_of_ble_eq_true rfl)⟩ dX8_takesName_39 (fun b_8 G_7 h => ?_)
    refine aw_if_ne (tgt := 47) F dX8_takesName_42 (by decide) (fun c_9 => ?_) (fun c_9 => ?_)
    · replace h := h.2 (bI_1 c_9)
      refine aw_al_n F 0 dX8_takesName_47 rfl rfl ?_
      refine gr8_29 F (lo_s rfl) (hP _ rfl) rfl w_1189 (hP _ rfl) dX8_takesName_48 ?_
      refine aw_il_n F 2 dX8_takesName_51 rfl rfl ?_
      refine aw_al_n F 0 dX8_takesName_52 rfl rfl ?_
      refine gr8_31 F (lo_s rfl) (hP _ rfl) rfl w_1191 (hP _ rfl) dX8_takesName_53 ?_
      refine aw_il_n F 2 dX8_takesName_56 rfl rfl ?_
      refine aw_iald F 24 32 (lo_s rfl) (hP _ rfl) rfl h.1 dX8_takesName_57 ?_
      replace h := h.2
      refine aw_iast F 24 30 (lo_s rfl) (hP _ rfl) rfl h.1 dX8_takesName_58 ?_
      refine aw_nG (fun G_10 eG_10 => ?_)
      replace h := h.2 G_10 eG_10
      refine aw_inc (lv1 := [(2, .int (v2 + (1 : Int32))), (0, .ref (sdX X 24 0)), (1, .int v1)]) F 2 dX8_takesName_59 rfl (in_1 _) (by decide) rfl ?_
      refine aw_go (tgt := 24) F dX8_takesName_62 (by decide) ?_
      refine aw_sub [1, 2, 0] rfl ?_
      exact K24 _ _ _ h
    · replace h := h.1 (bI_2 c_9)
      refine aw_ic F dX8_takesName_45 ic_0 ?_
      exact aw_zret F T false rfl (Nat.le_of_ble_eq_true rfl) (Nat.le_of_ble_eq_true rfl) ⟨_, rfl, h⟩ dX8_takesName_46
set_option maxRecDepth 100000 in
set_option maxHeartbeats 4000000 in
theorem k_X8_takesName {l : Launch} {E : Ev} {P : Nat → Prop} {sd : Nat → Nat → Nat} {G : GH} {post : Bool → GH → Prop} {x1 : Int32} (hPP : ∀ o, stt o = true → P o) (h : wp_X8_takesName post x1 G) : Ct l yX8_takesName cX8_takesName 3 (some .boolean) 1 0 0 E P sd G [.ref (sd 24 0), .int x1] (pB post) := by
  refine ct_of (own := "MarkFieldModel") (by decide) rfl (Nat.le_of_ble_eq_true rfl) hPP (fun X F T el eP es => ?_)
  subst el; subst eP; subst es
  have hP := F.P
  change AW E X 3 0 [(0, .ref (sdX X 24 0)), (1, .int x1)] [] G 0 0
  refine aw_al_n F 0 dX8_takesName_0 rfl rfl ?_
  refine aw_ic F dX8_takesName_1 ic_0 ?_
  refine pf8_32 F (lo_s rfl) (hP _ rfl) rfl w_1192 dX8_takesName_2 (fun G_1 eG_1 => ?_)
  replace h := h G_1 eG_1
  refine aw_al_n F 0 dX8_takesName_5 rfl rfl ?_
  refine aw_il_n F 1 dX8_takesName_6 rfl rfl ?_
  refine pf8_30 F (lo_s rfl) (hP _ rfl) rfl w_1190 dX8_takesName_7 (fun G_2 eG_2 => ?_)
  replace h := h G_2 eG_2
  refine aw_il_n F 1 dX8_takesName_10 rfl rfl ?_
  refine aw_ic F dX8_takesName_11 ic_1 ?_
  refine aw_bi F dX8_takesName_12 bi_10 ?_
  refine aw_cSb (stk := []) F T.room [.int x1, .int (1 : Int32), .int (10 : Int32)] (k_X8_within hP h) ms_X8_within w_1427 rfl rfl (Nat.le_of_ble_eq_true rfl) ⟨(Nat.le_of_ble_eq_true rfl), (Nat.le_of_ble_eq_true rfl)⟩ ⟨(Nat.le_of_ble_eq_true rfl), (Nat.le_of_ble_eq_true rfl)⟩ dX8_takesName_14 (fun b_4 G_3 h => ?_)
  refine aw_if_ne (tgt := 22) F dX8_takesName_17 (by decide) (fun c_5 => ?_) (fun c_5 => ?_)
  · replace h := h.2 (bI_1 c_5)
    refine aw_ic F dX8_takesName_22 ic_0 ?_
    refine aw_is_n (lv1 := [(2, .int (0 : Int32)), (0, .ref (sdX X 24 0)), (1, .int x1)]) F dX8_takesName_23 rfl (by decide) rfl ?_
    refine aw_sub [1, 2, 0] rfl ?_
    exact kl_X8_takesName_24 F T h
  · replace h := h.1 (bI_2 c_5)
    refine aw_ic F dX8_takesName_20 ic_0 ?_
    exact aw_zret F T false rfl (Nat.le_of_ble_eq_true rfl) (Nat.le_of_ble_eq_true rfl) ⟨_, rfl, h⟩ dX8_takesName_21
-- X8_adds (height 1)
def lb_X8_adds_42 (post : Int32 → GH → Prop) (P42 : Int32 → Int32 → Int32 → Int32 → GH → Prop) (v1 v2 v3 v4 : Int32) (G : GH) : Prop :=
  (((G 24 0 30) ≤ v4 → wp_X8_put (fun (G_7 : GH) => wp_X8_put (fun (G_9 : GH) => (∀ G_11 : GH, G_11 = gs G_9 24 1 (upd (G_9 24 1) 1 ((G_9 24 1 1) + (1 : Int32))) → (∀ G_12 : GH, G_12 = gs G_11 24 0 (upd (G_11 24 0) 7 (0 : Int32)) → post v3 G_12))) v3 (12 : Int32) v2 G_7) v3 (11 : Int32) v1 G) ∧ (¬ (G 24 0 30) ≤ v4 → (vp_in v4 10 ∧ wp_X8_put (fun (G_13 : GH) => P42 v1 v2 v3 (v4 + (1 : Int32)) G_13) v3 ((1 : Int32) + v4) (G 24 30 v4.toNatClampNeg) G)))
def lp_X8_adds_42 (post : Int32 → GH → Prop) (v1 v2 v3 v4 : Int32) (G : GH) : Prop := ∀ P42 : Int32 → Int32 → Int32 → Int32 → GH → Prop, (∀ (v1 v2 v3 v4 : Int32) (G : GH), lb_X8_adds_42 post P42 v1 v2 v3 v4 G → P42 v1 v2 v3 v4 G) → P42 v1 v2 v3 v4 G
def lb_X8_adds_8 (post : Int32 → GH → Prop) (P8 : Int32 → Int32 → Int32 → Int32 → GH → Prop) (v1 v2 v3 v4 : Int32) (G : GH) : Prop :=
  (((51 : Int32) ≤ v4 → wp_X8_put (fun (G_4 : GH) => lp_X8_adds_42 post v1 v2 v3 (0 : Int32) G_4) v3 (0 : Int32) (G 24 0 30) G) ∧ (¬ (51 : Int32) ≤ v4 → wp_X8_put (fun (G_15 : GH) => P8 v1 v2 v3 (v4 + (1 : Int32)) G_15) v3 v4 (0 : Int32) G))
def lp_X8_adds_8 (post : Int32 → GH → Prop) (v1 v2 v3 v4 : Int32) (G : GH) : Prop := ∀ P8 : Int32 → Int32 → Int32 → Int32 → GH → Prop, (∀ (v1 v2 v3 v4 : Int32) (G : GH), lb_X8_adds_8 post P8 v1 v2 v3 v4 G → P8 v1 v2 v3 v4 G) → P8 v1 v2 v3 v4 G
def wp_X8_adds (post : Int32 → GH → Prop) (x1 x2 : Int32) (G : GH) : Prop :=
  wp_X8_marks (fun (r_2 : Int32) (G_1 : GH) => lp_X8_adds_8 post x1 x2 r_2 (0 : Int32) G_1) G
set_option maxRecDepth 100000 in
set_option maxHeartbeats 4000000 in
theorem kl_X8_adds_42 {E : Ev} {X : Cx} {post : Int32 → GH → Prop} {v1 v2 v3 v4 : Int32} {G : GH} (F : Fx E X "MarkFieldModel" cX8_adds 5) (T : RT E X 1 0 0 (some .int) (pI post)) (h : lp_X8_adds_42 post v1 v2 v3 v4 G) : AW E X 5 42 [(0, .ref (sdX X 24 0)), (1, .int v1), (2, .int v2), (3, .int v3), (4, .int v4)] [] G 0 0 := by
  have hP := F.P
  have K42 : ∀ (v1 v2 v3 v4 : Int32) (G : GH), AW E X 5 42 [(0, .ref (sdX X 24 0)), (1, .int v1), (2, .int v2), (3, .int v3), (4, .int v4)] [] G 0 0 → AW E X 5 42 [(0, .ref (sdX X 24 0)), (1, .int v1), (2, .int v2), (3, .int v3), (4, .int v4)] [] G 0 0 := fun _ _ _ _ _ q => q
  refine h (fun (v1 v2 v3 v4 : Int32) (G : GH) => AW E X 5 42 [(0, .ref (sdX X 24 0)), (1, .int v1), (2, .int v2), (3, .int v3), (4, .int v4)] [] G 0 0) (fun (v1 v2 v3 v4 : Int32) (G : GH) h => ?_)
  refine aw_il F 4 dX8_adds_42 rfl ?_
  refine aw_al_n F 0 dX8_adds_44 rfl rfl ?_
  refine gf8_30 F (lo_s rfl) (hP _ rfl) rfl w_1190 dX8_adds_45 ?_
  refine aw_icmp_ge (tgt := 73) F dX8_adds_48 (by decide) (fun c_6 => ?_) (fun c_6 => ?_)
  · replace h := h.1 c_6
    refine aw_al_n F 0 dX8_adds_73 rfl rfl ?_
    refine aw_il_n F 3 dX8_adds_74 rfl rfl ?_
    refine aw_bi F dX8_adds_75 bi_11 ?_
    refine aw_il_n F 1 dX8_adds_77 rfl rfl ?_
    refine aw_cVv (stk := []) F T.room [.int v3, .int (11 : Int32), .int v1] (k_X8_put hP h) mv_X8_put w_1549 cf8 (lo_s rfl) (hP _ rfl) rfl (by decide) rfl rfl (Nat.le_of_ble_eq_true rfl) ⟨(Nat.le_of_ble_eq_true rfl), (Nat.le_of_ble_eq_true rfl)⟩ ⟨(Nat.le_of_ble_eq_true rfl), (Nat.le_of_ble_eq_true rfl)⟩ dX8_adds_78 (fun G_7 h => ?_)
    refine aw_al_n F 0 dX8_adds_81 rfl rfl ?_
    refine aw_il_n F 3 dX8_adds_82 rfl rfl ?_
    refine aw_bi F dX8_adds_83 bi_12 ?_
    refine aw_il_n F 2 dX8_adds_85 rfl rfl ?_
    refine aw_cVv (stk := []) F T.room [.int v3, .int (12 : Int32), .int v2] (k_X8_put hP h) mv_X8_put w_1549 cf8 (lo_s rfl) (hP _ rfl) rfl (by decide) rfl rfl (Nat.le_of_ble_eq_true rfl) ⟨(Nat.le_of_ble_eq_true rfl), (Nat.le_of_ble_eq_true rfl)⟩ ⟨(Nat.le_of_ble_eq_true rfl), (Nat.le_of_ble_eq_true rfl)⟩ dX8_adds_86 (fun G_9 h => ?_)
    refine aw_al_n F 0 dX8_adds_89 rfl rfl ?_
    refine gr8_0 F (lo_s rfl) (hP _ rfl) rfl w_1160 (hP _ rfl) dX8_adds_90 ?_
    refine aw_ic F dX8_adds_93 ic_1 ?_
    refine aw_dup2 F dX8_adds_94 rfl rfl ?_
    refine aw_ialdL F 24 1 (lo_s rfl) (hP _ rfl) rfl (vin_l rfl) tn_1 dX8_adds_95 ?_
    refine aw_ic F dX8_adds_96 ic_1 ?_
    refine aw_iadd F dX8_adds_97 ?_
    refine aw_iastL F 24 1 (lo_s rfl) (hP _ rfl) rfl (vin_l rfl) tn_1 dX8_adds_98 ?_
    refine aw_nG (fun G_11 eG_11 => ?_)
    replace h := h G_11 eG_11
    refine aw_al_n F 0 dX8_adds_99 rfl rfl ?_
    refine aw_ic F dX8_adds_100 ic_0 ?_
    refine pf8_7 F (lo_s rfl) (hP _ rfl) rfl w_1167 (Or.inl rfl) dX8_adds_101 (fun G_12 eG_12 => ?_)
    replace h := h G_12 eG_12
    refine aw_il_n F 3 dX8_adds_104 rfl rfl ?_
    exact aw_iret F T (Nat.le_of_ble_eq_true rfl) (Nat.le_of_ble_eq_true rfl) ⟨_, rfl, h⟩ dX8_adds_105
  · replace h := h.2 c_6
    refine aw_al_n F 0 dX8_adds_51 rfl rfl ?_
    refine aw_il_n F 3 dX8_adds_52 rfl rfl ?_
    refine aw_ic F dX8_adds_53 ic_1 ?_
    refine aw_il F 4 dX8_adds_54 rfl ?_
    refine aw_iadd F dX8_adds_56 ?_
    refine aw_al_n F 0 dX8_adds_57 rfl rfl ?_
    refine gr8_29 F (lo_s rfl) (hP _ rfl) rfl w_1189 (hP _ rfl) dX8_adds_58 ?_
    refine aw_il F 4 dX8_adds_61 rfl ?_
    refine aw_iald F 24 30 (lo_s rfl) (hP _ rfl) rfl h.1 dX8_adds_63 ?_
    replace h := h.2
    refine aw_cVv (stk := []) F T.room [.int v3, .int ((1 : Int32) + v4), .int (G 24 30 v4.toNatClampNeg)] (k_X8_put hP h) mv_X8_put w_1549 cf8 (lo_s rfl) (hP _ rfl) rfl (by decide) rfl rfl (Nat.le_of_ble_eq_true rfl) ⟨(Nat.le_of_ble_eq_true rfl), (Nat.le_of_ble_eq_true rfl)⟩ ⟨(Nat.le_of_ble_eq_true rfl), (Nat.le_of_ble_eq_true rfl)⟩ dX8_adds_64 (fun G_13 h => ?_)
    refine aw_inc (lv1 := [(4, .int (v4 + (1 : Int32))), (0, .ref (sdX X 24 0)), (1, .int v1), (2, .int v2), (3, .int v3)]) F 4 dX8_adds_67 rfl (in_1 _) (by decide) rfl ?_
    refine aw_go (tgt := 42) F dX8_adds_70 (by decide) ?_
    refine aw_sub [1, 2, 3, 4, 0] rfl ?_
    exact K42 _ _ _ _ _ h
set_option maxRecDepth 100000 in
set_option maxHeartbeats 4000000 in
theorem kl_X8_adds_8 {E : Ev} {X : Cx} {post : Int32 → GH → Prop} {v1 v2 v3 v4 : Int32} {G : GH} (F : Fx E X "MarkFieldModel" cX8_adds 5) (T : RT E X 1 0 0 (some .int) (pI post)) (h : lp_X8_adds_8 post v1 v2 v3 v4 G) : AW E X 5 8 [(0, .ref (sdX X 24 0)), (1, .int v1), (2, .int v2), (3, .int v3), (4, .int v4)] [] G 0 0 := by
  have hP := F.P
  have K8 : ∀ (v1 v2 v3 v4 : Int32) (G : GH), AW E X 5 8 [(0, .ref (sdX X 24 0)), (1, .int v1), (2, .int v2), (3, .int v3), (4, .int v4)] [] G 0 0 → AW E X 5 8 [(0, .ref (sdX X 24 0)), (1, .int v1), (2, .int v2), (3, .int v3), (4, .int v4)] [] G 0 0 := fun _ _ _ _ _ q => q
  refine h (fun (v1 v2 v3 v4 : Int32) (G : GH) => AW E X 5 8 [(0, .ref (sdX X 24 0)), (1, .int v1), (2, .int v2), (3, .int v3), (4, .int v4)] [] G 0 0) (fun (v1 v2 v3 v4 : Int32) (G : GH) h => ?_)
  refine aw_il F 4 dX8_adds_8 rfl ?_
  refine aw_bi F dX8_adds_10 bi_51 ?_
  refine aw_icmp_ge (tgt := 29) F dX8_adds_12 (by decide) (fun c_3 => ?_) (fun c_3 => ?_)
  · replace h := h.1 c_3
    refine aw_al_n F 0 dX8_adds_29 rfl rfl ?_
    refine aw_il_n F 3 dX8_adds_30 rfl rfl ?_
    refine aw_ic F dX8_adds_31 ic_0 ?_
    refine aw_al_n F 0 dX8_adds_32 rfl rfl ?_
    refine gf8_30 F (lo_s rfl) (hP _ rfl) rfl w_1190 dX8_adds_33 ?_
    refine aw_cVv (stk := []) F T.room [.int v3, .int (0 : Int32), .int (G 24 0 30)] (k_X8_put hP h) mv_X8_put w_1549 cf8 (lo_s rfl) (hP _ rfl) rfl (by decide) rfl rfl (Nat.le_of_ble_eq_true rfl) ⟨(Nat.le_of_ble_eq_true rfl), (Nat.le_of_ble_eq_true rfl)⟩ ⟨(Nat.le_of_ble_eq_true rfl), (Nat.le_of_ble_eq_true rfl)⟩ dX8_adds_36 (fun G_4 h => ?_)
    refine aw_ic F dX8_adds_39 ic_0 ?_
    refine aw_is (lv1 := [(4, .int (0 : Int32)), (0, .ref (sdX X 24 0)), (1, .int v1), (2, .int v2), (3, .int v3)]) F dX8_adds_40 (by decide) rfl ?_
    refine aw_sub [1, 2, 3, 4, 0] rfl ?_
    exact kl_X8_adds_42 F T h
  · replace h := h.2 c_3
    refine aw_al_n F 0 dX8_adds_15 rfl rfl ?_
    refine aw_il_n F 3 dX8_adds_16 rfl rfl ?_
    refine aw_il F 4 dX8_adds_17 rfl ?_
    refine aw_ic F dX8_adds_19 ic_0 ?_
    refine aw_cVv (stk := []) F T.room [.int v3, .int v4, .int (0 : Int32)] (k_X8_put hP h) mv_X8_put w_1549 cf8 (lo_s rfl) (hP _ rfl) rfl (by decide) rfl rfl (Nat.le_of_ble_eq_true rfl) ⟨(Nat.le_of_ble_eq_true rfl), (Nat.le_of_ble_eq_true rfl)⟩ ⟨(Nat.le_of_ble_eq_true rfl), (Nat.le_of_ble_eq_true rfl)⟩ dX8_adds_20 (fun G_15 h => ?_)
    refine aw_inc (lv1 := [(4, .int (v4 + (1 : Int32))), (0, .ref (sdX X 24 0)), (1, .int v1), (2, .int v2), (3, .int v3)]) F 4 dX8_adds_23 rfl (in_1 _) (by decide) rfl ?_
    refine aw_go (tgt := 8) F dX8_adds_26 (by decide) ?_
    refine aw_sub [1, 2, 3, 4, 0] rfl ?_
    exact K8 _ _ _ _ _ h
set_option maxRecDepth 100000 in
set_option maxHeartbeats 4000000 in
theorem k_X8_adds {l : Launch} {E : Ev} {P : Nat → Prop} {sd : Nat → Nat → Nat} {G : GH} {post : Int32 → GH → Prop} {x1 x2 : Int32} (hPP : ∀ o, stt o = true → P o) (h : wp_X8_adds post x1 x2 G) : Ct l yX8_adds cX8_adds 5 (some .int) 1 0 0 E P sd G [.ref (sd 24 0), .int x1, .int x2] (pI post) := by
  refine ct_of (own := "MarkFieldModel") (by decide) rfl (Nat.le_of_ble_eq_true rfl) hPP (fun X F T el eP es => ?_)
  subst el; subst eP; subst es
  have hP := F.P
  change AW E X 5 0 [(0, .ref (sdX X 24 0)), (1, .int x1), (2, .int x2)] [] G 0 0
  refine aw_al_n F 0 dX8_adds_0 rfl rfl ?_
  refine aw_cVi (stk := []) F T.room [] (k_X8_marks hP h) mv_X8_marks w_1305 cf8 (lo_s rfl) (hP _ rfl) rfl (by decide) rfl rfl (Nat.le_of_ble_eq_true rfl) ⟨(Nat.le_of_ble_eq_true rfl), (Nat.le_of_ble_eq_true rfl)⟩ ⟨(Nat.le_of_ble_eq_true rfl), (Nat.le_of_ble_eq_true rfl)⟩ dX8_adds_1 (fun r_2 G_1 h => ?_)
  refine aw_is_n (lv1 := [(3, .int r_2), (0, .ref (sdX X 24 0)), (1, .int x1), (2, .int x2)]) F dX8_adds_4 rfl (by decide) rfl ?_
  refine aw_ic F dX8_adds_5 ic_0 ?_
  refine aw_is (lv1 := [(4, .int (0 : Int32)), (3, .int r_2), (0, .ref (sdX X 24 0)), (1, .int x1), (2, .int x2)]) F dX8_adds_6 (by decide) rfl ?_
  refine aw_sub [2, 3, 4, 1, 0] rfl ?_
  exact kl_X8_adds_8 F T h
-- X8_goesAway (height 0)
def wp_X8_goesAway (post : GH → Prop) (G : GH) : Prop :=
  (∀ G_1 : GH, G_1 = gs G 24 1 (upd (G 24 1) 1 ((G 24 1 1) - (1 : Int32))) → (∀ G_2 : GH, G_2 = gs G_1 24 0 (upd (G_1 24 0) 7 (0 : Int32)) → post G_2))
set_option maxRecDepth 100000 in
set_option maxHeartbeats 4000000 in
theorem k_X8_goesAway {l : Launch} {E : Ev} {P : Nat → Prop} {sd : Nat → Nat → Nat} {G : GH} {post : GH → Prop} (hPP : ∀ o, stt o = true → P o) (h : wp_X8_goesAway post G) : Ct l yX8_goesAway cX8_goesAway 1 none 0 0 0 E P sd G [.ref (sd 24 0)] (pV post) := by
  refine ct_of (own := "MarkFieldModel") (by decide) rfl (Nat.le_of_ble_eq_true rfl) hPP (fun X F T el eP es => ?_)
  subst el; subst eP; subst es
  have hP := F.P
  change AW E X 1 0 [(0, .ref (sdX X 24 0))] [] G 0 0
  refine aw_al_n F 0 dX8_goesAway_0 rfl rfl ?_
  refine gr8_0 F (lo_s rfl) (hP _ rfl) rfl w_1160 (hP _ rfl) dX8_goesAway_1 ?_
  refine aw_ic F dX8_goesAway_4 ic_1 ?_
  refine aw_dup2 F dX8_goesAway_5 rfl rfl ?_
  refine aw_ialdL F 24 1 (lo_s rfl) (hP _ rfl) rfl (vin_l rfl) tn_1 dX8_goesAway_6 ?_
  refine aw_ic F dX8_goesAway_7 ic_1 ?_
  refine aw_isub F dX8_goesAway_8 ?_
  refine aw_iastL F 24 1 (lo_s rfl) (hP _ rfl) rfl (vin_l rfl) tn_1 dX8_goesAway_9 ?_
  refine aw_nG (fun G_1 eG_1 => ?_)
  replace h := h G_1 eG_1
  refine aw_al_n F 0 dX8_goesAway_10 rfl rfl ?_
  refine aw_ic F dX8_goesAway_11 ic_0 ?_
  refine pf8_7 F (lo_s rfl) (hP _ rfl) rfl w_1167 (Or.inl rfl) dX8_goesAway_12 (fun G_2 eG_2 => ?_)
  replace h := h G_2 eG_2
  exact aw_vret F T (Nat.le_of_ble_eq_true rfl) (Nat.le_of_ble_eq_true rfl) ⟨rfl, h⟩ dX8_goesAway_15
-- X8_leastReason (height 9)
def j_X8_leastReason_46 (post : Int32 → GH → Prop) (P5 : Int32 → Int32 → Int32 → Int32 → GH → Prop) (v1 v2 v4 : Int32) (G : GH) : Prop :=
  (vp_in v1 13 ∧ (∀ y_8 : Int32, y_8 = (G 24 24 v1.toNatClampNeg) → P5 v1 v2 y_8 (v4 + (1 : Int32)) G))
def lb_X8_leastReason_5 (post : Int32 → GH → Prop) (P5 : Int32 → Int32 → Int32 → Int32 → GH → Prop) (v1 v2 v3 v4 : Int32) (G : GH) : Prop :=
  wp_X8_halvesMany (fun (r_2 : Int32) (G_1 : GH) => ((r_2 ≤ v4 → post v3 G_1) ∧ (¬ r_2 ≤ v4 → wp_X8_layHalf (fun (G_4 : GH) => (vp_in v1 13 ∧ (((G_4 24 24 v1.toNatClampNeg) = (-1 : Int32) → P5 v1 v2 v3 (v4 + (1 : Int32)) G_4) ∧ (¬ (G_4 24 24 v1.toNatClampNeg) = (-1 : Int32) → ((v3 = (-1 : Int32) → j_X8_leastReason_46 post P5 v1 v2 v4 G_4) ∧ (¬ v3 = (-1 : Int32) → (vp_in v1 13 ∧ ((v3 ≤ (G_4 24 24 v1.toNatClampNeg) → P5 v1 v2 v3 (v4 + (1 : Int32)) G_4) ∧ (¬ v3 ≤ (G_4 24 24 v1.toNatClampNeg) → j_X8_leastReason_46 post P5 v1 v2 v4 G_4))))))))) v4 v2 G_1))) G
def lp_X8_leastReason_5 (post : Int32 → GH → Prop) (v1 v2 v3 v4 : Int32) (G : GH) : Prop := ∀ P5 : Int32 → Int32 → Int32 → Int32 → GH → Prop, (∀ (v1 v2 v3 v4 : Int32) (G : GH), lb_X8_leastReason_5 post P5 v1 v2 v3 v4 G → P5 v1 v2 v3 v4 G) → P5 v1 v2 v3 v4 G
def wp_X8_leastReason (post : Int32 → GH → Prop) (x1 x2 : Int32) (G : GH) : Prop :=
  lp_X8_leastReason_5 post x1 x2 (-1 : Int32) (0 : Int32) G
set_option maxRecDepth 100000 in
set_option maxHeartbeats 4000000 in
theorem kj_X8_leastReason_46 {E : Ev} {X : Cx} {post : Int32 → GH → Prop} {P5 : Int32 → Int32 → Int32 → Int32 → GH → Prop} {v1 v2 v4 : Int32} {G : GH} (F : Fx E X "MarkFieldModel" cX8_leastReason 5) (T : RT E X 9 0 0 (some .int) (pI post)) (K5 : ∀ (v1 v2 v3 v4 : Int32) (G : GH), P5 v1 v2 v3 v4 G → AW E X 5 5 [(0, .ref (sdX X 24 0)), (1, .int v1), (2, .int v2), (3, .int v3), (4, .int v4)] [] G 0 0) (h : j_X8_leastReason_46 post P5 v1 v2 v4 G) : AW E X 5 46 [(0, .ref (sdX X 24 0)), (1, .int v1), (2, .int v2), (4, .int v4)] [] G 0 0 := by
  have hP := F.P
  refine aw_al_n F 0 dX8_leastReason_46 rfl rfl ?_
  refine gr8_23 F (lo_s rfl) (hP _ rfl) rfl w_1183 (hP _ rfl) dX8_leastReason_47 ?_
  refine aw_il_n F 1 dX8_leastReason_50 rfl rfl ?_
  refine aw_iald F 24 24 (lo_s rfl) (hP _ rfl) rfl h.1 dX8_leastReason_51 ?_
  replace h := h.2
  refine aw_top (fun y_8 ey_8 => ?_)
  replace h := h y_8 ey_8
  refine aw_is_n (lv1 := [(3, .int y_8), (0, .ref (sdX X 24 0)), (1, .int v1), (2, .int v2), (4, .int v4)]) F dX8_leastReason_52 rfl (by decide) rfl ?_
  refine aw_inc (lv1 := [(4, .int (v4 + (1 : Int32))), (3, .int y_8), (0, .ref (sdX X 24 0)), (1, .int v1), (2, .int v2)]) F 4 dX8_leastReason_53 rfl (in_1 _) (by decide) rfl ?_
  refine aw_go (tgt := 5) F dX8_leastReason_56 (by decide) ?_
  refine aw_sub [2, 3, 4, 1, 0] rfl ?_
  exact K5 _ _ _ _ _ h
set_option maxRecDepth 100000 in
set_option maxHeartbeats 4000000 in
theorem kl_X8_leastReason_5 {E : Ev} {X : Cx} {post : Int32 → GH → Prop} {v1 v2 v3 v4 : Int32} {G : GH} (F : Fx E X "MarkFieldModel" cX8_leastReason 5) (T : RT E X 9 0 0 (some .int) (pI post)) (h : lp_X8_leastReason_5 post v1 v2 v3 v4 G) : AW E X 5 5 [(0, .ref (sdX X 24 0)), (1, .int v1), (2, .int v2), (3, .int v3), (4, .int v4)] [] G 0 0 := by
  have hP := F.P
  have K5 : ∀ (v1 v2 v3 v4 : Int32) (G : GH), AW E X 5 5 [(0, .ref (sdX X 24 0)), (1, .int v1), (2, .int v2), (3, .int v3), (4, .int v4)] [] G 0 0 → AW E X 5 5 [(0, .ref (sdX X 24 0)), (1, .int v1), (2, .int v2), (3, .int v3), (4, .int v4)] [] G 0 0 := fun _ _ _ _ _ q => q
  refine h (fun (v1 v2 v3 v4 : Int32) (G : GH) => AW E X 5 5 [(0, .ref (sdX X 24 0)), (1, .int v1), (2, .int v2), (3, .int v3), (4, .int v4)] [] G 0 0) (fun (v1 v2 v3 v4 : Int32) (G : GH) h => ?_)
  refine aw_il F 4 dX8_leastReason_5 rfl ?_
  refine aw_al_n F 0 dX8_leastReason_7 rfl rfl ?_
  refine aw_cVi (stk := [.int v4]) F T.room [] (k_X8_halvesMany hP h) mv_X8_halvesMany w_1400 cf8 (lo_s rfl) (hP _ rfl) rfl (by decide) rfl rfl (Nat.le_of_ble_eq_true rfl) ⟨(Nat.le_of_ble_eq_true rfl), (Nat.le_of_ble_eq_true rfl)⟩ ⟨(Nat.le_of_ble_eq_true rfl), (Nat.le_of_ble_eq_true rfl)⟩ dX8_leastReason_8 (fun r_2 G_1 h => ?_)
  refine aw_icmp_ge (tgt := 59) F dX8_leastReason_11 (by decide) (fun c_3 => ?_) (fun c_3 => ?_)
  · replace h := h.1 c_3
    refine aw_il_n F 3 dX8_leastReason_59 rfl rfl ?_
    exact aw_iret F T (Nat.le_of_ble_eq_true rfl) (Nat.le_of_ble_eq_true rfl) ⟨_, rfl, h⟩ dX8_leastReason_60
  · replace h := h.2 c_3
    refine aw_al_n F 0 dX8_leastReason_14 rfl rfl ?_
    refine aw_il F 4 dX8_leastReason_15 rfl ?_
    refine aw_il_n F 2 dX8_leastReason_17 rfl rfl ?_
    refine aw_cVv (stk := []) F T.room [.int v4, .int v2] (k_X8_layHalf hP h) mv_X8_layHalf w_1472 cf8 (lo_s rfl) (hP _ rfl) rfl (by decide) rfl rfl (Nat.le_of_ble_eq_true rfl) ⟨(Nat.le_of_ble_eq_true rfl), (Nat.le_of_ble_eq_true rfl)⟩ ⟨(Nat.le_of_ble_eq_true rfl), (Nat.le_of_ble_eq_true rfl)⟩ dX8_leastReason_18 (fun G_4 h => ?_)
    refine aw_al_n F 0 dX8_leastReason_21 rfl rfl ?_
    refine gr8_23 F (lo_s rfl) (hP _ rfl) rfl w_1183 (hP _ rfl) dX8_leastReason_22 ?_
    refine aw_il_n F 1 dX8_leastReason_25 rfl rfl ?_
    refine aw_iald F 24 24 (lo_s rfl) (hP _ rfl) rfl h.1 dX8_leastReason_26 ?_
    replace h := h.2
    refine aw_ic F dX8_leastReason_27 ic_m1 ?_
    refine aw_icmp_eq (tgt := 53) F dX8_leastReason_28 (by decide) (fun c_6 => ?_) (fun c_6 => ?_)
    · replace h := h.1 c_6
      refine aw_inc (lv1 := [(4, .int (v4 + (1 : Int32))), (0, .ref (sdX X 24 0)), (1, .int v1), (2, .int v2), (3, .int v3)]) F 4 dX8_leastReason_53 rfl (in_1 _) (by decide) rfl ?_
      refine aw_go (tgt := 5) F dX8_leastReason_56 (by decide) ?_
      refine aw_sub [1, 2, 3, 4, 0] rfl ?_
      exact K5 _ _ _ _ _ h
    · replace h := h.2 c_6
      refine aw_il_n F 3 dX8_leastReason_31 rfl rfl ?_
      refine aw_ic F dX8_leastReason_32 ic_m1 ?_
      refine aw_icmp_eq (tgt := 46) F dX8_leastReason_33 (by decide) (fun c_7 => ?_) (fun c_7 => ?_)
      · replace h := h.1 c_7
        refine aw_sub [0, 1, 2, 4] rfl ?_
        exact kj_X8_leastReason_46 F T K5 h
      · replace h := h.2 c_7
        refine aw_al_n F 0 dX8_leastReason_36 rfl rfl ?_
        refine gr8_23 F (lo_s rfl) (hP _ rfl) rfl w_1183 (hP _ rfl) dX8_leastReason_37 ?_
        refine aw_il_n F 1 dX8_leastReason_40 rfl rfl ?_
        refine aw_iald F 24 24 (lo_s rfl) (hP _ rfl) rfl h.1 dX8_leastReason_41 ?_
        replace h := h.2
        refine aw_il_n F 3 dX8_leastReason_42 rfl rfl ?_
        refine aw_icmp_ge (tgt := 53) F dX8_leastReason_43 (by decide) (fun c_9 => ?_) (fun c_9 => ?_)
        · replace h := h.1 c_9
          refine aw_inc (lv1 := [(4, .int (v4 + (1 : Int32))), (0, .ref (sdX X 24 0)), (1, .int v1), (2, .int v2), (3, .int v3)]) F 4 dX8_leastReason_53 rfl (in_1 _) (by decide) rfl ?_
          refine aw_go (tgt := 5) F dX8_leastReason_56 (by decide) ?_
          refine aw_sub [1, 2, 3, 4, 0] rfl ?_
          exact K5 _ _ _ _ _ h
        · replace h := h.2 c_9
          refine aw_sub [0, 1, 2, 4] rfl ?_
          exact kj_X8_leastReason_46 F T K5 h
set_option maxRecDepth 100000 in
set_option maxHeartbeats 4000000 in
theorem k_X8_leastReason {l : Launch} {E : Ev} {P : Nat → Prop} {sd : Nat → Nat → Nat} {G : GH} {post : Int32 → GH → Prop} {x1 x2 : Int32} (hPP : ∀ o, stt o = true → P o) (h : wp_X8_leastReason post x1 x2 G) : Ct l yX8_leastReason cX8_leastReason 5 (some .int) 9 0 0 E P sd G [.ref (sd 24 0), .int x1, .int x2] (pI post) := by
  refine ct_of (own := "MarkFieldModel") (by decide) rfl (Nat.le_of_ble_eq_true rfl) hPP (fun X F T el eP es => ?_)
  subst el; subst eP; subst es
  have hP := F.P
  change AW E X 5 0 [(0, .ref (sdX X 24 0)), (1, .int x1), (2, .int x2)] [] G 0 0
  refine aw_ic F dX8_leastReason_0 ic_m1 ?_
  refine aw_is_n (lv1 := [(3, .int (-1 : Int32)), (0, .ref (sdX X 24 0)), (1, .int x1), (2, .int x2)]) F dX8_leastReason_1 rfl (by decide) rfl ?_
  refine aw_ic F dX8_leastReason_2 ic_0 ?_
  refine aw_is (lv1 := [(4, .int (0 : Int32)), (3, .int (-1 : Int32)), (0, .ref (sdX X 24 0)), (1, .int x1), (2, .int x2)]) F dX8_leastReason_3 (by decide) rfl ?_
  refine aw_sub [2, 3, 4, 1, 0] rfl ?_
  exact kl_X8_leastReason_5 F T h
-- X8_holdsAllOn (height 10)
def wp_X8_holdsAllOn (post : Bool → GH → Prop) (x1 x2 : Int32) (G : GH) : Prop :=
  wp_X8_put (fun (G_1 : GH) => wp_X8_halvesOf (fun (r_4 : Int32) (G_3 : GH) => wp_X8_allHalves (fun (r_6 : Int32) (G_5 : GH) => ((r_4 = r_6 → post true G_5) ∧ (¬ r_4 = r_6 → post false G_5))) G_3) x1 x2 (1 : Int32) G_1) x1 (12 : Int32) x2 G
set_option maxRecDepth 100000 in
set_option maxHeartbeats 4000000 in
theorem k_X8_holdsAllOn {l : Launch} {E : Ev} {P : Nat → Prop} {sd : Nat → Nat → Nat} {G : GH} {post : Bool → GH → Prop} {x1 x2 : Int32} (hPP : ∀ o, stt o = true → P o) (h : wp_X8_holdsAllOn post x1 x2 G) : Ct l yX8_holdsAllOn cX8_holdsAllOn 3 (some .boolean) 10 0 0 E P sd G [.ref (sd 24 0), .int x1, .int x2] (pB post) := by
  refine ct_of (own := "MarkFieldModel") (by decide) rfl (Nat.le_of_ble_eq_true rfl) hPP (fun X F T el eP es => ?_)
  subst el; subst eP; subst es
  have hP := F.P
  change AW E X 3 0 [(0, .ref (sdX X 24 0)), (1, .int x1), (2, .int x2)] [] G 0 0
  refine aw_al_n F 0 dX8_holdsAllOn_0 rfl rfl ?_
  refine aw_il_n F 1 dX8_holdsAllOn_1 rfl rfl ?_
  refine aw_bi F dX8_holdsAllOn_2 bi_12 ?_
  refine aw_il_n F 2 dX8_holdsAllOn_4 rfl rfl ?_
  refine aw_cVv (stk := []) F T.room [.int x1, .int (12 : Int32), .int x2] (k_X8_put hP h) mv_X8_put w_1549 cf8 (lo_s rfl) (hP _ rfl) rfl (by decide) rfl rfl (Nat.le_of_ble_eq_true rfl) ⟨(Nat.le_of_ble_eq_true rfl), (Nat.le_of_ble_eq_true rfl)⟩ ⟨(Nat.le_of_ble_eq_true rfl), (Nat.le_of_ble_eq_true rfl)⟩ dX8_holdsAllOn_5 (fun G_1 h => ?_)
  refine aw_al_n F 0 dX8_holdsAllOn_8 rfl rfl ?_
  refine aw_il_n F 1 dX8_holdsAllOn_9 rfl rfl ?_
  refine aw_il_n F 2 dX8_holdsAllOn_10 rfl rfl ?_
  refine aw_ic F dX8_holdsAllOn_11 ic_1 ?_
  refine aw_cVi (stk := []) F T.room [.int x1, .int x2, .int (1 : Int32)] (k_X8_halvesOf hP h) mv_X8_halvesOf w_1492 cf8 (lo_s rfl) (hP _ rfl) rfl (by decide) rfl rfl (Nat.le_of_ble_eq_true rfl) ⟨(Nat.le_of_ble_eq_true rfl), (Nat.le_of_ble_eq_true rfl)⟩ ⟨(Nat.le_of_ble_eq_true rfl), (Nat.le_of_ble_eq_true rfl)⟩ dX8_holdsAllOn_12 (fun r_4 G_3 h => ?_)
  refine aw_al_n F 0 dX8_holdsAllOn_15 rfl rfl ?_
  refine aw_cVi (stk := [.int r_4]) F T.room [] (k_X8_allHalves hP h) mv_X8_allHalves w_1565 cf8 (lo_s rfl) (hP _ rfl) rfl (by decide) rfl rfl (Nat.le_of_ble_eq_true rfl) ⟨(Nat.le_of_ble_eq_true rfl), (Nat.le_of_ble_eq_true rfl)⟩ ⟨(Nat.le_of_ble_eq_true rfl), (Nat.le_of_ble_eq_true rfl)⟩ dX8_holdsAllOn_16 (fun r_6 G_5 h => ?_)
  refine aw_icmp_ne (tgt := 26) F dX8_holdsAllOn_19 (by decide) (fun c_7 => ?_) (fun c_7 => ?_)
  · replace h := h.2 c_7
    refine aw_ic F dX8_holdsAllOn_26 ic_0 ?_
    exact aw_zret F T false rfl (Nat.le_of_ble_eq_true rfl) (Nat.le_of_ble_eq_true rfl) ⟨_, rfl, h⟩ dX8_holdsAllOn_27
  · replace h := h.1 c_7
    refine aw_ic F dX8_holdsAllOn_22 ic_1 ?_
    refine aw_go (tgt := 27) F dX8_holdsAllOn_23 (by decide) ?_
    exact aw_zret F T true rfl (Nat.le_of_ble_eq_true rfl) (Nat.le_of_ble_eq_true rfl) ⟨_, rfl, h⟩ dX8_holdsAllOn_27
-- X8_firstFree (height 11)
def j_X8_firstFree_66 (post : Int32 → GH → Prop) (P22 : Int32 → Int32 → Int32 → Int32 → GH → Prop) (v1 v2 v3 v4 : Int32) (G : GH) : Prop :=
  (vp_in v4 325 ∧ wp_X8_holdsAllOn (fun (b_11 : Bool) (G_10 : GH) => ((b_11 = false → P22 v1 v2 v3 (v4 + (1 : Int32)) G_10) ∧ (b_11 = true → (vp_in v4 325 ∧ (∀ y_13 : Int32, y_13 = (G_10 24 28 v4.toNatClampNeg) → P22 v1 v2 y_13 (v4 + (1 : Int32)) G_10))))) v1 (G 24 28 v4.toNatClampNeg) G)
def lb_X8_firstFree_22 (post : Int32 → GH → Prop) (P22 : Int32 → Int32 → Int32 → Int32 → GH → Prop) (v1 v2 v3 v4 : Int32) (G : GH) : Prop :=
  (((G 24 0 28) ≤ v4 → post v3 G) ∧ (¬ (G 24 0 28) ≤ v4 → ((v3 = v2 → post v3 G) ∧ (¬ v3 = v2 → (vp_in v4 325 ∧ (((G 24 28 v4.toNatClampNeg) ≤ v2 → P22 v1 v2 v3 (v4 + (1 : Int32)) G) ∧ (¬ (G 24 28 v4.toNatClampNeg) ≤ v2 → ((v3 = (-1 : Int32) → j_X8_firstFree_66 post P22 v1 v2 v3 v4 G) ∧ (¬ v3 = (-1 : Int32) → (vp_in v4 325 ∧ (((G 24 28 v4.toNatClampNeg) < v3 → j_X8_firstFree_66 post P22 v1 v2 v3 v4 G) ∧ (¬ (G 24 28 v4.toNatClampNeg) < v3 → P22 v1 v2 v3 (v4 + (1 : Int32)) G))))))))))))
def lp_X8_firstFree_22 (post : Int32 → GH → Prop) (v1 v2 v3 v4 : Int32) (G : GH) : Prop := ∀ P22 : Int32 → Int32 → Int32 → Int32 → GH → Prop, (∀ (v1 v2 v3 v4 : Int32) (G : GH), lb_X8_firstFree_22 post P22 v1 v2 v3 v4 G → P22 v1 v2 v3 v4 G) → P22 v1 v2 v3 v4 G
def j_X8_firstFree_18 (post : Int32 → GH → Prop) (v1 v2 s0 : Int32) (G : GH) : Prop :=
  lp_X8_firstFree_22 post v1 v2 s0 (0 : Int32) G
def wp_X8_firstFree (post : Int32 → GH → Prop) (x1 x2 : Int32) (G : GH) : Prop :=
  wp_X8_layTurns (fun (G_1 : GH) => wp_X8_holdsAllOn (fun (b_4 : Bool) (G_3 : GH) => ((b_4 = false → j_X8_firstFree_18 post x1 x2 (-1 : Int32) G_3) ∧ (b_4 = true → j_X8_firstFree_18 post x1 x2 x2 G_3))) x1 x2 G_1) G
set_option maxRecDepth 100000 in
set_option maxHeartbeats 4000000 in
theorem kj_X8_firstFree_66 {E : Ev} {X : Cx} {post : Int32 → GH → Prop} {P22 : Int32 → Int32 → Int32 → Int32 → GH → Prop} {v1 v2 v3 v4 : Int32} {G : GH} (F : Fx E X "MarkFieldModel" cX8_firstFree 5) (T : RT E X 11 0 0 (some .int) (pI post)) (K22 : ∀ (v1 v2 v3 v4 : Int32) (G : GH), P22 v1 v2 v3 v4 G → AW E X 5 22 [(0, .ref (sdX X 24 0)), (1, .int v1), (2, .int v2), (3, .int v3), (4, .int v4)] [] G 0 0) (h : j_X8_firstFree_66 post P22 v1 v2 v3 v4 G) : AW E X 5 66 [(0, .ref (sdX X 24 0)), (1, .int v1), (2, .int v2), (3, .int v3), (4, .int v4)] [] G 0 0 := by
  have hP := F.P
  refine aw_al_n F 0 dX8_firstFree_66 rfl rfl ?_
  refine aw_il_n F 1 dX8_firstFree_67 rfl rfl ?_
  refine aw_al_n F 0 dX8_firstFree_68 rfl rfl ?_
  refine gr8_27 F (lo_s rfl) (hP _ rfl) rfl w_1187 (hP _ rfl) dX8_firstFree_69 ?_
  refine aw_il F 4 dX8_firstFree_72 rfl ?_
  refine aw_iald F 24 28 (lo_s rfl) (hP _ rfl) rfl h.1 dX8_firstFree_74 ?_
  replace h := h.2
  refine aw_cVb (stk := []) F T.room [.int v1, .int (G 24 28 v4.toNatClampNeg)] (k_X8_holdsAllOn hP h) mv_X8_holdsAllOn w_1561 cf8 (lo_s rfl) (hP _ rfl) rfl (by decide) rfl rfl (Nat.le_of_ble_eq_true rfl) ⟨(Nat.le_of_ble_eq_true rfl), (Nat.le_of_ble_eq_true rfl)⟩ ⟨(Nat.le_of_ble_eq_true rfl), (Nat.le_of_ble_eq_true rfl)⟩ dX8_firstFree_75 (fun b_11 G_10 h => ?_)
  refine aw_if_eq (tgt := 89) F dX8_firstFree_78 (by decide) (fun c_12 => ?_) (fun c_12 => ?_)
  · replace h := h.1 (bI_2 c_12)
    refine aw_inc (lv1 := [(4, .int (v4 + (1 : Int32))), (0, .ref (sdX X 24 0)), (1, .int v1), (2, .int v2), (3, .int v3)]) F 4 dX8_firstFree_89 rfl (in_1 _) (by decide) rfl ?_
    refine aw_go (tgt := 22) F dX8_firstFree_92 (by decide) ?_
    refine aw_sub [1, 2, 3, 4, 0] rfl ?_
    exact K22 _ _ _ _ _ h
  · replace h := h.2 (bI_1 c_12)
    refine aw_al_n F 0 dX8_firstFree_81 rfl rfl ?_
    refine gr8_27 F (lo_s rfl) (hP _ rfl) rfl w_1187 (hP _ rfl) dX8_firstFree_82 ?_
    refine aw_il F 4 dX8_firstFree_85 rfl ?_
    refine aw_iald F 24 28 (lo_s rfl) (hP _ rfl) rfl h.1 dX8_firstFree_87 ?_
    replace h := h.2
    refine aw_top (fun y_13 ey_13 => ?_)
    replace h := h y_13 ey_13
    refine aw_is_n (lv1 := [(3, .int y_13), (0, .ref (sdX X 24 0)), (1, .int v1), (2, .int v2), (4, .int v4)]) F dX8_firstFree_88 rfl (by decide) rfl ?_
    refine aw_inc (lv1 := [(4, .int (v4 + (1 : Int32))), (3, .int y_13), (0, .ref (sdX X 24 0)), (1, .int v1), (2, .int v2)]) F 4 dX8_firstFree_89 rfl (in_1 _) (by decide) rfl ?_
    refine aw_go (tgt := 22) F dX8_firstFree_92 (by decide) ?_
    refine aw_sub [2, 3, 4, 1, 0] rfl ?_
    exact K22 _ _ _ _ _ h
set_option maxRecDepth 100000 in
set_option maxHeartbeats 4000000 in
theorem kl_X8_firstFree_22 {E : Ev} {X : Cx} {post : Int32 → GH → Prop} {v1 v2 v3 v4 : Int32} {G : GH} (F : Fx E X "MarkFieldModel" cX8_firstFree 5) (T : RT E X 11 0 0 (some .int) (pI post)) (h : lp_X8_firstFree_22 post v1 v2 v3 v4 G) : AW E X 5 22 [(0, .ref (sdX X 24 0)), (1, .int v1), (2, .int v2), (3, .int v3), (4, .int v4)] [] G 0 0 := by
  have hP := F.P
  have K22 : ∀ (v1 v2 v3 v4 : Int32) (G : GH), AW E X 5 22 [(0, .ref (sdX X 24 0)), (1, .int v1), (2, .int v2), (3, .int v3), (4, .int v4)] [] G 0 0 → AW E X 5 22 [(0, .ref (sdX X 24 0)), (1, .int v1), (2, .int v2), (3, .int v3), (4, .int v4)] [] G 0 0 := fun _ _ _ _ _ q => q
  refine h (fun (v1 v2 v3 v4 : Int32) (G : GH) => AW E X 5 22 [(0, .ref (sdX X 24 0)), (1, .int v1), (2, .int v2), (3, .int v3), (4, .int v4)] [] G 0 0) (fun (v1 v2 v3 v4 : Int32) (G : GH) h => ?_)
  refine aw_il F 4 dX8_firstFree_22 rfl ?_
  refine aw_al_n F 0 dX8_firstFree_24 rfl rfl ?_
  refine gf8_28 F (lo_s rfl) (hP _ rfl) rfl w_1188 dX8_firstFree_25 ?_
  refine aw_icmp_ge (tgt := 95) F dX8_firstFree_28 (by decide) (fun c_6 => ?_) (fun c_6 => ?_)
  · replace h := h.1 c_6
    refine aw_il_n F 3 dX8_firstFree_95 rfl rfl ?_
    exact aw_iret F T (Nat.le_of_ble_eq_true rfl) (Nat.le_of_ble_eq_true rfl) ⟨_, rfl, h⟩ dX8_firstFree_96
  · replace h := h.2 c_6
    refine aw_il_n F 3 dX8_firstFree_31 rfl rfl ?_
    refine aw_il_n F 2 dX8_firstFree_32 rfl rfl ?_
    refine aw_icmp_eq (tgt := 95) F dX8_firstFree_33 (by decide) (fun c_7 => ?_) (fun c_7 => ?_)
    · replace h := h.1 c_7
      refine aw_il_n F 3 dX8_firstFree_95 rfl rfl ?_
      exact aw_iret F T (Nat.le_of_ble_eq_true rfl) (Nat.le_of_ble_eq_true rfl) ⟨_, rfl, h⟩ dX8_firstFree_96
    · replace h := h.2 c_7
      refine aw_al_n F 0 dX8_firstFree_36 rfl rfl ?_
      refine gr8_27 F (lo_s rfl) (hP _ rfl) rfl w_1187 (hP _ rfl) dX8_firstFree_37 ?_
      refine aw_il F 4 dX8_firstFree_40 rfl ?_
      refine aw_iald F 24 28 (lo_s rfl) (hP _ rfl) rfl h.1 dX8_firstFree_42 ?_
      replace h := h.2
      refine aw_il_n F 2 dX8_firstFree_43 rfl rfl ?_
      refine aw_icmp_le (tgt := 89) F dX8_firstFree_44 (by decide) (fun c_8 => ?_) (fun c_8 => ?_)
      · replace h := h.1 c_8
        refine aw_inc (lv1 := [(4, .int (v4 + (1 : Int32))), (0, .ref (sdX X 24 0)), (1, .int v1), (2, .int v2), (3, .int v3)]) F 4 dX8_firstFree_89 rfl (in_1 _) (by decide) rfl ?_
        refine aw_go (tgt := 22) F dX8_firstFree_92 (by decide) ?_
        refine aw_sub [1, 2, 3, 4, 0] rfl ?_
        exact K22 _ _ _ _ _ h
      · replace h := h.2 c_8
        refine aw_il_n F 3 dX8_firstFree_47 rfl rfl ?_
        refine aw_ic F dX8_firstFree_48 ic_m1 ?_
        refine aw_icmp_eq (tgt := 66) F dX8_firstFree_49 (by decide) (fun c_9 => ?_) (fun c_9 => ?_)
        · replace h := h.1 c_9
          exact kj_X8_firstFree_66 F T K22 h
        · replace h := h.2 c_9
          refine aw_al_n F 0 dX8_firstFree_52 rfl rfl ?_
          refine gr8_27 F (lo_s rfl) (hP _ rfl) rfl w_1187 (hP _ rfl) dX8_firstFree_53 ?_
          refine aw_il F 4 dX8_firstFree_56 rfl ?_
          refine aw_iald F 24 28 (lo_s rfl) (hP _ rfl) rfl h.1 dX8_firstFree_58 ?_
          replace h := h.2
          refine aw_il_n F 3 dX8_firstFree_59 rfl rfl ?_
          refine aw_icmp_lt (tgt := 66) F dX8_firstFree_60 (by decide) (fun c_14 => ?_) (fun c_14 => ?_)
          · replace h := h.1 c_14
            exact kj_X8_firstFree_66 F T K22 h
          · replace h := h.2 c_14
            refine aw_go (tgt := 89) F dX8_firstFree_63 (by decide) ?_
            refine aw_inc (lv1 := [(4, .int (v4 + (1 : Int32))), (0, .ref (sdX X 24 0)), (1, .int v1), (2, .int v2), (3, .int v3)]) F 4 dX8_firstFree_89 rfl (in_1 _) (by decide) rfl ?_
            refine aw_go (tgt := 22) F dX8_firstFree_92 (by decide) ?_
            refine aw_sub [1, 2, 3, 4, 0] rfl ?_
            exact K22 _ _ _ _ _ h
set_option maxRecDepth 100000 in
set_option maxHeartbeats 4000000 in
theorem kj_X8_firstFree_18 {E : Ev} {X : Cx} {post : Int32 → GH → Prop} {v1 v2 s0 : Int32} {G : GH} (F : Fx E X "MarkFieldModel" cX8_firstFree 5) (T : RT E X 11 0 0 (some .int) (pI post)) (h : j_X8_firstFree_18 post v1 v2 s0 G) : AW E X 5 18 [(0, .ref (sdX X 24 0)), (1, .int v1), (2, .int v2)] [.int s0] G 0 0 := by
  have hP := F.P
  refine aw_is_n (lv1 := [(3, .int s0), (0, .ref (sdX X 24 0)), (1, .int v1), (2, .int v2)]) F dX8_firstFree_18 rfl (by decide) rfl ?_
  refine aw_ic F dX8_firstFree_19 ic_0 ?_
  refine aw_is (lv1 := [(4, .int (0 : Int32)), (3, .int s0), (0, .ref (sdX X 24 0)), (1, .int v1), (2, .int v2)]) F dX8_firstFree_20 (by decide) rfl ?_
  refine aw_sub [2, 3, 4, 1, 0] rfl ?_
  exact kl_X8_firstFree_22 F T h
set_option maxRecDepth 100000 in
set_option maxHeartbeats 4000000 in
theorem k_X8_firstFree {l : Launch} {E : Ev} {P : Nat → Prop} {sd : Nat → Nat → Nat} {G : GH} {post : Int32 → GH → Prop} {x1 x2 : Int32} (hPP : ∀ o, stt o = true → P o) (h : wp_X8_firstFree post x1 x2 G) : Ct l yX8_firstFree cX8_firstFree 5 (some .int) 11 0 0 E P sd G [.ref (sd 24 0), .int x1, .int x2] (pI post) := by
  refine ct_of (own := "MarkFieldModel") (by decide) rfl (Nat.le_of_ble_eq_true rfl) hPP (fun X F T el eP es => ?_)
  subst el; subst eP; subst es
  have hP := F.P
  change AW E X 5 0 [(0, .ref (sdX X 24 0)), (1, .int x1), (2, .int x2)] [] G 0 0
  refine aw_al_n F 0 dX8_firstFree_0 rfl rfl ?_
  refine aw_cVv (stk := []) F T.room [] (k_X8_layTurns hP h) mv_X8_layTurns w_1520 cf8 (lo_s rfl) (hP _ rfl) rfl (by decide) rfl rfl (Nat.le_of_ble_eq_true rfl) ⟨(Nat.le_of_ble_eq_true rfl), (Nat.le_of_ble_eq_true rfl)⟩ ⟨(Nat.le_of_ble_eq_true rfl), (Nat.le_of_ble_eq_true rfl)⟩ dX8_firstFree_1 (fun G_1 h => ?_)
  refine aw_al_n F 0 dX8_firstFree_4 rfl rfl ?_
  refine aw_il_n F 1 dX8_firstFree_5 rfl rfl ?_
  refine aw_il_n F 2 dX8_firstFree_6 rfl rfl ?_
  refine aw_cVb (stk := []) F T.room [.int x1, .int x2] (k_X8_holdsAllOn hP h) mv_X8_holdsAllOn w_1561 cf8 (lo_s rfl) (hP _ rfl) rfl (by decide) rfl rfl (Nat.le_of_ble_eq_true rfl) ⟨(Nat.le_of_ble_eq_true rfl), (Nat.le_of_ble_eq_true rfl)⟩ ⟨(Nat.le_of_ble_eq_true rfl), (Nat.le_of_ble_eq_true rfl)⟩ dX8_firstFree_7 (fun b_4 G_3 h => ?_)
  refine aw_if_eq (tgt := 17) F dX8_firstFree_10 (by decide) (fun c_5 => ?_) (fun c_5 => ?_)
  · replace h := h.1 (bI_2 c_5)
    refine aw_ic F dX8_firstFree_17 ic_m1 ?_
    exact kj_X8_firstFree_18 F T h
  · replace h := h.2 (bI_1 c_5)
    refine aw_il_n F 2 dX8_firstFree_13 rfl rfl ?_
    refine aw_go (tgt := 18) F dX8_firstFree_14 (by decide) ?_
    exact kj_X8_firstFree_18 F T h
-- X8_would (height 12)
def j_X8_would_162 (post : Int32 → GH → Prop) (v6 : Int32) (G : GH) : Prop :=
  wp_X8_goesAway (fun (G_17 : GH) => post v6 G_17) G
def j_X8_would_50 (post : Int32 → GH → Prop) (v1 v2 v3 v4 s1 : Int32) (G : GH) : Prop :=
  (∀ G_7 : GH, G_7 = gs G 24 0 (upd (G 24 0) 5 s1) → (((G_7 24 0 5) ≤ 0 → wp_X8_takesName (fun (b_10 : Bool) (G_9 : GH) => ((b_10 = false → post (-1000000000 : Int32) G_9) ∧ (b_10 = true → wp_X8_adds (fun (r_13 : Int32) (G_12 : GH) => (((v4.toInt < 0 ∨ 2 < v4.toInt) → wp_X8_firstFree (fun (r_16 : Int32) (G_15 : GH) => j_X8_would_162 post r_16 G_15) r_13 v3 G_12) ∧ (v4 = (0 : Int32) → wp_X8_halvesOf (fun (r_21 : Int32) (G_20 : GH) => j_X8_would_162 post r_21 G_20) r_13 v3 (1 : Int32) G_12) ∧ (v4 = (1 : Int32) → wp_X8_leastReason (fun (r_24 : Int32) (G_23 : GH) => j_X8_would_162 post r_24 G_23) r_13 v3 G_12) ∧ (v4 = (2 : Int32) → wp_X8_lay (fun (G_26 : GH) => (vp_in r_13 13 ∧ (∀ y_28 : Int32, y_28 = (G_26 24 18 r_13.toNatClampNeg) → j_X8_would_162 post y_28 G_26))) G_12))) v2 v3 G_9))) v1 G_7) ∧ (¬ (G_7 24 0 5) ≤ 0 → post (0 : Int32) G_7)))
def j_X8_would_45 (post : Int32 → GH → Prop) (v1 v2 v3 v4 : Int32) (G : GH) : Prop :=
  j_X8_would_50 post v1 v2 v3 v4 (2 : Int32) G
def wp_X8_would (post : Int32 → GH → Prop) (x1 x2 x3 x4 : Int32) (G : GH) : Prop :=
  wp_X8_within (fun (b_2 : Bool) (G_1 : GH) => ((b_2 = false → j_X8_would_50 post x1 x2 x3 x4 (1 : Int32) G_1) ∧ (b_2 = true → wp_X8_within (fun (b_5 : Bool) (G_4 : GH) => ((b_5 = false → j_X8_would_45 post x1 x2 x3 x4 G_4) ∧ (b_5 = true → wp_X8_isDay (fun (b_30 : Bool) (G_29 : GH) => ((b_30 = false → j_X8_would_45 post x1 x2 x3 x4 G_29) ∧ (b_30 = true → wp_X8_within (fun (b_33 : Bool) (G_32 : GH) => ((b_33 = false → j_X8_would_45 post x1 x2 x3 x4 G_32) ∧ (b_33 = true → j_X8_would_50 post x1 x2 x3 x4 (0 : Int32) G_32))) x1 (0 : Int32) (G_29 24 0 32) G_29))) x3 G_4))) x2 (0 : Int32) (1023 : Int32) G_1))) x4 (0 : Int32) (3 : Int32) G
set_option maxRecDepth 100000 in
set_option maxHeartbeats 4000000 in
theorem kj_X8_would_162 {E : Ev} {X : Cx} {post : Int32 → GH → Prop} {v6 : Int32} {G : GH} (F : Fx E X "MarkFieldModel" cX8_would 7) (T : RT E X 12 0 0 (some .int) (pI post)) (h : j_X8_would_162 post v6 G) : AW E X 7 162 [(0, .ref (sdX X 24 0)), (6, .int v6)] [] G 0 0 := by
  have hP := F.P
  refine aw_al_n F 0 dX8_would_162 rfl rfl ?_
  refine aw_cVv (stk := []) F T.room [] (k_X8_goesAway hP h) mv_X8_goesAway w_1569 cf8 (lo_s rfl) (hP _ rfl) rfl (by decide) rfl rfl (Nat.le_of_ble_eq_true rfl) ⟨(Nat.le_of_ble_eq_true rfl), (Nat.le_of_ble_eq_true rfl)⟩ ⟨(Nat.le_of_ble_eq_true rfl), (Nat.le_of_ble_eq_true rfl)⟩ dX8_would_163 (fun G_17 h => ?_)
  refine aw_il F 1 dX8_would_166 rfl ?_
  exact aw_iret F T (Nat.le_of_ble_eq_true rfl) (Nat.le_of_ble_eq_true rfl) ⟨_, rfl, h⟩ dX8_would_168
set_option maxRecDepth 100000 in
set_option maxHeartbeats 4000000 in
theorem kj_X8_would_50 {E : Ev} {X : Cx} {post : Int32 → GH → Prop} {v1 v2 v3 v4 s1 : Int32} {G : GH} (F : Fx E X "MarkFieldModel" cX8_would 7) (T : RT E X 12 0 0 (some .int) (pI post)) (h : j_X8_would_50 post v1 v2 v3 v4 s1 G) : AW E X 7 50 [(0, .ref (sdX X 24 0)), (1, .int v1), (2, .int v2), (3, .int v3), (4, .int v4)] [.int s1, .ref (sdX X 24 0)] G 0 0 := by
  have hP := F.P
  refine pf8_5 F (lo_s rfl) (hP _ rfl) rfl w_1165 dX8_would_50 (fun G_7 eG_7 => ?_)
  replace h := h G_7 eG_7
  refine aw_al_n F 0 dX8_would_53 rfl rfl ?_
  refine gf8_5 F (lo_s rfl) (hP _ rfl) rfl w_1165 dX8_would_54 ?_
  refine aw_if_le (tgt := 62) F dX8_would_57 (by decide) (fun c_8 => ?_) (fun c_8 => ?_)
  · replace h := h.1 c_8
    refine aw_al_n F 0 dX8_would_62 rfl rfl ?_
    refine aw_il_n F 1 dX8_would_63 rfl rfl ?_
    refine aw_cVb (stk := []) F T.room [.int v1] (k_X8_takesName hP h) mv_X8_takesName w_1540 cf8 (lo_s rfl) (hP _ rfl) rfl (by decide) rfl rfl (Nat.le_of_ble_eq_true rfl) ⟨(Nat.le_of_ble_eq_true rfl), (Nat.le_of_ble_eq_true rfl)⟩ ⟨(Nat.le_of_ble_eq_true rfl), (Nat.le_of_ble_eq_true rfl)⟩ dX8_would_64 (fun b_10 G_9 h => ?_)
    refine aw_if_ne (tgt := 74) F dX8_would_67 (by decide) (fun c_11 => ?_) (fun c_11 => ?_)
    · replace h := h.2 (bI_1 c_11)
      refine aw_al_n F 0 dX8_would_74 rfl rfl ?_
      refine aw_il_n F 2 dX8_would_75 rfl rfl ?_
      refine aw_il_n F 3 dX8_would_76 rfl rfl ?_
      refine aw_cVi (stk := []) F T.room [.int v2, .int v3] (k_X8_adds hP h) mv_X8_adds w_1545 cf8 (lo_s rfl) (hP _ rfl) rfl (by decide) rfl rfl (Nat.le_of_ble_eq_true rfl) ⟨(Nat.le_of_ble_eq_true rfl), (Nat.le_of_ble_eq_true rfl)⟩ ⟨(Nat.le_of_ble_eq_true rfl), (Nat.le_of_ble_eq_true rfl)⟩ dX8_would_77 (fun r_13 G_12 h => ?_)
      refine aw_is (lv1 := [(5, .int r_13), (0, .ref (sdX X 24 0)), (1, .int v1), (2, .int v2), (3, .int v3), (4, .int v4)]) F dX8_would_80 (by decide) rfl ?_
      refine aw_ic F dX8_would_82 ic_0 ?_
      refine aw_is (lv1 := [(6, .int (0 : Int32)), (5, .int r_13), (0, .ref (sdX X 24 0)), (1, .int v1), (2, .int v2), (3, .int v3), (4, .int v4)]) F dX8_would_83 (by decide) rfl ?_
      refine aw_il F 6 dX8_would_85 rfl ?_
      by_cases c_14 : v4.toInt < 0 ∨ 2 < v4.toInt
      · replace h := h.1 c_14
        refine aw_tabO (tgt := 153) F dX8_would_87 c_14 (by decide) ?_
        refine aw_al_n F 2 dX8_would_153 rfl rfl ?_
        refine aw_il F 1 dX8_would_154 rfl ?_
        refine aw_il_n F 5 dX8_would_156 rfl rfl ?_
        refine aw_cVi (stk := []) F T.room [.int r_13, .int v3] (k_X8_firstFree hP h) mv_X8_firstFree w_1557 cf8 (lo_s rfl) (hP _ rfl) rfl (by decide) rfl rfl (Nat.le_of_ble_eq_true rfl) ⟨(Nat.le_of_ble_eq_true rfl), (Nat.le_of_ble_eq_true rfl)⟩ ⟨(Nat.le_of_ble_eq_true rfl), (Nat.le_of_ble_eq_true rfl)⟩ dX8_would_157 (fun r_16 G_15 h => ?_)
        refine aw_is (lv1 := [(6, .int r_16), (5, .int r_13), (0, .ref (sdX X 24 0)), (1, .int v1), (2, .int v2), (3, .int v3), (4, .int v4)]) F dX8_would_160 (by decide) rfl ?_
        refine aw_sub [2, 0] rfl ?_
        exact kj_X8_would_162 F T h
      · replace h := h.2
        by_cases c_19 : v4 = (0 : Int32)
        · replace h := h.1 c_19
          refine aw_tabI (tgt := 112) F dX8_would_87 (by rw [c_19]; decide) (by rw [c_19]; decide) (by rw [c_19]; rfl) (by decide) ?_
          refine aw_al_n F 2 dX8_would_112 rfl rfl ?_
          refine aw_il F 1 dX8_would_113 rfl ?_
          refine aw_il_n F 5 dX8_would_115 rfl rfl ?_
          refine aw_ic F dX8_would_116 ic_1 ?_
          refine aw_cVi (stk := []) F T.room [.int r_13, .int v3, .int (1 : Int32)] (k_X8_halvesOf hP h) mv_X8_halvesOf w_1492 cf8 (lo_s rfl) (hP _ rfl) rfl (by decide) rfl rfl (Nat.le_of_ble_eq_true rfl) ⟨(Nat.le_of_ble_eq_true rfl), (Nat.le_of_ble_eq_true rfl)⟩ ⟨(Nat.le_of_ble_eq_true rfl), (Nat.le_of_ble_eq_true rfl)⟩ dX8_would_117 (fun r_21 G_20 h => ?_)
          refine aw_is (lv1 := [(6, .int r_21), (5, .int r_13), (0, .ref (sdX X 24 0)), (1, .int v1), (2, .int v2), (3, .int v3), (4, .int v4)]) F dX8_would_120 (by decide) rfl ?_
          refine aw_go (tgt := 162) F dX8_would_122 (by decide) ?_
          refine aw_sub [2, 0] rfl ?_
          exact kj_X8_would_162 F T h
        replace h := h.2
        by_cases c_22 : v4 = (1 : Int32)
        · replace h := h.1 c_22
          refine aw_tabI (tgt := 125) F dX8_would_87 (by rw [c_22]; decide) (by rw [c_22]; decide) (by rw [c_22]; rfl) (by decide) ?_
          refine aw_al_n F 2 dX8_would_125 rfl rfl ?_
          refine aw_il F 1 dX8_would_126 rfl ?_
          refine aw_il_n F 5 dX8_would_128 rfl rfl ?_
          refine aw_cVi (stk := []) F T.room [.int r_13, .int v3] (k_X8_leastReason hP h) mv_X8_leastReason w_1553 cf8 (lo_s rfl) (hP _ rfl) rfl (by decide) rfl rfl (Nat.le_of_ble_eq_true rfl) ⟨(Nat.le_of_ble_eq_true rfl), (Nat.le_of_ble_eq_true rfl)⟩ ⟨(Nat.le_of_ble_eq_true rfl), (Nat.le_of_ble_eq_true rfl)⟩ dX8_would_129 (fun r_24 G_23 h => ?_)
          refine aw_is (lv1 := [(6, .int r_24), (5, .int r_13), (0, .ref (sdX X 24 0)), (1, .int v1), (2, .int v2), (3, .int v3), (4, .int v4)]) F dX8_would_132 (by decide) rfl ?_
          refine aw_go (tgt := 162) F dX8_would_134 (by decide) ?_
          refine aw_sub [2, 0] rfl ?_
          exact kj_X8_would_162 F T h
        replace h := h.2
        by_cases c_25 : v4 = (2 : Int32)
        · replace h := h c_25
          refine aw_tabI (tgt := 137) F dX8_would_87 (by rw [c_25]; decide) (by rw [c_25]; decide) (by rw [c_25]; rfl) (by decide) ?_
          refine aw_al_n F 2 dX8_would_137 rfl rfl ?_
          refine aw_cVv (stk := []) F T.room [] (k_X8_lay hP h) mv_X8_lay w_1301 cf8 (lo_s rfl) (hP _ rfl) rfl (by decide) rfl rfl (Nat.le_of_ble_eq_true rfl) ⟨(Nat.le_of_ble_eq_true rfl), (Nat.le_of_ble_eq_true rfl)⟩ ⟨(Nat.le_of_ble_eq_true rfl), (Nat.le_of_ble_eq_true rfl)⟩ dX8_would_138 (fun G_26 h => ?_)
          refine aw_al_n F 2 dX8_would_141 rfl rfl ?_
          refine gr8_17 F (lo_s rfl) (hP _ rfl) rfl w_1177 (hP _ rfl) dX8_would_142 ?_
          refine aw_il F 1 dX8_would_145 rfl ?_
          refine aw_iald F 24 18 (lo_s rfl) (hP _ rfl) rfl h.1 dX8_would_147 ?_
          replace h := h.2
          refine aw_top (fun y_28 ey_28 => ?_)
          replace h := h y_28 ey_28
          refine aw_is (lv1 := [(6, .int y_28), (5, .int r_13), (0, .ref (sdX X 24 0)), (1, .int v1), (2, .int v2), (3, .int v3), (4, .int v4)]) F dX8_would_148 (by decide) rfl ?_
          refine aw_go (tgt := 162) F dX8_would_150 (by decide) ?_
          refine aw_sub [2, 0] rfl ?_
          exact kj_X8_would_162 F T h
        exfalso
        have qc_19 := ne_ti c_19 (show (0 : Int32).toInt = 0 by decide)
        have qc_22 := ne_ti c_22 (show (1 : Int32).toInt = 1 by decide)
        have qc_25 := ne_ti c_25 (show (2 : Int32).toInt = 2 by decide)
        omega
    · replace h := h.1 (bI_2 c_11)
      refine aw_ldcw F dX8_would_70 w_1544 ?_
      exact aw_iret F T (Nat.le_of_ble_eq_true rfl) (Nat.le_of_ble_eq_true rfl) ⟨_, rfl, h⟩ dX8_would_73
  · replace h := h.2 c_8
    refine aw_ic F dX8_would_60 ic_0 ?_
    exact aw_iret F T (Nat.le_of_ble_eq_true rfl) (Nat.le_of_ble_eq_true rfl) ⟨_, rfl, h⟩ dX8_would_61
set_option maxRecDepth 100000 in
set_option maxHeartbeats 4000000 in
theorem kj_X8_would_45 {E : Ev} {X : Cx} {post : Int32 → GH → Prop} {v1 v2 v3 v4 : Int32} {G : GH} (F : Fx E X "MarkFieldModel" cX8_would 7) (T : RT E X 12 0 0 (some .int) (pI post)) (h : j_X8_would_45 post v1 v2 v3 v4 G) : AW E X 7 45 [(0, .ref (sdX X 24 0)), (1, .int v1), (2, .int v2), (3, .int v3), (4, .int v4)] [.ref (sdX X 24 0)] G 0 0 := by
  have hP := F.P
  refine aw_ic F dX8_would_45 ic_2 ?_
  refine aw_go (tgt := 50) F dX8_would_46 (by decide) ?_
  exact kj_X8_would_50 F T h
set_option maxRecDepth 100000 in
set_option maxHeartbeats 4000000 in
theorem k_X8_would {l : Launch} {E : Ev} {P : Nat → Prop} {sd : Nat → Nat → Nat} {G : GH} {post : Int32 → GH → Prop} {x1 x2 x3 x4 : Int32} (hPP : ∀ o, stt o = true → P o) (h : wp_X8_would post x1 x2 x3 x4 G) : Ct l yX8_would cX8_would 7 (some .int) 12 0 0 E P sd G [.ref (sd 24 0), .int x1, .int x2, .int x3, .int x4] (pI post) := by
  refine ct_of (own := "MarkFieldModel") (by decide) rfl (Nat.le_of_ble_eq_true rfl) hPP (fun X F T el eP es => ?_)
  subst el; subst eP; subst es
  have hP := F.P
  change AW E X 7 0 [(0, .ref (sdX X 24 0)), (1, .int x1), (2, .int x2), (3, .int x3), (4, .int x4)] [] G 0 0
  refine aw_al_n F 0 dX8_would_0 rfl rfl ?_
  refine aw_il F 4 dX8_would_1 rfl ?_
  refine aw_ic F dX8_would_3 ic_0 ?_
  refine aw_ic F dX8_would_4 ic_3 ?_
  refine aw_cSb (stk := [.ref (sdX X 24 0)]) F T.room [.int x4, .int (0 : Int32), .int (3 : Int32)] (k_X8_within hP h) ms_X8_within w_1427 rfl rfl (Nat.le_of_ble_eq_true rfl) ⟨(Nat.le_of_ble_eq_true rfl), (Nat.le_of_ble_eq_true rfl)⟩ ⟨(Nat.le_of_ble_eq_true rfl), (Nat.le_of_ble_eq_true rfl)⟩ dX8_would_5 (fun b_2 G_1 h => ?_)
  refine aw_if_ne (tgt := 15) F dX8_would_8 (by decide) (fun c_3 => ?_) (fun c_3 => ?_)
  · replace h := h.2 (bI_1 c_3)
    refine aw_il_n F 2 dX8_would_15 rfl rfl ?_
    refine aw_ic F dX8_would_16 ic_0 ?_
    refine aw_si F dX8_would_17 si_1023 ?_
    refine aw_cSb (stk := [.ref (sdX X 24 0)]) F T.room [.int x2, .int (0 : Int32), .int (1023 : Int32)] (k_X8_within hP h) ms_X8_within w_1427 rfl rfl (Nat.le_of_ble_eq_true rfl) ⟨(Nat.le_of_ble_eq_true rfl), (Nat.le_of_ble_eq_true rfl)⟩ ⟨(Nat.le_of_ble_eq_true rfl), (Nat.le_of_ble_eq_true rfl)⟩ dX8_would_20 (fun b_5 G_4 h => ?_)
    refine aw_if_eq (tgt := 45) F dX8_would_23 (by decide) (fun c_6 => ?_) (fun c_6 => ?_)
    · replace h := h.1 (bI_2 c_6)
      exact kj_X8_would_45 F T h
    · replace h := h.2 (bI_1 c_6)
      refine aw_il_n F 3 dX8_would_26 rfl rfl ?_
      refine aw_cSb (stk := [.ref (sdX X 24 0)]) F T.room [.int x3] (k_X8_isDay hP h) ms_X8_isDay w_1461 rfl rfl (Nat.le_of_ble_eq_true rfl) ⟨(Nat.le_of_ble_eq_true rfl), (Nat.le_of_ble_eq_true rfl)⟩ ⟨(Nat.le_of_ble_eq_true rfl), (Nat.le_of_ble_eq_true rfl)⟩ dX8_would_27 (fun b_30 G_29 h => ?_)
      refine aw_if_eq (tgt := 45) F dX8_would_30 (by decide) (fun c_31 => ?_) (fun c_31 => ?_)
      · replace h := h.1 (bI_2 c_31)
        exact kj_X8_would_45 F T h
      · replace h := h.2 (bI_1 c_31)
        refine aw_il_n F 1 dX8_would_33 rfl rfl ?_
        refine aw_ic F dX8_would_34 ic_0 ?_
        refine aw_al_n F 0 dX8_would_35 rfl rfl ?_
        refine gf8_32 F (lo_s rfl) (hP _ rfl) rfl w_1192 dX8_would_36 ?_
        refine aw_cSb (stk := [.ref (sdX X 24 0)]) F T.room [.int x1, .int (0 : Int32), .int (G_29 24 0 32)] (k_X8_within hP h) ms_X8_within w_1427 rfl rfl (Nat.le_of_ble_eq_true rfl) ⟨(Nat.le_of_ble_eq_true rfl), (Nat.le_of_ble_eq_true rfl)⟩ ⟨(Nat.le_of_ble_eq_true rfl), (Nat.le_of_ble_eq_true rfl)⟩ dX8_would_39 (fun b_33 G_32 h => ?_)
        refine aw_if_ne (tgt := 49) F dX8_would_42 (by decide) (fun c_34 => ?_) (fun c_34 => ?_)
        · replace h := h.2 (bI_1 c_34)
          refine aw_ic F dX8_would_49 ic_0 ?_
          exact kj_X8_would_50 F T h
        · replace h := h.1 (bI_2 c_34)
          exact kj_X8_would_45 F T h
  · replace h := h.1 (bI_2 c_3)
    refine aw_ic F dX8_would_11 ic_1 ?_
    refine aw_go (tgt := 50) F dX8_would_12 (by decide) ?_
    exact kj_X8_would_50 F T h
-- X8_free (height 10)
def j_X8_free_94 (post : Int32 → GH → Prop) (P54 : Int32 → Int32 → Int32 → GH → Prop) (v2 v3 v4 : Int32) (G : GH) : Prop :=
  wp_X8_goesAway (fun (G_17 : GH) => P54 v2 v3 (v4 + (1 : Int32)) G_17) G
def lb_X8_free_54 (post : Int32 → GH → Prop) (P54 : Int32 → Int32 → Int32 → GH → Prop) (v2 v3 v4 : Int32) (G : GH) : Prop :=
  (((10 : Int32) ≤ v4 → post v3 G) ∧ (¬ (10 : Int32) ≤ v4 → wp_X8_adds (fun (r_11 : Int32) (G_10 : GH) => wp_X8_halvesOf (fun (r_13 : Int32) (G_12 : GH) => wp_X8_allHalves (fun (r_15 : Int32) (G_14 : GH) => ((r_13 = r_15 → (∀ y_19 : Int32, y_19 = (v3 ||| ((1 : Int32) <<< (v4 &&& 31))) → j_X8_free_94 post P54 v2 y_19 v4 G_14)) ∧ (¬ r_13 = r_15 → j_X8_free_94 post P54 v2 v3 v4 G_14))) G_12) r_11 v2 (1 : Int32) G_10) ((1 : Int32) <<< (v4 &&& 31)) v2 G))
def lp_X8_free_54 (post : Int32 → GH → Prop) (v2 v3 v4 : Int32) (G : GH) : Prop := ∀ P54 : Int32 → Int32 → Int32 → GH → Prop, (∀ (v2 v3 v4 : Int32) (G : GH), lb_X8_free_54 post P54 v2 v3 v4 G → P54 v2 v3 v4 G) → P54 v2 v3 v4 G
def j_X8_free_25 (post : Int32 → GH → Prop) (v1 v2 s1 : Int32) (G : GH) : Prop :=
  (∀ G_4 : GH, G_4 = gs G 24 0 (upd (G 24 0) 5 s1) → (((G_4 24 0 5) ≤ 0 → wp_X8_takesName (fun (b_7 : Bool) (G_6 : GH) => ((b_7 = false → post (-1000000000 : Int32) G_6) ∧ (b_7 = true → lp_X8_free_54 post v2 (0 : Int32) (0 : Int32) G_6))) v1 G_4) ∧ (¬ (G_4 24 0 5) ≤ 0 → post (0 : Int32) G_4)))
def j_X8_free_20 (post : Int32 → GH → Prop) (v1 v2 : Int32) (G : GH) : Prop :=
  j_X8_free_25 post v1 v2 (1 : Int32) G
def wp_X8_free (post : Int32 → GH → Prop) (x1 x2 : Int32) (G : GH) : Prop :=
  wp_X8_isDay (fun (b_2 : Bool) (G_1 : GH) => ((b_2 = false → j_X8_free_20 post x1 x2 G_1) ∧ (b_2 = true → wp_X8_within (fun (b_21 : Bool) (G_20 : GH) => ((b_21 = false → j_X8_free_20 post x1 x2 G_20) ∧ (b_21 = true → j_X8_free_25 post x1 x2 (0 : Int32) G_20))) x1 (0 : Int32) (G_1 24 0 32) G_1))) x2 G
set_option maxRecDepth 100000 in
set_option maxHeartbeats 4000000 in
theorem kj_X8_free_94 {E : Ev} {X : Cx} {post : Int32 → GH → Prop} {P54 : Int32 → Int32 → Int32 → GH → Prop} {v2 v3 v4 : Int32} {G : GH} (F : Fx E X "MarkFieldModel" cX8_free 6) (T : RT E X 10 0 0 (some .int) (pI post)) (K54 : ∀ (v2 v3 v4 : Int32) (G : GH), P54 v2 v3 v4 G → AW E X 6 54 [(0, .ref (sdX X 24 0)), (2, .int v2), (3, .int v3), (4, .int v4)] [] G 0 0) (h : j_X8_free_94 post P54 v2 v3 v4 G) : AW E X 6 94 [(0, .ref (sdX X 24 0)), (2, .int v2), (3, .int v3), (4, .int v4)] [] G 0 0 := by
  have hP := F.P
  refine aw_al_n F 0 dX8_free_94 rfl rfl ?_
  refine aw_cVv (stk := []) F T.room [] (k_X8_goesAway hP h) mv_X8_goesAway w_1569 cf8 (lo_s rfl) (hP _ rfl) rfl (by decide) rfl rfl (Nat.le_of_ble_eq_true rfl) ⟨(Nat.le_of_ble_eq_true rfl), (Nat.le_of_ble_eq_true rfl)⟩ ⟨(Nat.le_of_ble_eq_true rfl), (Nat.le_of_ble_eq_true rfl)⟩ dX8_free_95 (fun G_17 h => ?_)
  refine aw_inc (lv1 := [(4, .int (v4 + (1 : Int32))), (0, .ref (sdX X 24 0)), (2, .int v2), (3, .int v3)]) F 3 dX8_free_98 rfl (in_1 _) (by decide) rfl ?_
  refine aw_go (tgt := 54) F dX8_free_101 (by decide) ?_
  refine aw_sub [1, 2, 3, 0] rfl ?_
  exact K54 _ _ _ _ h
set_option maxRecDepth 100000 in
set_option maxHeartbeats 4000000 in
theorem kl_X8_free_54 {E : Ev} {X : Cx} {post : Int32 → GH → Prop} {v2 v3 v4 : Int32} {G : GH} (F : Fx E X "MarkFieldModel" cX8_free 6) (T : RT E X 10 0 0 (some .int) (pI post)) (h : lp_X8_free_54 post v2 v3 v4 G) : AW E X 6 54 [(0, .ref (sdX X 24 0)), (2, .int v2), (3, .int v3), (4, .int v4)] [] G 0 0 := by
  have hP := F.P
  have K54 : ∀ (v2 v3 v4 : Int32) (G : GH), AW E X 6 54 [(0, .ref (sdX X 24 0)), (2, .int v2), (3, .int v3), (4, .int v4)] [] G 0 0 → AW E X 6 54 [(0, .ref (sdX X 24 0)), (2, .int v2), (3, .int v3), (4, .int v4)] [] G 0 0 := fun _ _ _ _ q => q
  refine h (fun (v2 v3 v4 : Int32) (G : GH) => AW E X 6 54 [(0, .ref (sdX X 24 0)), (2, .int v2), (3, .int v3), (4, .int v4)] [] G 0 0) (fun (v2 v3 v4 : Int32) (G : GH) h => ?_)
  refine aw_il F 3 dX8_free_54 rfl ?_
  refine aw_bi F dX8_free_56 bi_10 ?_
  refine aw_icmp_ge (tgt := 104) F dX8_free_58 (by decide) (fun c_9 => ?_) (fun c_9 => ?_)
  · replace h := h.1 c_9
    refine aw_il_n F 2 dX8_free_104 rfl rfl ?_
    exact aw_iret F T (Nat.le_of_ble_eq_true rfl) (Nat.le_of_ble_eq_true rfl) ⟨_, rfl, h⟩ dX8_free_105
  · replace h := h.2 c_9
    refine aw_al_n F 0 dX8_free_61 rfl rfl ?_
    refine aw_ic F dX8_free_62 ic_1 ?_
    refine aw_il F 3 dX8_free_63 rfl ?_
    refine aw_ishl F dX8_free_65 ?_
    refine aw_il_n F 1 dX8_free_66 rfl rfl ?_
    refine aw_cVi (stk := []) F T.room [.int ((1 : Int32) <<< (v4 &&& 31)), .int v2] (k_X8_adds hP h) mv_X8_adds w_1545 cf8 (lo_s rfl) (hP _ rfl) rfl (by decide) rfl rfl (Nat.le_of_ble_eq_true rfl) ⟨(Nat.le_of_ble_eq_true rfl), (Nat.le_of_ble_eq_true rfl)⟩ ⟨(Nat.le_of_ble_eq_true rfl), (Nat.le_of_ble_eq_true rfl)⟩ dX8_free_67 (fun r_11 G_10 h => ?_)
    refine aw_is (lv1 := [(5, .int r_11), (0, .ref (sdX X 24 0)), (2, .int v2), (3, .int v3), (4, .int v4)]) F dX8_free_70 (by decide) rfl ?_
    refine aw_al_n F 1 dX8_free_72 rfl rfl ?_
    refine aw_il F 0 dX8_free_73 rfl ?_
    refine aw_il_n F 2 dX8_free_75 rfl rfl ?_
    refine aw_ic F dX8_free_76 ic_1 ?_
    refine aw_cVi (stk := []) F T.room [.int r_11, .int v2, .int (1 : Int32)] (k_X8_halvesOf hP h) mv_X8_halvesOf w_1492 cf8 (lo_s rfl) (hP _ rfl) rfl (by decide) rfl rfl (Nat.le_of_ble_eq_true rfl) ⟨(Nat.le_of_ble_eq_true rfl), (Nat.le_of_ble_eq_true rfl)⟩ ⟨(Nat.le_of_ble_eq_true rfl), (Nat.le_of_ble_eq_true rfl)⟩ dX8_free_77 (fun r_13 G_12 h => ?_)
    refine aw_al_n F 1 dX8_free_80 rfl rfl ?_
    refine aw_cVi (stk := [.int r_13]) F T.room [] (k_X8_allHalves hP h) mv_X8_allHalves w_1565 cf8 (lo_s rfl) (hP _ rfl) rfl (by decide) rfl rfl (Nat.le_of_ble_eq_true rfl) ⟨(Nat.le_of_ble_eq_true rfl), (Nat.le_of_ble_eq_true rfl)⟩ ⟨(Nat.le_of_ble_eq_true rfl), (Nat.le_of_ble_eq_true rfl)⟩ dX8_free_81 (fun r_15 G_14 h => ?_)
    refine aw_icmp_ne (tgt := 94) F dX8_free_84 (by decide) (fun c_16 => ?_) (fun c_16 => ?_)
    · replace h := h.2 c_16
      refine aw_sub [1, 2, 3, 4] rfl ?_
      exact kj_X8_free_94 F T K54 h
    · replace h := h.1 c_16
      refine aw_il_n F 3 dX8_free_87 rfl rfl ?_
      refine aw_ic F dX8_free_88 ic_1 ?_
      refine aw_il F 4 dX8_free_89 rfl ?_
      refine aw_ishl F dX8_free_91 ?_
      refine aw_ior F dX8_free_92 ?_
      refine aw_top (fun y_19 ey_19 => ?_)
      replace h := h y_19 ey_19
      refine aw_is_n (lv1 := [(3, .int y_19), (5, .int r_11), (0, .ref (sdX X 24 0)), (2, .int v2), (4, .int v4)]) F dX8_free_93 rfl (by decide) rfl ?_
      refine aw_sub [2, 3, 0, 4] rfl ?_
      exact kj_X8_free_94 F T K54 h
set_option maxRecDepth 100000 in
set_option maxHeartbeats 4000000 in
theorem kj_X8_free_25 {E : Ev} {X : Cx} {post : Int32 → GH → Prop} {v1 v2 s1 : Int32} {G : GH} (F : Fx E X "MarkFieldModel" cX8_free 6) (T : RT E X 10 0 0 (some .int) (pI post)) (h : j_X8_free_25 post v1 v2 s1 G) : AW E X 6 25 [(0, .ref (sdX X 24 0)), (1, .int v1), (2, .int v2)] [.int s1, .ref (sdX X 24 0)] G 0 0 := by
  have hP := F.P
  refine pf8_5 F (lo_s rfl) (hP _ rfl) rfl w_1165 dX8_free_25 (fun G_4 eG_4 => ?_)
  replace h := h G_4 eG_4
  refine aw_al_n F 0 dX8_free_28 rfl rfl ?_
  refine gf8_5 F (lo_s rfl) (hP _ rfl) rfl w_1165 dX8_free_29 ?_
  refine aw_if_le (tgt := 37) F dX8_free_32 (by decide) (fun c_5 => ?_) (fun c_5 => ?_)
  · replace h := h.1 c_5
    refine aw_al_n F 0 dX8_free_37 rfl rfl ?_
    refine aw_il_n F 1 dX8_free_38 rfl rfl ?_
    refine aw_cVb (stk := []) F T.room [.int v1] (k_X8_takesName hP h) mv_X8_takesName w_1540 cf8 (lo_s rfl) (hP _ rfl) rfl (by decide) rfl rfl (Nat.le_of_ble_eq_true rfl) ⟨(Nat.le_of_ble_eq_true rfl), (Nat.le_of_ble_eq_true rfl)⟩ ⟨(Nat.le_of_ble_eq_true rfl), (Nat.le_of_ble_eq_true rfl)⟩ dX8_free_39 (fun b_7 G_6 h => ?_)
    refine aw_if_ne (tgt := 49) F dX8_free_42 (by decide) (fun c_8 => ?_) (fun c_8 => ?_)
    · replace h := h.2 (bI_1 c_8)
      refine aw_ic F dX8_free_49 ic_0 ?_
      refine aw_is_n (lv1 := [(3, .int (0 : Int32)), (0, .ref (sdX X 24 0)), (1, .int v1), (2, .int v2)]) F dX8_free_50 rfl (by decide) rfl ?_
      refine aw_ic F dX8_free_51 ic_0 ?_
      refine aw_is (lv1 := [(4, .int (0 : Int32)), (3, .int (0 : Int32)), (0, .ref (sdX X 24 0)), (1, .int v1), (2, .int v2)]) F dX8_free_52 (by decide) rfl ?_
      refine aw_sub [2, 4, 1, 0] rfl ?_
      exact kl_X8_free_54 F T h
    · replace h := h.1 (bI_2 c_8)
      refine aw_ldcw F dX8_free_45 w_1544 ?_
      exact aw_iret F T (Nat.le_of_ble_eq_true rfl) (Nat.le_of_ble_eq_true rfl) ⟨_, rfl, h⟩ dX8_free_48
  · replace h := h.2 c_5
    refine aw_ic F dX8_free_35 ic_0 ?_
    exact aw_iret F T (Nat.le_of_ble_eq_true rfl) (Nat.le_of_ble_eq_true rfl) ⟨_, rfl, h⟩ dX8_free_36
set_option maxRecDepth 100000 in
set_option maxHeartbeats 4000000 in
theorem kj_X8_free_20 {E : Ev} {X : Cx} {post : Int32 → GH → Prop} {v1 v2 : Int32} {G : GH} (F : Fx E X "MarkFieldModel" cX8_free 6) (T : RT E X 10 0 0 (some .int) (pI post)) (h : j_X8_free_20 post v1 v2 G) : AW E X 6 20 [(0, .ref (sdX X 24 0)), (1, .int v1), (2, .int v2)] [.ref (sdX X 24 0)] G 0 0 := by
  have hP := F.P
  refine aw_ic F dX8_free_20 ic_1 ?_
  refine aw_go (tgt := 25) F dX8_free_21 (by decide) ?_
  exact kj_X8_free_25 F T h
set_option maxRecDepth 100000 in
set_option maxHeartbeats 4000000 in
theorem k_X8_free {l : Launch} {E : Ev} {P : Nat → Prop} {sd : Nat → Nat → Nat} {G : GH} {post : Int32 → GH → Prop} {x1 x2 : Int32} (hPP : ∀ o, stt o = true → P o) (h : wp_X8_free post x1 x2 G) : Ct l yX8_free cX8_free 6 (some .int) 10 0 0 E P sd G [.ref (sd 24 0), .int x1, .int x2] (pI post) := by
  refine ct_of (own := "MarkFieldModel") (by decide) rfl (Nat.le_of_ble_eq_true rfl) hPP (fun X F T el eP es => ?_)
  subst el; subst eP; subst es
  have hP := F.P
  change AW E X 6 0 [(0, .ref (sdX X 24 0)), (1, .int x1), (2, .int x2)] [] G 0 0
  refine aw_al_n F 0 dX8_free_0 rfl rfl ?_
  refine aw_il_n F 2 dX8_free_1 rfl rfl ?_
  refine aw_cSb (stk := [.ref (sdX X 24 0)]) F T.room [.int x2] (k_X8_isDay hP h) ms_X8_isDay w_1461 rfl rfl (Nat.le_of_ble_eq_true rfl) ⟨(Nat.le_of_ble_eq_true rfl), (Nat.le_of_ble_eq_true rfl)⟩ ⟨(Nat.le_of_ble_eq_true rfl), (Nat.le_of_ble_eq_true rfl)⟩ dX8_free_2 (fun b_2 G_1 h => ?_)
  refine aw_if_eq (tgt := 20) F dX8_free_5 (by decide) (fun c_3 => ?_) (fun c_3 => ?_)
  · replace h := h.1 (bI_2 c_3)
    exact kj_X8_free_20 F T h
  · replace h := h.2 (bI_1 c_3)
    refine aw_il_n F 1 dX8_free_8 rfl rfl ?_
    refine aw_ic F dX8_free_9 ic_0 ?_
    refine aw_al_n F 0 dX8_free_10 rfl rfl ?_
    refine gf8_32 F (lo_s rfl) (hP _ rfl) rfl w_1192 dX8_free_11 ?_
    refine aw_cSb (stk := [.ref (sdX X 24 0)]) F T.room [.int x1, .int (0 : Int32), .int (G_1 24 0 32)] (k_X8_within hP h) ms_X8_within w_1427 rfl rfl (Nat.le_of_ble_eq_true rfl) ⟨(Nat.le_of_ble_eq_true rfl), (Nat.le_of_ble_eq_true rfl)⟩ ⟨(Nat.le_of_ble_eq_true rfl), (Nat.le_of_ble_eq_true rfl)⟩ dX8_free_14 (fun b_21 G_20 h => ?_)
    refine aw_if_ne (tgt := 24) F dX8_free_17 (by decide) (fun c_22 => ?_) (fun c_22 => ?_)
    · replace h := h.2 (bI_1 c_22)
      refine aw_ic F dX8_free_24 ic_0 ?_
      exact kj_X8_free_25 F T h
    · replace h := h.1 (bI_2 c_22)
      exact kj_X8_free_20 F T h
-- X8_holdsWhereRight (height 10)
def wp_X8_holdsWhereRight (post : Bool → GH → Prop) (x1 x2 : Int32) (G : GH) : Prop :=
  wp_X8_halvesOf (fun (r_2 : Int32) (G_1 : GH) => wp_X8_halvesOf (fun (r_4 : Int32) (G_3 : GH) => ((r_2 = r_4 → post true G_3) ∧ (¬ r_2 = r_4 → post false G_3))) x1 x2 (1 : Int32) G_1) x1 x2 (0 : Int32) G
set_option maxRecDepth 100000 in
set_option maxHeartbeats 4000000 in
theorem k_X8_holdsWhereRight {l : Launch} {E : Ev} {P : Nat → Prop} {sd : Nat → Nat → Nat} {G : GH} {post : Bool → GH → Prop} {x1 x2 : Int32} (hPP : ∀ o, stt o = true → P o) (h : wp_X8_holdsWhereRight post x1 x2 G) : Ct l yX8_holdsWhereRight cX8_holdsWhereRight 3 (some .boolean) 10 0 0 E P sd G [.ref (sd 24 0), .int x1, .int x2] (pB post) := by
  refine ct_of (own := "MarkFieldModel") (by decide) rfl (Nat.le_of_ble_eq_true rfl) hPP (fun X F T el eP es => ?_)
  subst el; subst eP; subst es
  have hP := F.P
  change AW E X 3 0 [(0, .ref (sdX X 24 0)), (1, .int x1), (2, .int x2)] [] G 0 0
  refine aw_al_n F 0 dX8_holdsWhereRight_0 rfl rfl ?_
  refine aw_il_n F 1 dX8_holdsWhereRight_1 rfl rfl ?_
  refine aw_il_n F 2 dX8_holdsWhereRight_2 rfl rfl ?_
  refine aw_ic F dX8_holdsWhereRight_3 ic_0 ?_
  refine aw_cVi (stk := []) F T.room [.int x1, .int x2, .int (0 : Int32)] (k_X8_halvesOf hP h) mv_X8_halvesOf w_1492 cf8 (lo_s rfl) (hP _ rfl) rfl (by decide) rfl rfl (Nat.le_of_ble_eq_true rfl) ⟨(Nat.le_of_ble_eq_true rfl), (Nat.le_of_ble_eq_true rfl)⟩ ⟨(Nat.le_of_ble_eq_true rfl), (Nat.le_of_ble_eq_true rfl)⟩ dX8_holdsWhereRight_4 (fun r_2 G_1 h => ?_)
  refine aw_al_n F 0 dX8_holdsWhereRight_7 rfl rfl ?_
  refine aw_il_n F 1 dX8_holdsWhereRight_8 rfl rfl ?_
  refine aw_il_n F 2 dX8_holdsWhereRight_9 rfl rfl ?_
  refine aw_ic F dX8_holdsWhereRight_10 ic_1 ?_
  refine aw_cVi (stk := [.int r_2]) F T.room [.int x1, .int x2, .int (1 : Int32)] (k_X8_halvesOf hP h) mv_X8_halvesOf w_1492 cf8 (lo_s rfl) (hP _ rfl) rfl (by decide) rfl rfl (Nat.le_of_ble_eq_true rfl) ⟨(Nat.le_of_ble_eq_true rfl), (Nat.le_of_ble_eq_true rfl)⟩ ⟨(Nat.le_of_ble_eq_true rfl), (Nat.le_of_ble_eq_true rfl)⟩ dX8_holdsWhereRight_11 (fun r_4 G_3 h => ?_)
  refine aw_icmp_ne (tgt := 21) F dX8_holdsWhereRight_14 (by decide) (fun c_5 => ?_) (fun c_5 => ?_)
  · replace h := h.2 c_5
    refine aw_ic F dX8_holdsWhereRight_21 ic_0 ?_
    exact aw_zret F T false rfl (Nat.le_of_ble_eq_true rfl) (Nat.le_of_ble_eq_true rfl) ⟨_, rfl, h⟩ dX8_holdsWhereRight_22
  · replace h := h.1 c_5
    refine aw_ic F dX8_holdsWhereRight_17 ic_1 ?_
    refine aw_go (tgt := 22) F dX8_holdsWhereRight_18 (by decide) ?_
    exact aw_zret F T true rfl (Nat.le_of_ble_eq_true rfl) (Nat.le_of_ble_eq_true rfl) ⟨_, rfl, h⟩ dX8_holdsWhereRight_22
-- X8_letterFor (height 11)
def j_X8_letterFor_153 (post : Int32 → GH → Prop) (P50 : Int32 → Int32 → Int32 → Int32 → Int32 → GH → Prop) (v1 v2 v3 v4 v5 v6 : Int32) (G : GH) : Prop :=
  wp_X8_put (fun (G_19 : GH) => (∀ G_21 : GH, G_21 = gs G_19 24 0 (upd (G_19 24 0) 7 (0 : Int32)) → P50 v1 v2 v3 v4 (v5 + (1 : Int32)) G_21)) v1 ((1 : Int32) + v5) v6 G
def lb_X8_letterFor_85 (post : Int32 → GH → Prop) (P50 : Int32 → Int32 → Int32 → Int32 → Int32 → GH → Prop) (P85 : Int32 → Int32 → Int32 → Int32 → Int32 → Int32 → Int32 → GH → Prop) (v1 v2 v3 v4 v5 v6 v7 : Int32) (G : GH) : Prop :=
  (((26 : Int32) ≤ v7 → j_X8_letterFor_153 post P50 v1 v2 v3 v4 v5 v6 G) ∧ (¬ (26 : Int32) ≤ v7 → ((v3 = (-1 : Int32) → ((((97 : Int32) + v7) = v6 → P85 v1 v2 v3 v4 v5 v6 (v7 + (1 : Int32)) G) ∧ (¬ ((97 : Int32) + v7) = v6 → wp_X8_put (fun (G_24 : GH) => (∀ G_26 : GH, G_26 = gs G_24 24 0 (upd (G_24 24 0) 7 (0 : Int32)) → wp_X8_holdsWhereRight (fun (b_28 : Bool) (G_27 : GH) => ((b_28 = false → P85 v1 v2 v3 v4 v5 v6 (v7 + (1 : Int32)) G_27) ∧ (b_28 = true → (∀ y_30 : Int32, y_30 = (((26 : Int32) * v5) + v7) → P85 v1 v2 y_30 v4 v5 v6 (v7 + (1 : Int32)) G_27)))) v1 v2 G_26)) v1 ((1 : Int32) + v5) ((97 : Int32) + v7) G))) ∧ (¬ v3 = (-1 : Int32) → j_X8_letterFor_153 post P50 v1 v2 v3 v4 v5 v6 G))))
def lp_X8_letterFor_85 (post : Int32 → GH → Prop) (P50 : Int32 → Int32 → Int32 → Int32 → Int32 → GH → Prop) (v1 v2 v3 v4 v5 v6 v7 : Int32) (G : GH) : Prop := ∀ P85 : Int32 → Int32 → Int32 → Int32 → Int32 → Int32 → Int32 → GH → Prop, (∀ (v1 v2 v3 v4 v5 v6 v7 : Int32) (G : GH), lb_X8_letterFor_85 post P50 P85 v1 v2 v3 v4 v5 v6 v7 G → P85 v1 v2 v3 v4 v5 v6 v7 G) → P85 v1 v2 v3 v4 v5 v6 v7 G
def lb_X8_letterFor_50 (post : Int32 → GH → Prop) (P50 : Int32 → Int32 → Int32 → Int32 → Int32 → GH → Prop) (v1 v2 v3 v4 v5 : Int32) (G : GH) : Prop :=
  wp_X8_of1 (fun (r_12 : Int32) (G_11 : GH) => ((r_12 ≤ v5 → post v3 G_11) ∧ (¬ r_12 ≤ v5 → ((v4 = 0 → ((v3 = (-1 : Int32) → wp_X8_of1 (fun (r_17 : Int32) (G_16 : GH) => lp_X8_letterFor_85 post P50 v1 v2 v3 v4 v5 r_17 (0 : Int32) G_16) v1 ((1 : Int32) + v5) G_11) ∧ (¬ v3 = (-1 : Int32) → post v3 G_11))) ∧ (¬ v4 = 0 → post v3 G_11))))) v1 (0 : Int32) G
def lp_X8_letterFor_50 (post : Int32 → GH → Prop) (v1 v2 v3 v4 v5 : Int32) (G : GH) : Prop := ∀ P50 : Int32 → Int32 → Int32 → Int32 → Int32 → GH → Prop, (∀ (v1 v2 v3 v4 v5 : Int32) (G : GH), lb_X8_letterFor_50 post P50 v1 v2 v3 v4 v5 G → P50 v1 v2 v3 v4 v5 G) → P50 v1 v2 v3 v4 v5 G
def j_X8_letterFor_25 (post : Int32 → GH → Prop) (v1 v2 s1 : Int32) (G : GH) : Prop :=
  (∀ G_7 : GH, G_7 = gs G 24 0 (upd (G 24 0) 5 s1) → (((G_7 24 0 5) ≤ 0 → wp_X8_holdsWhereRight (fun (b_10 : Bool) (G_9 : GH) => lp_X8_letterFor_50 post v1 v2 (-1 : Int32) (bI b_10) (0 : Int32) G_9) v1 v2 G_7) ∧ (¬ (G_7 24 0 5) ≤ 0 → post (0 : Int32) G_7)))
def wp_X8_letterFor (post : Int32 → GH → Prop) (x1 x2 : Int32) (G : GH) : Prop :=
  wp_X8_isMark (fun (b_2 : Bool) (G_1 : GH) => ((b_2 = false → j_X8_letterFor_25 post x1 x2 (1 : Int32) G_1) ∧ (b_2 = true → wp_X8_isDay (fun (b_5 : Bool) (G_4 : GH) => ((b_5 = false → j_X8_letterFor_25 post x1 x2 (2 : Int32) G_4) ∧ (b_5 = true → j_X8_letterFor_25 post x1 x2 (0 : Int32) G_4))) x2 G_1))) x1 G
set_option maxRecDepth 100000 in
set_option maxHeartbeats 4000000 in
theorem kj_X8_letterFor_153 {E : Ev} {X : Cx} {post : Int32 → GH → Prop} {P50 : Int32 → Int32 → Int32 → Int32 → Int32 → GH → Prop} {v1 v2 v3 v4 v5 v6 : Int32} {G : GH} (F : Fx E X "MarkFieldModel" cX8_letterFor 8) (T : RT E X 11 0 0 (some .int) (pI post)) (K50 : ∀ (v1 v2 v3 v4 v5 : Int32) (G : GH), P50 v1 v2 v3 v4 v5 G → AW E X 8 50 [(0, .ref (sdX X 24 0)), (1, .int v1), (2, .int v2), (3, .int v3), (4, .int v4), (5, .int v5)] [] G 0 0) (h : j_X8_letterFor_153 post P50 v1 v2 v3 v4 v5 v6 G) : AW E X 8 153 [(0, .ref (sdX X 24 0)), (1, .int v1), (2, .int v2), (3, .int v3), (4, .int v4), (5, .int v5), (6, .int v6)] [] G 0 0 := by
  have hP := F.P
  refine aw_al_n F 0 dX8_letterFor_153 rfl rfl ?_
  refine aw_il_n F 1 dX8_letterFor_154 rfl rfl ?_
  refine aw_ic F dX8_letterFor_155 ic_1 ?_
  refine aw_il F 5 dX8_letterFor_156 rfl ?_
  refine aw_iadd F dX8_letterFor_158 ?_
  refine aw_il F 6 dX8_letterFor_159 rfl ?_
  refine aw_cVv (stk := []) F T.room [.int v1, .int ((1 : Int32) + v5), .int v6] (k_X8_put hP h) mv_X8_put w_1549 cf8 (lo_s rfl) (hP _ rfl) rfl (by decide) rfl rfl (Nat.le_of_ble_eq_true rfl) ⟨(Nat.le_of_ble_eq_true rfl), (Nat.le_of_ble_eq_true rfl)⟩ ⟨(Nat.le_of_ble_eq_true rfl), (Nat.le_of_ble_eq_true rfl)⟩ dX8_letterFor_161 (fun G_19 h => ?_)
  refine aw_al_n F 0 dX8_letterFor_164 rfl rfl ?_
  refine aw_ic F dX8_letterFor_165 ic_0 ?_
  refine pf8_7 F (lo_s rfl) (hP _ rfl) rfl w_1167 (Or.inl rfl) dX8_letterFor_166 (fun G_21 eG_21 => ?_)
  replace h := h G_21 eG_21
  refine aw_inc (lv1 := [(5, .int (v5 + (1 : Int32))), (0, .ref (sdX X 24 0)), (1, .int v1), (2, .int v2), (3, .int v3), (4, .int v4), (6, .int v6)]) F 5 dX8_letterFor_169 rfl (in_1 _) (by decide) rfl ?_
  refine aw_go (tgt := 50) F dX8_letterFor_172 (by decide) ?_
  refine aw_sub [1, 2, 3, 4, 5, 0] rfl ?_
  exact K50 _ _ _ _ _ _ h
set_option maxRecDepth 100000 in
set_option maxHeartbeats 4000000 in
theorem kl_X8_letterFor_85 {E : Ev} {X : Cx} {post : Int32 → GH → Prop} {P50 : Int32 → Int32 → Int32 → Int32 → Int32 → GH → Prop} {v1 v2 v3 v4 v5 v6 v7 : Int32} {G : GH} (F : Fx E X "MarkFieldModel" cX8_letterFor 8) (T : RT E X 11 0 0 (some .int) (pI post)) (K50 : ∀ (v1 v2 v3 v4 v5 : Int32) (G : GH), P50 v1 v2 v3 v4 v5 G → AW E X 8 50 [(0, .ref (sdX X 24 0)), (1, .int v1), (2, .int v2), (3, .int v3), (4, .int v4), (5, .int v5)] [] G 0 0) (h : lp_X8_letterFor_85 post P50 v1 v2 v3 v4 v5 v6 v7 G) : AW E X 8 85 [(0, .ref (sdX X 24 0)), (1, .int v1), (2, .int v2), (3, .int v3), (4, .int v4), (5, .int v5), (6, .int v6), (7, .int v7)] [] G 0 0 := by
  have hP := F.P
  have K85 : ∀ (v1 v2 v3 v4 v5 v6 v7 : Int32) (G : GH), AW E X 8 85 [(0, .ref (sdX X 24 0)), (1, .int v1), (2, .int v2), (3, .int v3), (4, .int v4), (5, .int v5), (6, .int v6), (7, .int v7)] [] G 0 0 → AW E X 8 85 [(0, .ref (sdX X 24 0)), (1, .int v1), (2, .int v2), (3, .int v3), (4, .int v4), (5, .int v5), (6, .int v6), (7, .int v7)] [] G 0 0 := fun _ _ _ _ _ _ _ _ q => q
  refine h (fun (v1 v2 v3 v4 v5 v6 v7 : Int32) (G : GH) => AW E X 8 85 [(0, .ref (sdX X 24 0)), (1, .int v1), (2, .int v2), (3, .int v3), (4, .int v4), (5, .int v5), (6, .int v6), (7, .int v7)] [] G 0 0) (fun (v1 v2 v3 v4 v5 v6 v7 : Int32) (G : GH) h => ?_)
  refine aw_il F 7 dX8_letterFor_85 rfl ?_
  refine aw_bi F dX8_letterFor_87 bi_26 ?_
  refine aw_icmp_ge (tgt := 153) F dX8_letterFor_89 (by decide) (fun c_18 => ?_) (fun c_18 => ?_)
  · replace h := h.1 c_18
    refine aw_sub [0, 1, 2, 3, 4, 5, 6] rfl ?_
    exact kj_X8_letterFor_153 F T K50 h
  · replace h := h.2 c_18
    refine aw_il_n F 3 dX8_letterFor_92 rfl rfl ?_
    refine aw_ic F dX8_letterFor_93 ic_m1 ?_
    refine aw_icmp_ne (tgt := 153) F dX8_letterFor_94 (by decide) (fun c_22 => ?_) (fun c_22 => ?_)
    · replace h := h.2 c_22
      refine aw_sub [0, 1, 2, 3, 4, 5, 6] rfl ?_
      exact kj_X8_letterFor_153 F T K50 h
    · replace h := h.1 c_22
      refine aw_bi F dX8_letterFor_97 bi_97 ?_
      refine aw_il F 7 dX8_letterFor_99 rfl ?_
      refine aw_iadd F dX8_letterFor_101 ?_
      refine aw_il F 6 dX8_letterFor_102 rfl ?_
      refine aw_icmp_ne (tgt := 110) F dX8_letterFor_104 (by decide) (fun c_23 => ?_) (fun c_23 => ?_)
      · replace h := h.2 c_23
        refine aw_al_n F 0 dX8_letterFor_110 rfl rfl ?_
        refine aw_il_n F 1 dX8_letterFor_111 rfl rfl ?_
        refine aw_ic F dX8_letterFor_112 ic_1 ?_
        refine aw_il F 5 dX8_letterFor_113 rfl ?_
        refine aw_iadd F dX8_letterFor_115 ?_
        refine aw_bi F dX8_letterFor_116 bi_97 ?_
        refine aw_il F 7 dX8_letterFor_118 rfl ?_
        refine aw_iadd F dX8_letterFor_120 ?_
        refine aw_cVv (stk := []) F T.room [.int v1, .int ((1 : Int32) + v5), .int ((97 : Int32) + v7)] (k_X8_put hP h) mv_X8_put w_1549 cf8 (lo_s rfl) (hP _ rfl) rfl (by decide) rfl rfl (Nat.le_of_ble_eq_true rfl) ⟨(Nat.le_of_ble_eq_true rfl), (Nat.le_of_ble_eq_true rfl)⟩ ⟨(Nat.le_of_ble_eq_true rfl), (Nat.le_of_ble_eq_true rfl)⟩ dX8_letterFor_121 (fun G_24 h => ?_)
        refine aw_al_n F 0 dX8_letterFor_124 rfl rfl ?_
        refine aw_ic F dX8_letterFor_125 ic_0 ?_
        refine pf8_7 F (lo_s rfl) (hP _ rfl) rfl w_1167 (Or.inl rfl) dX8_letterFor_126 (fun G_26 eG_26 => ?_)
        replace h := h G_26 eG_26
        refine aw_al_n F 0 dX8_letterFor_129 rfl rfl ?_
        refine aw_il_n F 1 dX8_letterFor_130 rfl rfl ?_
        refine aw_il_n F 2 dX8_letterFor_131 rfl rfl ?_
        refine aw_cVb (stk := []) F T.room [.int v1, .int v2] (k_X8_holdsWhereRight hP h) mv_X8_holdsWhereRight w_1581 cf8 (lo_s rfl) (hP _ rfl) rfl (by decide) rfl rfl (Nat.le_of_ble_eq_true rfl) ⟨(Nat.le_of_ble_eq_true rfl), (Nat.le_of_ble_eq_true rfl)⟩ ⟨(Nat.le_of_ble_eq_true rfl), (Nat.le_of_ble_eq_true rfl)⟩ dX8_letterFor_132 (fun b_28 G_27 h => ?_)
        refine aw_if_eq (tgt := 147) F dX8_letterFor_135 (by decide) (fun c_29 => ?_) (fun c_29 => ?_)
        · replace h := h.1 (bI_2 c_29)
          refine aw_inc (lv1 := [(7, .int (v7 + (1 : Int32))), (0, .ref (sdX X 24 0)), (1, .int v1), (2, .int v2), (3, .int v3), (4, .int v4), (5, .int v5), (6, .int v6)]) F 7 dX8_letterFor_147 rfl (in_1 _) (by decide) rfl ?_
          refine aw_go (tgt := 85) F dX8_letterFor_150 (by decide) ?_
          refine aw_sub [1, 2, 3, 4, 5, 6, 7, 0] rfl ?_
          exact K85 _ _ _ _ _ _ _ _ h
        · replace h := h.2 (bI_1 c_29)
          refine aw_bi F dX8_letterFor_138 bi_26 ?_
          refine aw_il F 5 dX8_letterFor_140 rfl ?_
          refine aw_imul F dX8_letterFor_142 ?_
          refine aw_il F 7 dX8_letterFor_143 rfl ?_
          refine aw_iadd F dX8_letterFor_145 ?_
          refine aw_top (fun y_30 ey_30 => ?_)
          replace h := h y_30 ey_30
          refine aw_is_n (lv1 := [(3, .int y_30), (0, .ref (sdX X 24 0)), (1, .int v1), (2, .int v2), (4, .int v4), (5, .int v5), (6, .int v6), (7, .int v7)]) F dX8_letterFor_146 rfl (by decide) rfl ?_
          refine aw_inc (lv1 := [(7, .int (v7 + (1 : Int32))), (3, .int y_30), (0, .ref (sdX X 24 0)), (1, .int v1), (2, .int v2), (4, .int v4), (5, .int v5), (6, .int v6)]) F 7 dX8_letterFor_147 rfl (in_1 _) (by decide) rfl ?_
          refine aw_go (tgt := 85) F dX8_letterFor_150 (by decide) ?_
          refine aw_sub [2, 3, 4, 1, 5, 6, 7, 0] rfl ?_
          exact K85 _ _ _ _ _ _ _ _ h
      · replace h := h.1 c_23
        refine aw_go (tgt := 147) F dX8_letterFor_107 (by decide) ?_
        refine aw_inc (lv1 := [(7, .int (v7 + (1 : Int32))), (0, .ref (sdX X 24 0)), (1, .int v1), (2, .int v2), (3, .int v3), (4, .int v4), (5, .int v5), (6, .int v6)]) F 7 dX8_letterFor_147 rfl (in_1 _) (by decide) rfl ?_
        refine aw_go (tgt := 85) F dX8_letterFor_150 (by decide) ?_
        refine aw_sub [1, 2, 3, 4, 5, 6, 7, 0] rfl ?_
        exact K85 _ _ _ _ _ _ _ _ h
set_option maxRecDepth 100000 in
set_option maxHeartbeats 4000000 in
theorem kl_X8_letterFor_50 {E : Ev} {X : Cx} {post : Int32 → GH → Prop} {v1 v2 v3 v4 v5 : Int32} {G : GH} (F : Fx E X "MarkFieldModel" cX8_letterFor 8) (T : RT E X 11 0 0 (some .int) (pI post)) (h : lp_X8_letterFor_50 post v1 v2 v3 v4 v5 G) : AW E X 8 50 [(0, .ref (sdX X 24 0)), (1, .int v1), (2, .int v2), (3, .int v3), (4, .int v4), (5, .int v5)] [] G 0 0 := by
  have hP := F.P
  have K50 : ∀ (v1 v2 v3 v4 v5 : Int32) (G : GH), AW E X 8 50 [(0, .ref (sdX X 24 0)), (1, .int v1), (2, .int v2), (3, .int v3), (4, .int v4), (5, .int v5)] [] G 0 0 → AW E X 8 50 [(0, .ref (sdX X 24 0)), (1, .int v1), (2, .int v2), (3, .int v3), (4, .int v4), (5, .int v5)] [] G 0 0 := fun _ _ _ _ _ _ q => q
  refine h (fun (v1 v2 v3 v4 v5 : Int32) (G : GH) => AW E X 8 50 [(0, .ref (sdX X 24 0)), (1, .int v1), (2, .int v2), (3, .int v3), (4, .int v4), (5, .int v5)] [] G 0 0) (fun (v1 v2 v3 v4 v5 : Int32) (G : GH) h => ?_)
  refine aw_il F 5 dX8_letterFor_50 rfl ?_
  refine aw_al_n F 0 dX8_letterFor_52 rfl rfl ?_
  refine aw_il_n F 1 dX8_letterFor_53 rfl rfl ?_
  refine aw_ic F dX8_letterFor_54 ic_0 ?_
  refine aw_cVi (stk := [.int v5]) F T.room [.int v1, .int (0 : Int32)] (k_X8_of1 hP h) mv_X8_of1 w_1313 cf8 (lo_s rfl) (hP _ rfl) rfl (by decide) rfl rfl (Nat.le_of_ble_eq_true rfl) ⟨(Nat.le_of_ble_eq_true rfl), (Nat.le_of_ble_eq_true rfl)⟩ ⟨(Nat.le_of_ble_eq_true rfl), (Nat.le_of_ble_eq_true rfl)⟩ dX8_letterFor_55 (fun r_12 G_11 h => ?_)
  refine aw_icmp_ge (tgt := 175) F dX8_letterFor_58 (by decide) (fun c_13 => ?_) (fun c_13 => ?_)
  · replace h := h.1 c_13
    refine aw_il_n F 3 dX8_letterFor_175 rfl rfl ?_
    exact aw_iret F T (Nat.le_of_ble_eq_true rfl) (Nat.le_of_ble_eq_true rfl) ⟨_, rfl, h⟩ dX8_letterFor_176
  · replace h := h.2 c_13
    refine aw_il F 4 dX8_letterFor_61 rfl ?_
    refine aw_if_ne (tgt := 175) F dX8_letterFor_63 (by decide) (fun c_14 => ?_) (fun c_14 => ?_)
    · replace h := h.2 c_14
      refine aw_il_n F 3 dX8_letterFor_175 rfl rfl ?_
      exact aw_iret F T (Nat.le_of_ble_eq_true rfl) (Nat.le_of_ble_eq_true rfl) ⟨_, rfl, h⟩ dX8_letterFor_176
    · replace h := h.1 c_14
      refine aw_il_n F 3 dX8_letterFor_66 rfl rfl ?_
      refine aw_ic F dX8_letterFor_67 ic_m1 ?_
      refine aw_icmp_ne (tgt := 175) F dX8_letterFor_68 (by decide) (fun c_15 => ?_) (fun c_15 => ?_)
      · replace h := h.2 c_15
        refine aw_il_n F 3 dX8_letterFor_175 rfl rfl ?_
        exact aw_iret F T (Nat.le_of_ble_eq_true rfl) (Nat.le_of_ble_eq_true rfl) ⟨_, rfl, h⟩ dX8_letterFor_176
      · replace h := h.1 c_15
        refine aw_al_n F 0 dX8_letterFor_71 rfl rfl ?_
        refine aw_il_n F 1 dX8_letterFor_72 rfl rfl ?_
        refine aw_ic F dX8_letterFor_73 ic_1 ?_
        refine aw_il F 5 dX8_letterFor_74 rfl ?_
        refine aw_iadd F dX8_letterFor_76 ?_
        refine aw_cVi (stk := []) F T.room [.int v1, .int ((1 : Int32) + v5)] (k_X8_of1 hP h) mv_X8_of1 w_1313 cf8 (lo_s rfl) (hP _ rfl) rfl (by decide) rfl rfl (Nat.le_of_ble_eq_true rfl) ⟨(Nat.le_of_ble_eq_true rfl), (Nat.le_of_ble_eq_true rfl)⟩ ⟨(Nat.le_of_ble_eq_true rfl), (Nat.le_of_ble_eq_true rfl)⟩ dX8_letterFor_77 (fun r_17 G_16 h => ?_)
        refine aw_is (lv1 := [(6, .int r_17), (0, .ref (sdX X 24 0)), (1, .int v1), (2, .int v2), (3, .int v3), (4, .int v4), (5, .int v5)]) F dX8_letterFor_80 (by decide) rfl ?_
        refine aw_ic F dX8_letterFor_82 ic_0 ?_
        refine aw_is (lv1 := [(7, .int (0 : Int32)), (6, .int r_17), (0, .ref (sdX X 24 0)), (1, .int v1), (2, .int v2), (3, .int v3), (4, .int v4), (5, .int v5)]) F dX8_letterFor_83 (by decide) rfl ?_
        refine aw_sub [2, 3, 4, 5, 6, 7, 1, 0] rfl ?_
        exact kl_X8_letterFor_85 F T K50 h
set_option maxRecDepth 100000 in
set_option maxHeartbeats 4000000 in
theorem kj_X8_letterFor_25 {E : Ev} {X : Cx} {post : Int32 → GH → Prop} {v1 v2 s1 : Int32} {G : GH} (F : Fx E X "MarkFieldModel" cX8_letterFor 8) (T : RT E X 11 0 0 (some .int) (pI post)) (h : j_X8_letterFor_25 post v1 v2 s1 G) : AW E X 8 25 [(0, .ref (sdX X 24 0)), (1, .int v1), (2, .int v2)] [.int s1, .ref (sdX X 24 0)] G 0 0 := by
  have hP := F.P
  refine pf8_5 F (lo_s rfl) (hP _ rfl) rfl w_1165 dX8_letterFor_25 (fun G_7 eG_7 => ?_)
  replace h := h G_7 eG_7
  refine aw_al_n F 0 dX8_letterFor_28 rfl rfl ?_
  refine gf8_5 F (lo_s rfl) (hP _ rfl) rfl w_1165 dX8_letterFor_29 ?_
  refine aw_if_le (tgt := 37) F dX8_letterFor_32 (by decide) (fun c_8 => ?_) (fun c_8 => ?_)
  · replace h := h.1 c_8
    refine aw_ic F dX8_letterFor_37 ic_m1 ?_
    refine aw_is_n (lv1 := [(3, .int (-1 : Int32)), (0, .ref (sdX X 24 0)), (1, .int v1), (2, .int v2)]) F dX8_letterFor_38 rfl (by decide) rfl ?_
    refine aw_al_n F 1 dX8_letterFor_39 rfl rfl ?_
    refine aw_il_n F 2 dX8_letterFor_40 rfl rfl ?_
    refine aw_il_n F 3 dX8_letterFor_41 rfl rfl ?_
    refine aw_cVb (stk := []) F T.room [.int v1, .int v2] (k_X8_holdsWhereRight hP h) mv_X8_holdsWhereRight w_1581 cf8 (lo_s rfl) (hP _ rfl) rfl (by decide) rfl rfl (Nat.le_of_ble_eq_true rfl) ⟨(Nat.le_of_ble_eq_true rfl), (Nat.le_of_ble_eq_true rfl)⟩ ⟨(Nat.le_of_ble_eq_true rfl), (Nat.le_of_ble_eq_true rfl)⟩ dX8_letterFor_42 (fun b_10 G_9 h => ?_)
    refine aw_is (lv1 := [(4, .int (bI b_10)), (3, .int (-1 : Int32)), (0, .ref (sdX X 24 0)), (1, .int v1), (2, .int v2)]) F dX8_letterFor_45 (by decide) rfl ?_
    refine aw_ic F dX8_letterFor_47 ic_0 ?_
    refine aw_is (lv1 := [(5, .int (0 : Int32)), (4, .int (bI b_10)), (3, .int (-1 : Int32)), (0, .ref (sdX X 24 0)), (1, .int v1), (2, .int v2)]) F dX8_letterFor_48 (by decide) rfl ?_
    refine aw_sub [3, 4, 5, 2, 1, 0] rfl ?_
    exact kl_X8_letterFor_50 F T h
  · replace h := h.2 c_8
    refine aw_ic F dX8_letterFor_35 ic_0 ?_
    exact aw_iret F T (Nat.le_of_ble_eq_true rfl) (Nat.le_of_ble_eq_true rfl) ⟨_, rfl, h⟩ dX8_letterFor_36
set_option maxRecDepth 100000 in
set_option maxHeartbeats 4000000 in
theorem k_X8_letterFor {l : Launch} {E : Ev} {P : Nat → Prop} {sd : Nat → Nat → Nat} {G : GH} {post : Int32 → GH → Prop} {x1 x2 : Int32} (hPP : ∀ o, stt o = true → P o) (h : wp_X8_letterFor post x1 x2 G) : Ct l yX8_letterFor cX8_letterFor 8 (some .int) 11 0 0 E P sd G [.ref (sd 24 0), .int x1, .int x2] (pI post) := by
  refine ct_of (own := "MarkFieldModel") (by decide) rfl (Nat.le_of_ble_eq_true rfl) hPP (fun X F T el eP es => ?_)
  subst el; subst eP; subst es
  have hP := F.P
  change AW E X 8 0 [(0, .ref (sdX X 24 0)), (1, .int x1), (2, .int x2)] [] G 0 0
  refine aw_al_n F 0 dX8_letterFor_0 rfl rfl ?_
  refine aw_al_n F 0 dX8_letterFor_1 rfl rfl ?_
  refine aw_il_n F 1 dX8_letterFor_2 rfl rfl ?_
  refine aw_cVb (stk := [.ref (sdX X 24 0)]) F T.room [.int x1] (k_X8_isMark hP h) mv_X8_isMark w_1423 cf8 (lo_s rfl) (hP _ rfl) rfl (by decide) rfl rfl (Nat.le_of_ble_eq_true rfl) ⟨(Nat.le_of_ble_eq_true rfl), (Nat.le_of_ble_eq_true rfl)⟩ ⟨(Nat.le_of_ble_eq_true rfl), (Nat.le_of_ble_eq_true rfl)⟩ dX8_letterFor_3 (fun b_2 G_1 h => ?_)
  refine aw_if_ne (tgt := 13) F dX8_letterFor_6 (by decide) (fun c_3 => ?_) (fun c_3 => ?_)
  · replace h := h.2 (bI_1 c_3)
    refine aw_il_n F 2 dX8_letterFor_13 rfl rfl ?_
    refine aw_cSb (stk := [.ref (sdX X 24 0)]) F T.room [.int x2] (k_X8_isDay hP h) ms_X8_isDay w_1461 rfl rfl (Nat.le_of_ble_eq_true rfl) ⟨(Nat.le_of_ble_eq_true rfl), (Nat.le_of_ble_eq_true rfl)⟩ ⟨(Nat.le_of_ble_eq_true rfl), (Nat.le_of_ble_eq_true rfl)⟩ dX8_letterFor_14 (fun b_5 G_4 h => ?_)
    refine aw_if_ne (tgt := 24) F dX8_letterFor_17 (by decide) (fun c_6 => ?_) (fun c_6 => ?_)
    · replace h := h.2 (bI_1 c_6)
      refine aw_ic F dX8_letterFor_24 ic_0 ?_
      exact kj_X8_letterFor_25 F T h
    · replace h := h.1 (bI_2 c_6)
      refine aw_ic F dX8_letterFor_20 ic_2 ?_
      refine aw_go (tgt := 25) F dX8_letterFor_21 (by decide) ?_
      exact kj_X8_letterFor_25 F T h
  · replace h := h.1 (bI_2 c_3)
    refine aw_ic F dX8_letterFor_9 ic_1 ?_
    refine aw_go (tgt := 25) F dX8_letterFor_10 (by decide) ?_
    exact kj_X8_letterFor_25 F T h
-- X8_keep (height 0)
def lb_X8_keep_54 (post : GH → Prop) (P54 : Int32 → GH → Prop) (v1 : Int32) (G : GH) : Prop :=
  (((681 : Int32) ≤ v1 → (∀ G_3 : GH, G_3 = gs G 24 0 (upd (G 24 0) 4 ((G 24 0 4) + (1 : Int32))) → (∀ G_4 : GH, G_4 = gs G_3 24 0 (upd (G_3 24 0) 7 (0 : Int32)) → post G_4))) ∧ (¬ (681 : Int32) ≤ v1 → (vp_in v1 681 ∧ (vp_in (((681 : Int32) * (G 24 0 4)) + v1) 8172 ∧ (∀ G_5 : GH, G_5 = gs G 24 4 (upd (G 24 4) (((681 : Int32) * (G 24 0 4)) + v1).toNatClampNeg (G 24 1 v1.toNatClampNeg)) → P54 (v1 + (1 : Int32)) G_5)))))
def lp_X8_keep_54 (post : GH → Prop) (v1 : Int32) (G : GH) : Prop := ∀ P54 : Int32 → GH → Prop, (∀ (v1 : Int32) (G : GH), lb_X8_keep_54 post P54 v1 G → P54 v1 G) → P54 v1 G
def j_X8_keep_52 (post : GH → Prop) (G : GH) : Prop :=
  lp_X8_keep_54 post (0 : Int32) G
def lb_X8_keep_13 (post : GH → Prop) (P13 : Int32 → GH → Prop) (v1 : Int32) (G : GH) : Prop :=
  (((8172 : Int32) ≤ v1 → (∀ G_7 : GH, G_7 = gs G 24 0 (upd (G 24 0) 4 ((G 24 0 4) - (1 : Int32))) → j_X8_keep_52 post G_7)) ∧ (¬ (8172 : Int32) ≤ v1 → (vp_in v1 8172 ∧ (vp_in (v1 - (681 : Int32)) 8172 ∧ (∀ G_8 : GH, G_8 = gs G 24 4 (upd (G 24 4) (v1 - (681 : Int32)).toNatClampNeg (G 24 4 v1.toNatClampNeg)) → P13 (v1 + (1 : Int32)) G_8)))))
def lp_X8_keep_13 (post : GH → Prop) (v1 : Int32) (G : GH) : Prop := ∀ P13 : Int32 → GH → Prop, (∀ (v1 : Int32) (G : GH), lb_X8_keep_13 post P13 v1 G → P13 v1 G) → P13 v1 G
def wp_X8_keep (post : GH → Prop) (G : GH) : Prop :=
  (((G 24 0 4) = (12 : Int32) → lp_X8_keep_13 post (681 : Int32) G) ∧ (¬ (G 24 0 4) = (12 : Int32) → j_X8_keep_52 post G))
set_option maxRecDepth 100000 in
set_option maxHeartbeats 4000000 in
theorem kl_X8_keep_54 {E : Ev} {X : Cx} {post : GH → Prop} {v1 : Int32} {G : GH} (F : Fx E X "MarkFieldModel" cX8_keep 2) (T : RT E X 0 0 0 none (pV post)) (h : lp_X8_keep_54 post v1 G) : AW E X 2 54 [(0, .ref (sdX X 24 0)), (1, .int v1)] [] G 0 0 := by
  have hP := F.P
  have K54 : ∀ (v1 : Int32) (G : GH), AW E X 2 54 [(0, .ref (sdX X 24 0)), (1, .int v1)] [] G 0 0 → AW E X 2 54 [(0, .ref (sdX X 24 0)), (1, .int v1)] [] G 0 0 := fun _ _ q => q
  refine h (fun (v1 : Int32) (G : GH) => AW E X 2 54 [(0, .ref (sdX X 24 0)), (1, .int v1)] [] G 0 0) (fun (v1 : Int32) (G : GH) h => ?_)
  refine aw_il_n F 1 dX8_keep_54 rfl rfl ?_
  refine aw_si F dX8_keep_55 si_681 ?_
  refine aw_icmp_ge (tgt := 88) F dX8_keep_58 (by decide) (fun c_2 => ?_) (fun c_2 => ?_)
  · replace h := h.1 c_2
    refine aw_al_n F 0 dX8_keep_88 rfl rfl ?_
    refine aw_dup F dX8_keep_89 rfl ?_
    refine gf8_4 F (lo_s rfl) (hP _ rfl) rfl w_1164 dX8_keep_90 ?_
    refine aw_ic F dX8_keep_93 ic_1 ?_
    refine aw_iadd F dX8_keep_94 ?_
    refine pf8_4 F (lo_s rfl) (hP _ rfl) rfl w_1164 dX8_keep_95 (fun G_3 eG_3 => ?_)
    replace h := h G_3 eG_3
    refine aw_al_n F 0 dX8_keep_98 rfl rfl ?_
    refine aw_ic F dX8_keep_99 ic_0 ?_
    refine pf8_7 F (lo_s rfl) (hP _ rfl) rfl w_1167 (Or.inl rfl) dX8_keep_100 (fun G_4 eG_4 => ?_)
    replace h := h G_4 eG_4
    exact aw_vret F T (Nat.le_of_ble_eq_true rfl) (Nat.le_of_ble_eq_true rfl) ⟨rfl, h⟩ dX8_keep_103
  · replace h := h.2 c_2
    refine aw_al_n F 0 dX8_keep_61 rfl rfl ?_
    refine gr8_3 F (lo_s rfl) (hP _ rfl) rfl w_1163 (hP _ rfl) dX8_keep_62 ?_
    refine aw_si F dX8_keep_65 si_681 ?_
    refine aw_al_n F 0 dX8_keep_68 rfl rfl ?_
    refine gf8_4 F (lo_s rfl) (hP _ rfl) rfl w_1164 dX8_keep_69 ?_
    refine aw_imul F dX8_keep_72 ?_
    refine aw_il_n F 1 dX8_keep_73 rfl rfl ?_
    refine aw_iadd F dX8_keep_74 ?_
    refine aw_al_n F 0 dX8_keep_75 rfl rfl ?_
    refine gr8_0 F (lo_s rfl) (hP _ rfl) rfl w_1160 (hP _ rfl) dX8_keep_76 ?_
    refine aw_il_n F 1 dX8_keep_79 rfl rfl ?_
    refine aw_iald F 24 1 (lo_s rfl) (hP _ rfl) rfl h.1 dX8_keep_80 ?_
    replace h := h.2
    refine aw_iast F 24 4 (lo_s rfl) (hP _ rfl) rfl h.1 dX8_keep_81 ?_
    refine aw_nG (fun G_5 eG_5 => ?_)
    replace h := h.2 G_5 eG_5
    refine aw_inc (lv1 := [(1, .int (v1 + (1 : Int32))), (0, .ref (sdX X 24 0))]) F 1 dX8_keep_82 rfl (in_1 _) (by decide) rfl ?_
    refine aw_go (tgt := 54) F dX8_keep_85 (by decide) ?_
    refine aw_sub [1, 0] rfl ?_
    exact K54 _ _ h
set_option maxRecDepth 100000 in
set_option maxHeartbeats 4000000 in
theorem kj_X8_keep_52 {E : Ev} {X : Cx} {post : GH → Prop} {G : GH} (F : Fx E X "MarkFieldModel" cX8_keep 2) (T : RT E X 0 0 0 none (pV post)) (h : j_X8_keep_52 post G) : AW E X 2 52 [(0, .ref (sdX X 24 0))] [] G 0 0 := by
  have hP := F.P
  refine aw_ic F dX8_keep_52 ic_0 ?_
  refine aw_is_n (lv1 := [(1, .int (0 : Int32)), (0, .ref (sdX X 24 0))]) F dX8_keep_53 rfl (by decide) rfl ?_
  refine aw_sub [1, 0] rfl ?_
  exact kl_X8_keep_54 F T h
set_option maxRecDepth 100000 in
set_option maxHeartbeats 4000000 in
theorem kl_X8_keep_13 {E : Ev} {X : Cx} {post : GH → Prop} {v1 : Int32} {G : GH} (F : Fx E X "MarkFieldModel" cX8_keep 2) (T : RT E X 0 0 0 none (pV post)) (h : lp_X8_keep_13 post v1 G) : AW E X 2 13 [(0, .ref (sdX X 24 0)), (1, .int v1)] [] G 0 0 := by
  have hP := F.P
  have K13 : ∀ (v1 : Int32) (G : GH), AW E X 2 13 [(0, .ref (sdX X 24 0)), (1, .int v1)] [] G 0 0 → AW E X 2 13 [(0, .ref (sdX X 24 0)), (1, .int v1)] [] G 0 0 := fun _ _ q => q
  refine h (fun (v1 : Int32) (G : GH) => AW E X 2 13 [(0, .ref (sdX X 24 0)), (1, .int v1)] [] G 0 0) (fun (v1 : Int32) (G : GH) h => ?_)
  refine aw_il_n F 1 dX8_keep_13 rfl rfl ?_
  refine aw_si F dX8_keep_14 si_8172 ?_
  refine aw_icmp_ge (tgt := 42) F dX8_keep_17 (by decide) (fun c_6 => ?_) (fun c_6 => ?_)
  · replace h := h.1 c_6
    refine aw_al_n F 0 dX8_keep_42 rfl rfl ?_
    refine aw_dup F dX8_keep_43 rfl ?_
    refine gf8_4 F (lo_s rfl) (hP _ rfl) rfl w_1164 dX8_keep_44 ?_
    refine aw_ic F dX8_keep_47 ic_1 ?_
    refine aw_isub F dX8_keep_48 ?_
    refine pf8_4 F (lo_s rfl) (hP _ rfl) rfl w_1164 dX8_keep_49 (fun G_7 eG_7 => ?_)
    replace h := h G_7 eG_7
    refine aw_sub [0] rfl ?_
    exact kj_X8_keep_52 F T h
  · replace h := h.2 c_6
    refine aw_al_n F 0 dX8_keep_20 rfl rfl ?_
    refine gr8_3 F (lo_s rfl) (hP _ rfl) rfl w_1163 (hP _ rfl) dX8_keep_21 ?_
    refine aw_il_n F 1 dX8_keep_24 rfl rfl ?_
    refine aw_si F dX8_keep_25 si_681 ?_
    refine aw_isub F dX8_keep_28 ?_
    refine aw_al_n F 0 dX8_keep_29 rfl rfl ?_
    refine gr8_3 F (lo_s rfl) (hP _ rfl) rfl w_1163 (hP _ rfl) dX8_keep_30 ?_
    refine aw_il_n F 1 dX8_keep_33 rfl rfl ?_
    refine aw_iald F 24 4 (lo_s rfl) (hP _ rfl) rfl h.1 dX8_keep_34 ?_
    replace h := h.2
    refine aw_iast F 24 4 (lo_s rfl) (hP _ rfl) rfl h.1 dX8_keep_35 ?_
    refine aw_nG (fun G_8 eG_8 => ?_)
    replace h := h.2 G_8 eG_8
    refine aw_inc (lv1 := [(1, .int (v1 + (1 : Int32))), (0, .ref (sdX X 24 0))]) F 1 dX8_keep_36 rfl (in_1 _) (by decide) rfl ?_
    refine aw_go (tgt := 13) F dX8_keep_39 (by decide) ?_
    refine aw_sub [1, 0] rfl ?_
    exact K13 _ _ h
set_option maxRecDepth 100000 in
set_option maxHeartbeats 4000000 in
theorem k_X8_keep {l : Launch} {E : Ev} {P : Nat → Prop} {sd : Nat → Nat → Nat} {G : GH} {post : GH → Prop} (hPP : ∀ o, stt o = true → P o) (h : wp_X8_keep post G) : Ct l yX8_keep cX8_keep 2 none 0 0 0 E P sd G [.ref (sd 24 0)] (pV post) := by
  refine ct_of (own := "MarkFieldModel") (by decide) rfl (Nat.le_of_ble_eq_true rfl) hPP (fun X F T el eP es => ?_)
  subst el; subst eP; subst es
  have hP := F.P
  change AW E X 2 0 [(0, .ref (sdX X 24 0))] [] G 0 0
  refine aw_al_n F 0 dX8_keep_0 rfl rfl ?_
  refine gf8_4 F (lo_s rfl) (hP _ rfl) rfl w_1164 dX8_keep_1 ?_
  refine aw_bi F dX8_keep_4 bi_12 ?_
  refine aw_icmp_ne (tgt := 52) F dX8_keep_6 (by decide) (fun c_1 => ?_) (fun c_1 => ?_)
  · replace h := h.2 c_1
    exact kj_X8_keep_52 F T h
  · replace h := h.1 c_1
    refine aw_si F dX8_keep_9 si_681 ?_
    refine aw_is_n (lv1 := [(1, .int (681 : Int32)), (0, .ref (sdX X 24 0))]) F dX8_keep_12 rfl (by decide) rfl ?_
    refine aw_sub [1, 0] rfl ?_
    exact kl_X8_keep_13 F T h
-- X8_undo (height 0)
def lb_X8_undo_26 (post : Int32 → GH → Prop) (P26 : Int32 → GH → Prop) (v1 : Int32) (G : GH) : Prop :=
  (((681 : Int32) ≤ v1 → (∀ G_5 : GH, G_5 = gs G 24 0 (upd (G 24 0) 7 (0 : Int32)) → post (G_5 24 0 4) G_5)) ∧ (¬ (681 : Int32) ≤ v1 → (vp_in (((681 : Int32) * (G 24 0 4)) + v1) 8172 ∧ (vp_in v1 681 ∧ (∀ G_6 : GH, G_6 = gs G 24 1 (upd (G 24 1) v1.toNatClampNeg (G 24 4 (((681 : Int32) * (G 24 0 4)) + v1).toNatClampNeg)) → P26 (v1 + (1 : Int32)) G_6)))))
def lp_X8_undo_26 (post : Int32 → GH → Prop) (v1 : Int32) (G : GH) : Prop := ∀ P26 : Int32 → GH → Prop, (∀ (v1 : Int32) (G : GH), lb_X8_undo_26 post P26 v1 G → P26 v1 G) → P26 v1 G
def wp_X8_undo (post : Int32 → GH → Prop) (G : GH) : Prop :=
  (∀ G_1 : GH, G_1 = gs G 24 0 (upd (G 24 0) 5 (0 : Int32)) → (((G_1 24 0 4) = 0 → post (-1 : Int32) G_1) ∧ (¬ (G_1 24 0 4) = 0 → (∀ G_3 : GH, G_3 = gs G_1 24 0 (upd (G_1 24 0) 4 ((G_1 24 0 4) - (1 : Int32))) → lp_X8_undo_26 post (0 : Int32) G_3))))
set_option maxRecDepth 100000 in
set_option maxHeartbeats 4000000 in
theorem kl_X8_undo_26 {E : Ev} {X : Cx} {post : Int32 → GH → Prop} {v1 : Int32} {G : GH} (F : Fx E X "MarkFieldModel" cX8_undo 2) (T : RT E X 0 0 0 (some .int) (pI post)) (h : lp_X8_undo_26 post v1 G) : AW E X 2 26 [(0, .ref (sdX X 24 0)), (1, .int v1)] [] G 0 0 := by
  have hP := F.P
  have K26 : ∀ (v1 : Int32) (G : GH), AW E X 2 26 [(0, .ref (sdX X 24 0)), (1, .int v1)] [] G 0 0 → AW E X 2 26 [(0, .ref (sdX X 24 0)), (1, .int v1)] [] G 0 0 := fun _ _ q => q
  refine h (fun (v1 : Int32) (G : GH) => AW E X 2 26 [(0, .ref (sdX X 24 0)), (1, .int v1)] [] G 0 0) (fun (v1 : Int32) (G : GH) h => ?_)
  refine aw_il_n F 1 dX8_undo_26 rfl rfl ?_
  refine aw_si F dX8_undo_27 si_681 ?_
  refine aw_icmp_ge (tgt := 60) F dX8_undo_30 (by decide) (fun c_4 => ?_) (fun c_4 => ?_)
  · replace h := h.1 c_4
    refine aw_al_n F 0 dX8_undo_60 rfl rfl ?_
    refine aw_ic F dX8_undo_61 ic_0 ?_
    refine pf8_7 F (lo_s rfl) (hP _ rfl) rfl w_1167 (Or.inl rfl) dX8_undo_62 (fun G_5 eG_5 => ?_)
    replace h := h G_5 eG_5
    refine aw_al_n F 0 dX8_undo_65 rfl rfl ?_
    refine gf8_4 F (lo_s rfl) (hP _ rfl) rfl w_1164 dX8_undo_66 ?_
    exact aw_iret F T (Nat.le_of_ble_eq_true rfl) (Nat.le_of_ble_eq_true rfl) ⟨_, rfl, h⟩ dX8_undo_69
  · replace h := h.2 c_4
    refine aw_al_n F 0 dX8_undo_33 rfl rfl ?_
    refine gr8_0 F (lo_s rfl) (hP _ rfl) rfl w_1160 (hP _ rfl) dX8_undo_34 ?_
    refine aw_il_n F 1 dX8_undo_37 rfl rfl ?_
    refine aw_al_n F 0 dX8_undo_38 rfl rfl ?_
    refine gr8_3 F (lo_s rfl) (hP _ rfl) rfl w_1163 (hP _ rfl) dX8_undo_39 ?_
    refine aw_si F dX8_undo_42 si_681 ?_
    refine aw_al_n F 0 dX8_undo_45 rfl rfl ?_
    refine gf8_4 F (lo_s rfl) (hP _ rfl) rfl w_1164 dX8_undo_46 ?_
    refine aw_imul F dX8_undo_49 ?_
    refine aw_il_n F 1 dX8_undo_50 rfl rfl ?_
    refine aw_iadd F dX8_undo_51 ?_
    refine aw_iald F 24 4 (lo_s rfl) (hP _ rfl) rfl h.1 dX8_undo_52 ?_
    replace h := h.2
    refine aw_iast F 24 1 (lo_s rfl) (hP _ rfl) rfl h.1 dX8_undo_53 ?_
    refine aw_nG (fun G_6 eG_6 => ?_)
    replace h := h.2 G_6 eG_6
    refine aw_inc (lv1 := [(1, .int (v1 + (1 : Int32))), (0, .ref (sdX X 24 0))]) F 1 dX8_undo_54 rfl (in_1 _) (by decide) rfl ?_
    refine aw_go (tgt := 26) F dX8_undo_57 (by decide) ?_
    refine aw_sub [1, 0] rfl ?_
    exact K26 _ _ h
set_option maxRecDepth 100000 in
set_option maxHeartbeats 4000000 in
theorem k_X8_undo {l : Launch} {E : Ev} {P : Nat → Prop} {sd : Nat → Nat → Nat} {G : GH} {post : Int32 → GH → Prop} (hPP : ∀ o, stt o = true → P o) (h : wp_X8_undo post G) : Ct l yX8_undo cX8_undo 2 (some .int) 0 0 0 E P sd G [.ref (sd 24 0)] (pI post) := by
  refine ct_of (own := "MarkFieldModel") (by decide) rfl (Nat.le_of_ble_eq_true rfl) hPP (fun X F T el eP es => ?_)
  subst el; subst eP; subst es
  have hP := F.P
  change AW E X 2 0 [(0, .ref (sdX X 24 0))] [] G 0 0
  refine aw_al_n F 0 dX8_undo_0 rfl rfl ?_
  refine aw_ic F dX8_undo_1 ic_0 ?_
  refine pf8_5 F (lo_s rfl) (hP _ rfl) rfl w_1165 dX8_undo_2 (fun G_1 eG_1 => ?_)
  replace h := h G_1 eG_1
  refine aw_al_n F 0 dX8_undo_5 rfl rfl ?_
  refine gf8_4 F (lo_s rfl) (hP _ rfl) rfl w_1164 dX8_undo_6 ?_
  refine aw_if_ne (tgt := 14) F dX8_undo_9 (by decide) (fun c_2 => ?_) (fun c_2 => ?_)
  · replace h := h.2 c_2
    refine aw_al_n F 0 dX8_undo_14 rfl rfl ?_
    refine aw_dup F dX8_undo_15 rfl ?_
    refine gf8_4 F (lo_s rfl) (hP _ rfl) rfl w_1164 dX8_undo_16 ?_
    refine aw_ic F dX8_undo_19 ic_1 ?_
    refine aw_isub F dX8_undo_20 ?_
    refine pf8_4 F (lo_s rfl) (hP _ rfl) rfl w_1164 dX8_undo_21 (fun G_3 eG_3 => ?_)
    replace h := h G_3 eG_3
    refine aw_ic F dX8_undo_24 ic_0 ?_
    refine aw_is_n (lv1 := [(1, .int (0 : Int32)), (0, .ref (sdX X 24 0))]) F dX8_undo_25 rfl (by decide) rfl ?_
    refine aw_sub [1, 0] rfl ?_
    exact kl_X8_undo_26 F T h
  · replace h := h.1 c_2
    refine aw_ic F dX8_undo_12 ic_m1 ?_
    exact aw_iret F T (Nat.le_of_ble_eq_true rfl) (Nat.le_of_ble_eq_true rfl) ⟨_, rfl, h⟩ dX8_undo_13
-- X8_file (height 2)
def j_X8_file_36 (post : Int32 → GH → Prop) (v1 v2 v3 s1 : Int32) (G : GH) : Prop :=
  (∀ G_4 : GH, G_4 = gs G 24 0 (upd (G 24 0) 5 s1) → (((G_4 24 0 5) ≤ 0 → wp_X8_takesName (fun (b_7 : Bool) (G_6 : GH) => ((b_7 = false → post (-1000000000 : Int32) G_6) ∧ (b_7 = true → wp_X8_marks (fun (r_10 : Int32) (G_9 : GH) => ((r_10 = (12 : Int32) → post (-1 : Int32) G_9) ∧ (¬ r_10 = (12 : Int32) → wp_X8_keep (fun (G_12 : GH) => wp_X8_adds (fun (r_15 : Int32) (G_14 : GH) => post r_15 G_14) v2 v3 G_12) G_9))) G_6))) v1 G_4) ∧ (¬ (G_4 24 0 5) ≤ 0 → post (0 : Int32) G_4)))
def j_X8_file_31 (post : Int32 → GH → Prop) (v1 v2 v3 : Int32) (G : GH) : Prop :=
  j_X8_file_36 post v1 v2 v3 (1 : Int32) G
def wp_X8_file (post : Int32 → GH → Prop) (x1 x2 x3 : Int32) (G : GH) : Prop :=
  wp_X8_within (fun (b_2 : Bool) (G_1 : GH) => ((b_2 = false → j_X8_file_31 post x1 x2 x3 G_1) ∧ (b_2 = true → wp_X8_isDay (fun (b_17 : Bool) (G_16 : GH) => ((b_17 = false → j_X8_file_31 post x1 x2 x3 G_16) ∧ (b_17 = true → wp_X8_within (fun (b_20 : Bool) (G_19 : GH) => ((b_20 = false → j_X8_file_31 post x1 x2 x3 G_19) ∧ (b_20 = true → j_X8_file_36 post x1 x2 x3 (0 : Int32) G_19))) x1 (0 : Int32) (G_16 24 0 32) G_16))) x3 G_1))) x2 (0 : Int32) (1023 : Int32) G
set_option maxRecDepth 100000 in
set_option maxHeartbeats 4000000 in
theorem kj_X8_file_36 {E : Ev} {X : Cx} {post : Int32 → GH → Prop} {v1 v2 v3 s1 : Int32} {G : GH} (F : Fx E X "MarkFieldModel" cX8_file 4) (T : RT E X 2 0 0 (some .int) (pI post)) (h : j_X8_file_36 post v1 v2 v3 s1 G) : AW E X 4 36 [(0, .ref (sdX X 24 0)), (1, .int v1), (2, .int v2), (3, .int v3)] [.int s1, .ref (sdX X 24 0)] G 0 0 := by
  have hP := F.P
  refine pf8_5 F (lo_s rfl) (hP _ rfl) rfl w_1165 dX8_file_36 (fun G_4 eG_4 => ?_)
  replace h := h G_4 eG_4
  refine aw_al_n F 0 dX8_file_39 rfl rfl ?_
  refine gf8_5 F (lo_s rfl) (hP _ rfl) rfl w_1165 dX8_file_40 ?_
  refine aw_if_le (tgt := 48) F dX8_file_43 (by decide) (fun c_5 => ?_) (fun c_5 => ?_)
  · replace h := h.1 c_5
    refine aw_al_n F 0 dX8_file_48 rfl rfl ?_
    refine aw_il_n F 1 dX8_file_49 rfl rfl ?_
    refine aw_cVb (stk := []) F T.room [.int v1] (k_X8_takesName hP h) mv_X8_takesName w_1540 cf8 (lo_s rfl) (hP _ rfl) rfl (by decide) rfl rfl (Nat.le_of_ble_eq_true rfl) ⟨(Nat.le_of_ble_eq_true rfl), (Nat.le_of_ble_eq_true rfl)⟩ ⟨(Nat.le_of_ble_eq_true rfl), (Nat.le_of_ble_eq_true rfl)⟩ dX8_file_50 (fun b_7 G_6 h => ?_)
    refine aw_if_ne (tgt := 60) F dX8_file_53 (by decide) (fun c_8 => ?_) (fun c_8 => ?_)
    · replace h := h.2 (bI_1 c_8)
      refine aw_al_n F 0 dX8_file_60 rfl rfl ?_
      refine aw_cVi (stk := []) F T.room [] (k_X8_marks hP h) mv_X8_marks w_1305 cf8 (lo_s rfl) (hP _ rfl) rfl (by decide) rfl rfl (Nat.le_of_ble_eq_true rfl) ⟨(Nat.le_of_ble_eq_true rfl), (Nat.le_of_ble_eq_true rfl)⟩ ⟨(Nat.le_of_ble_eq_true rfl), (Nat.le_of_ble_eq_true rfl)⟩ dX8_file_61 (fun r_10 G_9 h => ?_)
      refine aw_bi F dX8_file_64 bi_12 ?_
      refine aw_icmp_ne (tgt := 71) F dX8_file_66 (by decide) (fun c_11 => ?_) (fun c_11 => ?_)
      · replace h := h.2 c_11
        refine aw_al_n F 0 dX8_file_71 rfl rfl ?_
        refine aw_cVv (stk := []) F T.room [] (k_X8_keep hP h) mv_X8_keep w_1593 cf8 (lo_s rfl) (hP _ rfl) rfl (by decide) rfl rfl (Nat.le_of_ble_eq_true rfl) ⟨(Nat.le_of_ble_eq_true rfl), (Nat.le_of_ble_eq_true rfl)⟩ ⟨(Nat.le_of_ble_eq_true rfl), (Nat.le_of_ble_eq_true rfl)⟩ dX8_file_72 (fun G_12 h => ?_)
        refine aw_al_n F 0 dX8_file_75 rfl rfl ?_
        refine aw_il_n F 2 dX8_file_76 rfl rfl ?_
        refine aw_il_n F 3 dX8_file_77 rfl rfl ?_
        refine aw_cVi (stk := []) F T.room [.int v2, .int v3] (k_X8_adds hP h) mv_X8_adds w_1545 cf8 (lo_s rfl) (hP _ rfl) rfl (by decide) rfl rfl (Nat.le_of_ble_eq_true rfl) ⟨(Nat.le_of_ble_eq_true rfl), (Nat.le_of_ble_eq_true rfl)⟩ ⟨(Nat.le_of_ble_eq_true rfl), (Nat.le_of_ble_eq_true rfl)⟩ dX8_file_78 (fun r_15 G_14 h => ?_)
        exact aw_iret F T (Nat.le_of_ble_eq_true rfl) (Nat.le_of_ble_eq_true rfl) ⟨_, rfl, h⟩ dX8_file_81
      · replace h := h.1 c_11
        refine aw_ic F dX8_file_69 ic_m1 ?_
        exact aw_iret F T (Nat.le_of_ble_eq_true rfl) (Nat.le_of_ble_eq_true rfl) ⟨_, rfl, h⟩ dX8_file_70
    · replace h := h.1 (bI_2 c_8)
      refine aw_ldcw F dX8_file_56 w_1544 ?_
      exact aw_iret F T (Nat.le_of_ble_eq_true rfl) (Nat.le_of_ble_eq_true rfl) ⟨_, rfl, h⟩ dX8_file_59
  · replace h := h.2 c_5
    refine aw_ic F dX8_file_46 ic_0 ?_
    exact aw_iret F T (Nat.le_of_ble_eq_true rfl) (Nat.le_of_ble_eq_true rfl) ⟨_, rfl, h⟩ dX8_file_47
set_option maxRecDepth 100000 in
set_option maxHeartbeats 4000000 in
theorem kj_X8_file_31 {E : Ev} {X : Cx} {post : Int32 → GH → Prop} {v1 v2 v3 : Int32} {G : GH} (F : Fx E X "MarkFieldModel" cX8_file 4) (T : RT E X 2 0 0 (some .int) (pI post)) (h : j_X8_file_31 post v1 v2 v3 G) : AW E X 4 31 [(0, .ref (sdX X 24 0)), (1, .int v1), (2, .int v2), (3, .int v3)] [.ref (sdX X 24 0)] G 0 0 := by
  have hP := F.P
  refine aw_ic F dX8_file_31 ic_1 ?_
  refine aw_go (tgt := 36) F dX8_file_32 (by decide) ?_
  exact kj_X8_file_36 F T h
set_option maxRecDepth 100000 in
set_option maxHeartbeats 4000000 in
theorem k_X8_file {l : Launch} {E : Ev} {P : Nat → Prop} {sd : Nat → Nat → Nat} {G : GH} {post : Int32 → GH → Prop} {x1 x2 x3 : Int32} (hPP : ∀ o, stt o = true → P o) (h : wp_X8_file post x1 x2 x3 G) : Ct l yX8_file cX8_file 4 (some .int) 2 0 0 E P sd G [.ref (sd 24 0), .int x1, .int x2, .int x3] (pI post) := by
  refine ct_of (own := "MarkFieldModel") (by decide) rfl (Nat.le_of_ble_eq_true rfl) hPP (fun X F T el eP es => ?_)
  subst el; subst eP; subst es
  have hP := F.P
  change AW E X 4 0 [(0, .ref (sdX X 24 0)), (1, .int x1), (2, .int x2), (3, .int x3)] [] G 0 0
  refine aw_al_n F 0 dX8_file_0 rfl rfl ?_
  refine aw_il_n F 2 dX8_file_1 rfl rfl ?_
  refine aw_ic F dX8_file_2 ic_0 ?_
  refine aw_si F dX8_file_3 si_1023 ?_
  refine aw_cSb (stk := [.ref (sdX X 24 0)]) F T.room [.int x2, .int (0 : Int32), .int (1023 : Int32)] (k_X8_within hP h) ms_X8_within w_1427 rfl rfl (Nat.le_of_ble_eq_true rfl) ⟨(Nat.le_of_ble_eq_true rfl), (Nat.le_of_ble_eq_true rfl)⟩ ⟨(Nat.le_of_ble_eq_true rfl), (Nat.le_of_ble_eq_true rfl)⟩ dX8_file_6 (fun b_2 G_1 h => ?_)
  refine aw_if_eq (tgt := 31) F dX8_file_9 (by decide) (fun c_3 => ?_) (fun c_3 => ?_)
  · replace h := h.1 (bI_2 c_3)
    exact kj_X8_file_31 F T h
  · replace h := h.2 (bI_1 c_3)
    refine aw_il_n F 3 dX8_file_12 rfl rfl ?_
    refine aw_cSb (stk := [.ref (sdX X 24 0)]) F T.room [.int x3] (k_X8_isDay hP h) ms_X8_isDay w_1461 rfl rfl (Nat.le_of_ble_eq_true rfl) ⟨(Nat.le_of_ble_eq_true rfl), (Nat.le_of_ble_eq_true rfl)⟩ ⟨(Nat.le_of_ble_eq_true rfl), (Nat.le_of_ble_eq_true rfl)⟩ dX8_file_13 (fun b_17 G_16 h => ?_)
    refine aw_if_eq (tgt := 31) F dX8_file_16 (by decide) (fun c_18 => ?_) (fun c_18 => ?_)
    · replace h := h.1 (bI_2 c_18)
      exact kj_X8_file_31 F T h
    · replace h := h.2 (bI_1 c_18)
      refine aw_il_n F 1 dX8_file_19 rfl rfl ?_
      refine aw_ic F dX8_file_20 ic_0 ?_
      refine aw_al_n F 0 dX8_file_21 rfl rfl ?_
      refine gf8_32 F (lo_s rfl) (hP _ rfl) rfl w_1192 dX8_file_22 ?_
      refine aw_cSb (stk := [.ref (sdX X 24 0)]) F T.room [.int x1, .int (0 : Int32), .int (G_16 24 0 32)] (k_X8_within hP h) ms_X8_within w_1427 rfl rfl (Nat.le_of_ble_eq_true rfl) ⟨(Nat.le_of_ble_eq_true rfl), (Nat.le_of_ble_eq_true rfl)⟩ ⟨(Nat.le_of_ble_eq_true rfl), (Nat.le_of_ble_eq_true rfl)⟩ dX8_file_25 (fun b_20 G_19 h => ?_)
      refine aw_if_ne (tgt := 35) F dX8_file_28 (by decide) (fun c_21 => ?_) (fun c_21 => ?_)
      · replace h := h.2 (bI_1 c_21)
        refine aw_ic F dX8_file_35 ic_0 ?_
        exact kj_X8_file_36 F T h
      · replace h := h.1 (bI_2 c_21)
        exact kj_X8_file_31 F T h
