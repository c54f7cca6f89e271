theorem si_681 : (Int16.ofInt (681)).toInt32 = (681 : Int32) := by decide
theorem bi_30 : (Int8.ofInt (30)).toInt32 = (30 : Int32) := by decide
theorem bi_7 : (Int8.ofInt (7)).toInt32 = (7 : Int32) := by decide
theorem bi_18 : (Int8.ofInt (18)).toInt32 = (18 : Int32) := by decide
theorem bi_51 : (Int8.ofInt (51)).toInt32 = (51 : Int32) := by decide
theorem bi_112 : (Int8.ofInt (112)).toInt32 = (112 : Int32) := by decide
theorem bi_116 : (Int8.ofInt (116)).toInt32 = (116 : Int32) := by decide
theorem bi_115 : (Int8.ofInt (115)).toInt32 = (115 : Int32) := by decide
theorem bi_103 : (Int8.ofInt (103)).toInt32 = (103 : Int32) := by decide
theorem in_2 (x : Int32) : x + Int32.ofInt (2) = x + (2 : Int32) := by rw [show Int32.ofInt (2) = (2 : Int32) by decide]
theorem bi_108 : (Int8.ofInt (108)).toInt32 = (108 : Int32) := by decide
theorem bi_111 : (Int8.ofInt (111)).toInt32 = (111 : Int32) := by decide
theorem bi_98 : (Int8.ofInt (98)).toInt32 = (98 : Int32) := by decide
theorem bi_113 : (Int8.ofInt (113)).toInt32 = (113 : Int32) := by decide
theorem bi_106 : (Int8.ofInt (106)).toInt32 = (106 : Int32) := by decide
theorem bi_109 : (Int8.ofInt (109)).toInt32 = (109 : Int32) := by decide
theorem bi_110 : (Int8.ofInt (110)).toInt32 = (110 : Int32) := by decide
theorem bi_117 : (Int8.ofInt (117)).toInt32 = (117 : Int32) := by decide
theorem bi_118 : (Int8.ofInt (118)).toInt32 = (118 : Int32) := by decide
theorem bi_21 : (Int8.ofInt (21)).toInt32 = (21 : Int32) := by decide
theorem bi_11 : (Int8.ofInt (11)).toInt32 = (11 : Int32) := by decide
theorem bi_14 : (Int8.ofInt (14)).toInt32 = (14 : Int32) := by decide
theorem w_1165 : (Jvm.Cond.fieldLink "MarkFieldModel" (87 : Nat) "MarkFieldModel" "code" "I") ∈ tb := tb_of (List.mem_of_getElem? (i := 1165) (by decide +kernel)) rfl
theorem w_1160 : (Jvm.Cond.fieldLink "MarkFieldModel" (9 : Nat) "MarkFieldModel" "row" "[I") ∈ tb := tb_of (List.mem_of_getElem? (i := 1160) (by decide +kernel)) rfl
theorem w_1308 : (Jvm.Cond.code ({ cls := "MarkFieldModel", name := "marks", desc := "()I" } : Jvm.MethodName) prog_10_method_8_code (1 : Nat) (Option.some Jvm.ClassFile.FieldType.int)) ∈ tb := tb_of (List.mem_of_getElem? (i := 1308) (by decide +kernel)) rfl
theorem w_10 : (Jvm.Cond.initialized "MarkFieldModel") ∈ tb := tb_of (List.mem_of_getElem? (i := 10) (by decide +kernel)) rfl
theorem w_1307 : (Jvm.Cond.instanceMethod ({ cls := "MarkFieldModel", name := "marks", desc := "()I" } : Jvm.MethodName)) ∈ tb := tb_of (List.mem_of_getElem? (i := 1307) (by decide +kernel)) rfl
theorem ws_39 : (Jvm.Cond.selects "MarkFieldModel" ({ cls := "MarkFieldModel", name := "marks", desc := "()I" } : Jvm.MethodName) ({ cls := "MarkFieldModel", name := "marks", desc := "()I" } : Jvm.MethodName)) ∈ tb := tb_sel (List.mem_of_getElem? (i := 39) (by decide +kernel)) rfl
theorem w_1305 : (Jvm.Cond.methodLink "MarkFieldModel" (90 : Nat) ({ cls := "MarkFieldModel", name := "marks", desc := "()I" } : Jvm.MethodName)) ∈ tb := tb_of (List.mem_of_getElem? (i := 1305) (by decide +kernel)) rfl
theorem w_1429 : (Jvm.Cond.code ({ cls := "MarkFieldModel", name := "within", desc := "(III)Z" } : Jvm.MethodName) prog_10_method_4_code (3 : Nat) (Option.some Jvm.ClassFile.FieldType.boolean)) ∈ tb := tb_of (List.mem_of_getElem? (i := 1429) (by decide +kernel)) rfl
theorem w_1428 : (Jvm.Cond.static ({ cls := "MarkFieldModel", name := "within", desc := "(III)Z" } : Jvm.MethodName)) ∈ tb := tb_of (List.mem_of_getElem? (i := 1428) (by decide +kernel)) rfl
theorem w_1427 : (Jvm.Cond.methodLink "MarkFieldModel" (94 : Nat) ({ cls := "MarkFieldModel", name := "within", desc := "(III)Z" } : Jvm.MethodName)) ∈ tb := tb_of (List.mem_of_getElem? (i := 1427) (by decide +kernel)) rfl
theorem w_1403 : (Jvm.Cond.code ({ cls := "MarkFieldModel", name := "halvesMany", desc := "()I" } : Jvm.MethodName) prog_10_method_9_code (1 : Nat) (Option.some Jvm.ClassFile.FieldType.int)) ∈ tb := tb_of (List.mem_of_getElem? (i := 1403) (by decide +kernel)) rfl
theorem w_1402 : (Jvm.Cond.instanceMethod ({ cls := "MarkFieldModel", name := "halvesMany", desc := "()I" } : Jvm.MethodName)) ∈ tb := tb_of (List.mem_of_getElem? (i := 1402) (by decide +kernel)) rfl
theorem ws_59 : (Jvm.Cond.selects "MarkFieldModel" ({ cls := "MarkFieldModel", name := "halvesMany", desc := "()I" } : Jvm.MethodName) ({ cls := "MarkFieldModel", name := "halvesMany", desc := "()I" } : Jvm.MethodName)) ∈ tb := tb_sel (List.mem_of_getElem? (i := 59) (by decide +kernel)) rfl
theorem w_1400 : (Jvm.Cond.methodLink "MarkFieldModel" (98 : Nat) ({ cls := "MarkFieldModel", name := "halvesMany", desc := "()I" } : Jvm.MethodName)) ∈ tb := tb_of (List.mem_of_getElem? (i := 1400) (by decide +kernel)) rfl
theorem w_1316 : (Jvm.Cond.code ({ cls := "MarkFieldModel", name := "of1", desc := "(II)I" } : Jvm.MethodName) prog_10_method_11_code (3 : Nat) (Option.some Jvm.ClassFile.FieldType.int)) ∈ tb := tb_of (List.mem_of_getElem? (i := 1316) (by decide +kernel)) rfl
theorem w_1315 : (Jvm.Cond.instanceMethod ({ cls := "MarkFieldModel", name := "of1", desc := "(II)I" } : Jvm.MethodName)) ∈ tb := tb_of (List.mem_of_getElem? (i := 1315) (by decide +kernel)) rfl
theorem ws_41 : (Jvm.Cond.selects "MarkFieldModel" ({ cls := "MarkFieldModel", name := "of1", desc := "(II)I" } : Jvm.MethodName) ({ cls := "MarkFieldModel", name := "of1", desc := "(II)I" } : Jvm.MethodName)) ∈ tb := tb_sel (List.mem_of_getElem? (i := 41) (by decide +kernel)) rfl
theorem w_1313 : (Jvm.Cond.methodLink "MarkFieldModel" (101 : Nat) ({ cls := "MarkFieldModel", name := "of1", desc := "(II)I" } : Jvm.MethodName)) ∈ tb := tb_of (List.mem_of_getElem? (i := 1313) (by decide +kernel)) rfl
theorem w_1328 : (Jvm.Cond.code ({ cls := "MarkFieldModel", name := "letterAt", desc := "(II)I" } : Jvm.MethodName) prog_10_method_16_code (3 : Nat) (Option.some Jvm.ClassFile.FieldType.int)) ∈ tb := tb_of (List.mem_of_getElem? (i := 1328) (by decide +kernel)) rfl
theorem w_1327 : (Jvm.Cond.instanceMethod ({ cls := "MarkFieldModel", name := "letterAt", desc := "(II)I" } : Jvm.MethodName)) ∈ tb := tb_of (List.mem_of_getElem? (i := 1327) (by decide +kernel)) rfl
theorem ws_44 : (Jvm.Cond.selects "MarkFieldModel" ({ cls := "MarkFieldModel", name := "letterAt", desc := "(II)I" } : Jvm.MethodName) ({ cls := "MarkFieldModel", name := "letterAt", desc := "(II)I" } : Jvm.MethodName)) ∈ tb := tb_sel (List.mem_of_getElem? (i := 44) (by decide +kernel)) rfl
theorem w_1325 : (Jvm.Cond.methodLink "MarkFieldModel" (105 : Nat) ({ cls := "MarkFieldModel", name := "letterAt", desc := "(II)I" } : Jvm.MethodName)) ∈ tb := tb_of (List.mem_of_getElem? (i := 1325) (by decide +kernel)) rfl
theorem w_1169 : (Jvm.Cond.fieldLink "MarkFieldModel" (25 : Nat) "MarkFieldModel" "sounds" "[I") ∈ tb := tb_of (List.mem_of_getElem? (i := 1169) (by decide +kernel)) rfl
theorem w_1168 : (Jvm.Cond.fieldLink "MarkFieldModel" (22 : Nat) "MarkFieldModel" "sound" "[I") ∈ tb := tb_of (List.mem_of_getElem? (i := 1168) (by decide +kernel)) rfl
theorem w_1324 : (Jvm.Cond.code ({ cls := "MarkFieldModel", name := "isPair", desc := "(IIII)Z" } : Jvm.MethodName) prog_10_method_17_code (5 : Nat) (Option.some Jvm.ClassFile.FieldType.boolean)) ∈ tb := tb_of (List.mem_of_getElem? (i := 1324) (by decide +kernel)) rfl
theorem w_1323 : (Jvm.Cond.instanceMethod ({ cls := "MarkFieldModel", name := "isPair", desc := "(IIII)Z" } : Jvm.MethodName)) ∈ tb := tb_of (List.mem_of_getElem? (i := 1323) (by decide +kernel)) rfl
theorem ws_43 : (Jvm.Cond.selects "MarkFieldModel" ({ cls := "MarkFieldModel", name := "isPair", desc := "(IIII)Z" } : Jvm.MethodName) ({ cls := "MarkFieldModel", name := "isPair", desc := "(IIII)Z" } : Jvm.MethodName)) ∈ tb := tb_sel (List.mem_of_getElem? (i := 43) (by decide +kernel)) rfl
theorem w_1321 : (Jvm.Cond.methodLink "MarkFieldModel" (108 : Nat) ({ cls := "MarkFieldModel", name := "isPair", desc := "(IIII)Z" } : Jvm.MethodName)) ∈ tb := tb_of (List.mem_of_getElem? (i := 1321) (by decide +kernel)) rfl
theorem w_1320 : (Jvm.Cond.code ({ cls := "MarkFieldModel", name := "pairAt", desc := "(II)I" } : Jvm.MethodName) prog_10_method_19_code (3 : Nat) (Option.some Jvm.ClassFile.FieldType.int)) ∈ tb := tb_of (List.mem_of_getElem? (i := 1320) (by decide +kernel)) rfl
theorem w_1319 : (Jvm.Cond.instanceMethod ({ cls := "MarkFieldModel", name := "pairAt", desc := "(II)I" } : Jvm.MethodName)) ∈ tb := tb_of (List.mem_of_getElem? (i := 1319) (by decide +kernel)) rfl
theorem ws_42 : (Jvm.Cond.selects "MarkFieldModel" ({ cls := "MarkFieldModel", name := "pairAt", desc := "(II)I" } : Jvm.MethodName) ({ cls := "MarkFieldModel", name := "pairAt", desc := "(II)I" } : Jvm.MethodName)) ∈ tb := tb_sel (List.mem_of_getElem? (i := 42) (by decide +kernel)) rfl
theorem w_1317 : (Jvm.Cond.methodLink "MarkFieldModel" (112 : Nat) ({ cls := "MarkFieldModel", name := "pairAt", desc := "(II)I" } : Jvm.MethodName)) ∈ tb := tb_of (List.mem_of_getElem? (i := 1317) (by decide +kernel)) rfl
theorem w_1336 : (Jvm.Cond.code ({ cls := "MarkFieldModel", name := "singleAt", desc := "(II)I" } : Jvm.MethodName) prog_10_method_20_code (4 : Nat) (Option.some Jvm.ClassFile.FieldType.int)) ∈ tb := tb_of (List.mem_of_getElem? (i := 1336) (by decide +kernel)) rfl
theorem w_1335 : (Jvm.Cond.instanceMethod ({ cls := "MarkFieldModel", name := "singleAt", desc := "(II)I" } : Jvm.MethodName)) ∈ tb := tb_of (List.mem_of_getElem? (i := 1335) (by decide +kernel)) rfl
theorem ws_46 : (Jvm.Cond.selects "MarkFieldModel" ({ cls := "MarkFieldModel", name := "singleAt", desc := "(II)I" } : Jvm.MethodName) ({ cls := "MarkFieldModel", name := "singleAt", desc := "(II)I" } : Jvm.MethodName)) ∈ tb := tb_sel (List.mem_of_getElem? (i := 46) (by decide +kernel)) rfl
theorem w_1333 : (Jvm.Cond.methodLink "MarkFieldModel" (119 : Nat) ({ cls := "MarkFieldModel", name := "singleAt", desc := "(II)I" } : Jvm.MethodName)) ∈ tb := tb_of (List.mem_of_getElem? (i := 1333) (by decide +kernel)) rfl
theorem w_1332 : (Jvm.Cond.code ({ cls := "MarkFieldModel", name := "hears", desc := "(II)V" } : Jvm.MethodName) prog_10_method_18_code (4 : Nat) (Option.none : Option Jvm.ClassFile.FieldType)) ∈ tb := tb_of (List.mem_of_getElem? (i := 1332) (by decide +kernel)) rfl
theorem w_1331 : (Jvm.Cond.instanceMethod ({ cls := "MarkFieldModel", name := "hears", desc := "(II)V" } : Jvm.MethodName)) ∈ tb := tb_of (List.mem_of_getElem? (i := 1331) (by decide +kernel)) rfl
theorem ws_45 : (Jvm.Cond.selects "MarkFieldModel" ({ cls := "MarkFieldModel", name := "hears", desc := "(II)V" } : Jvm.MethodName) ({ cls := "MarkFieldModel", name := "hears", desc := "(II)V" } : Jvm.MethodName)) ∈ tb := tb_sel (List.mem_of_getElem? (i := 45) (by decide +kernel)) rfl
theorem w_1329 : (Jvm.Cond.methodLink "MarkFieldModel" (115 : Nat) ({ cls := "MarkFieldModel", name := "hears", desc := "(II)V" } : Jvm.MethodName)) ∈ tb := tb_of (List.mem_of_getElem? (i := 1329) (by decide +kernel)) rfl
theorem w_1365 : (Jvm.Cond.code ({ cls := "MarkFieldModel", name := "areTwo", desc := "(IIII)Z" } : Jvm.MethodName) prog_10_method_22_code (4 : Nat) (Option.some Jvm.ClassFile.FieldType.boolean)) ∈ tb := tb_of (List.mem_of_getElem? (i := 1365) (by decide +kernel)) rfl
theorem w_1364 : (Jvm.Cond.static ({ cls := "MarkFieldModel", name := "areTwo", desc := "(IIII)Z" } : Jvm.MethodName)) ∈ tb := tb_of (List.mem_of_getElem? (i := 1364) (by decide +kernel)) rfl
theorem w_1363 : (Jvm.Cond.methodLink "MarkFieldModel" (122 : Nat) ({ cls := "MarkFieldModel", name := "areTwo", desc := "(IIII)Z" } : Jvm.MethodName)) ∈ tb := tb_of (List.mem_of_getElem? (i := 1363) (by decide +kernel)) rfl
theorem w_1368 : (Jvm.Cond.code ({ cls := "MarkFieldModel", name := "areKinLetters", desc := "(II)Z" } : Jvm.MethodName) prog_10_method_23_code (3 : Nat) (Option.some Jvm.ClassFile.FieldType.boolean)) ∈ tb := tb_of (List.mem_of_getElem? (i := 1368) (by decide +kernel)) rfl
theorem w_1367 : (Jvm.Cond.static ({ cls := "MarkFieldModel", name := "areKinLetters", desc := "(II)Z" } : Jvm.MethodName)) ∈ tb := tb_of (List.mem_of_getElem? (i := 1367) (by decide +kernel)) rfl
theorem w_1366 : (Jvm.Cond.methodLink "MarkFieldModel" (129 : Nat) ({ cls := "MarkFieldModel", name := "areKinLetters", desc := "(II)Z" } : Jvm.MethodName)) ∈ tb := tb_of (List.mem_of_getElem? (i := 1366) (by decide +kernel)) rfl
theorem w_1362 : (Jvm.Cond.code ({ cls := "MarkFieldModel", name := "areKinSounds", desc := "(II)Z" } : Jvm.MethodName) prog_10_method_24_code (3 : Nat) (Option.some Jvm.ClassFile.FieldType.boolean)) ∈ tb := tb_of (List.mem_of_getElem? (i := 1362) (by decide +kernel)) rfl
theorem w_1361 : (Jvm.Cond.static ({ cls := "MarkFieldModel", name := "areKinSounds", desc := "(II)Z" } : Jvm.MethodName)) ∈ tb := tb_of (List.mem_of_getElem? (i := 1361) (by decide +kernel)) rfl
theorem w_1360 : (Jvm.Cond.methodLink "MarkFieldModel" (125 : Nat) ({ cls := "MarkFieldModel", name := "areKinSounds", desc := "(II)Z" } : Jvm.MethodName)) ∈ tb := tb_of (List.mem_of_getElem? (i := 1360) (by decide +kernel)) rfl
theorem w_1172 : (Jvm.Cond.fieldLink "MarkFieldModel" (34 : Nat) "MarkFieldModel" "costs" "[I") ∈ tb := tb_of (List.mem_of_getElem? (i := 1172) (by decide +kernel)) rfl
theorem w_1354 : (Jvm.Cond.constant "MarkFieldModel" (132 : Nat) (1000000 : Int32)) ∈ tb := tb_of (List.mem_of_getElem? (i := 1354) (by decide +kernel)) rfl
theorem w_1170 : (Jvm.Cond.fieldLink "MarkFieldModel" (28 : Nat) "MarkFieldModel" "one" "[I") ∈ tb := tb_of (List.mem_of_getElem? (i := 1170) (by decide +kernel)) rfl
theorem w_1171 : (Jvm.Cond.fieldLink "MarkFieldModel" (31 : Nat) "MarkFieldModel" "other" "[I") ∈ tb := tb_of (List.mem_of_getElem? (i := 1171) (by decide +kernel)) rfl
theorem w_1359 : (Jvm.Cond.code ({ cls := "MarkFieldModel", name := "changeOf", desc := "(IIZ)I" } : Jvm.MethodName) prog_10_method_25_code (4 : Nat) (Option.some Jvm.ClassFile.FieldType.int)) ∈ tb := tb_of (List.mem_of_getElem? (i := 1359) (by decide +kernel)) rfl
theorem w_1358 : (Jvm.Cond.instanceMethod ({ cls := "MarkFieldModel", name := "changeOf", desc := "(IIZ)I" } : Jvm.MethodName)) ∈ tb := tb_of (List.mem_of_getElem? (i := 1358) (by decide +kernel)) rfl
theorem ws_51 : (Jvm.Cond.selects "MarkFieldModel" ({ cls := "MarkFieldModel", name := "changeOf", desc := "(IIZ)I" } : Jvm.MethodName) ({ cls := "MarkFieldModel", name := "changeOf", desc := "(IIZ)I" } : Jvm.MethodName)) ∈ tb := tb_sel (List.mem_of_getElem? (i := 51) (by decide +kernel)) rfl
theorem w_1356 : (Jvm.Cond.methodLink "MarkFieldModel" (138 : Nat) ({ cls := "MarkFieldModel", name := "changeOf", desc := "(IIZ)I" } : Jvm.MethodName)) ∈ tb := tb_of (List.mem_of_getElem? (i := 1356) (by decide +kernel)) rfl
theorem w_1355 : (Jvm.Cond.methodLink "MarkFieldModel" (133 : Nat) ({ cls := "java/lang/Math", name := "min", desc := "(II)I" } : Jvm.MethodName)) ∈ tb := tb_of (List.mem_of_getElem? (i := 1355) (by decide +kernel)) rfl
theorem w_1349 : (Jvm.Cond.methodLink "MarkFieldModel" (142 : Nat) ({ cls := "java/lang/Math", name := "max", desc := "(II)I" } : Jvm.MethodName)) ∈ tb := tb_of (List.mem_of_getElem? (i := 1349) (by decide +kernel)) rfl
theorem w_1353 : (Jvm.Cond.code ({ cls := "MarkFieldModel", name := "farOf", desc := "(IIZ)I" } : Jvm.MethodName) prog_10_method_26_code (8 : Nat) (Option.some Jvm.ClassFile.FieldType.int)) ∈ tb := tb_of (List.mem_of_getElem? (i := 1353) (by decide +kernel)) rfl
theorem w_1352 : (Jvm.Cond.instanceMethod ({ cls := "MarkFieldModel", name := "farOf", desc := "(IIZ)I" } : Jvm.MethodName)) ∈ tb := tb_of (List.mem_of_getElem? (i := 1352) (by decide +kernel)) rfl
theorem ws_50 : (Jvm.Cond.selects "MarkFieldModel" ({ cls := "MarkFieldModel", name := "farOf", desc := "(IIZ)I" } : Jvm.MethodName) ({ cls := "MarkFieldModel", name := "farOf", desc := "(IIZ)I" } : Jvm.MethodName)) ∈ tb := tb_sel (List.mem_of_getElem? (i := 50) (by decide +kernel)) rfl
theorem w_1350 : (Jvm.Cond.methodLink "MarkFieldModel" (145 : Nat) ({ cls := "MarkFieldModel", name := "farOf", desc := "(IIZ)I" } : Jvm.MethodName)) ∈ tb := tb_of (List.mem_of_getElem? (i := 1350) (by decide +kernel)) rfl
theorem w_1348 : (Jvm.Cond.code ({ cls := "MarkFieldModel", name := "likenessOf", desc := "(IIZ)I" } : Jvm.MethodName) prog_10_method_27_code (5 : Nat) (Option.some Jvm.ClassFile.FieldType.int)) ∈ tb := tb_of (List.mem_of_getElem? (i := 1348) (by decide +kernel)) rfl
theorem w_1347 : (Jvm.Cond.instanceMethod ({ cls := "MarkFieldModel", name := "likenessOf", desc := "(IIZ)I" } : Jvm.MethodName)) ∈ tb := tb_of (List.mem_of_getElem? (i := 1347) (by decide +kernel)) rfl
theorem ws_49 : (Jvm.Cond.selects "MarkFieldModel" ({ cls := "MarkFieldModel", name := "likenessOf", desc := "(IIZ)I" } : Jvm.MethodName) ({ cls := "MarkFieldModel", name := "likenessOf", desc := "(IIZ)I" } : Jvm.MethodName)) ∈ tb := tb_sel (List.mem_of_getElem? (i := 49) (by decide +kernel)) rfl
theorem w_1345 : (Jvm.Cond.methodLink "MarkFieldModel" (148 : Nat) ({ cls := "MarkFieldModel", name := "likenessOf", desc := "(IIZ)I" } : Jvm.MethodName)) ∈ tb := tb_of (List.mem_of_getElem? (i := 1345) (by decide +kernel)) rfl
theorem w_1387 : (Jvm.Cond.code ({ cls := "MarkFieldModel", name := "has", desc := "(II)Z" } : Jvm.MethodName) prog_10_method_5_code (2 : Nat) (Option.some Jvm.ClassFile.FieldType.boolean)) ∈ tb := tb_of (List.mem_of_getElem? (i := 1387) (by decide +kernel)) rfl
theorem w_1386 : (Jvm.Cond.static ({ cls := "MarkFieldModel", name := "has", desc := "(II)Z" } : Jvm.MethodName)) ∈ tb := tb_of (List.mem_of_getElem? (i := 1386) (by decide +kernel)) rfl
theorem w_1385 : (Jvm.Cond.methodLink "MarkFieldModel" (151 : Nat) ({ cls := "MarkFieldModel", name := "has", desc := "(II)Z" } : Jvm.MethodName)) ∈ tb := tb_of (List.mem_of_getElem? (i := 1385) (by decide +kernel)) rfl
theorem w_1180 : (Jvm.Cond.fieldLink "MarkFieldModel" (58 : Nat) "MarkFieldModel" "stepsTo" "[I") ∈ tb := tb_of (List.mem_of_getElem? (i := 1180) (by decide +kernel)) rfl
theorem w_1384 : (Jvm.Cond.code ({ cls := "MarkFieldModel", name := "layStepsFrom", desc := "(I)I" } : Jvm.MethodName) prog_10_method_30_code (6 : Nat) (Option.some Jvm.ClassFile.FieldType.int)) ∈ tb := tb_of (List.mem_of_getElem? (i := 1384) (by decide +kernel)) rfl
theorem w_1383 : (Jvm.Cond.instanceMethod ({ cls := "MarkFieldModel", name := "layStepsFrom", desc := "(I)I" } : Jvm.MethodName)) ∈ tb := tb_of (List.mem_of_getElem? (i := 1383) (by decide +kernel)) rfl
theorem ws_55 : (Jvm.Cond.selects "MarkFieldModel" ({ cls := "MarkFieldModel", name := "layStepsFrom", desc := "(I)I" } : Jvm.MethodName) ({ cls := "MarkFieldModel", name := "layStepsFrom", desc := "(I)I" } : Jvm.MethodName)) ∈ tb := tb_sel (List.mem_of_getElem? (i := 55) (by decide +kernel)) rfl
theorem w_1381 : (Jvm.Cond.methodLink "MarkFieldModel" (154 : Nat) ({ cls := "MarkFieldModel", name := "layStepsFrom", desc := "(I)I" } : Jvm.MethodName)) ∈ tb := tb_of (List.mem_of_getElem? (i := 1381) (by decide +kernel)) rfl
theorem w_1176 : (Jvm.Cond.fieldLink "MarkFieldModel" (46 : Nat) "MarkFieldModel" "apart" "[I") ∈ tb := tb_of (List.mem_of_getElem? (i := 1176) (by decide +kernel)) rfl
theorem w_1376 : (Jvm.Cond.code ({ cls := "MarkFieldModel", name := "ruleOf", desc := "(I)I" } : Jvm.MethodName) prog_10_method_10_code (2 : Nat) (Option.some Jvm.ClassFile.FieldType.int)) ∈ tb := tb_of (List.mem_of_getElem? (i := 1376) (by decide +kernel)) rfl
theorem w_1375 : (Jvm.Cond.instanceMethod ({ cls := "MarkFieldModel", name := "ruleOf", desc := "(I)I" } : Jvm.MethodName)) ∈ tb := tb_of (List.mem_of_getElem? (i := 1375) (by decide +kernel)) rfl
theorem ws_53 : (Jvm.Cond.selects "MarkFieldModel" ({ cls := "MarkFieldModel", name := "ruleOf", desc := "(I)I" } : Jvm.MethodName) ({ cls := "MarkFieldModel", name := "ruleOf", desc := "(I)I" } : Jvm.MethodName)) ∈ tb := tb_sel (List.mem_of_getElem? (i := 53) (by decide +kernel)) rfl
theorem w_1373 : (Jvm.Cond.methodLink "MarkFieldModel" (158 : Nat) ({ cls := "MarkFieldModel", name := "ruleOf", desc := "(I)I" } : Jvm.MethodName)) ∈ tb := tb_of (List.mem_of_getElem? (i := 1373) (by decide +kernel)) rfl
theorem w_1173 : (Jvm.Cond.fieldLink "MarkFieldModel" (37 : Nat) "MarkFieldModel" "letters" "[I") ∈ tb := tb_of (List.mem_of_getElem? (i := 1173) (by decide +kernel)) rfl
theorem w_1344 : (Jvm.Cond.code ({ cls := "MarkFieldModel", name := "byLetters", desc := "(II)I" } : Jvm.MethodName) prog_10_method_28_code (4 : Nat) (Option.some Jvm.ClassFile.FieldType.int)) ∈ tb := tb_of (List.mem_of_getElem? (i := 1344) (by decide +kernel)) rfl
theorem w_1343 : (Jvm.Cond.instanceMethod ({ cls := "MarkFieldModel", name := "byLetters", desc := "(II)I" } : Jvm.MethodName)) ∈ tb := tb_of (List.mem_of_getElem? (i := 1343) (by decide +kernel)) rfl
theorem ws_48 : (Jvm.Cond.selects "MarkFieldModel" ({ cls := "MarkFieldModel", name := "byLetters", desc := "(II)I" } : Jvm.MethodName) ({ cls := "MarkFieldModel", name := "byLetters", desc := "(II)I" } : Jvm.MethodName)) ∈ tb := tb_sel (List.mem_of_getElem? (i := 48) (by decide +kernel)) rfl
theorem w_1341 : (Jvm.Cond.methodLink "MarkFieldModel" (161 : Nat) ({ cls := "MarkFieldModel", name := "byLetters", desc := "(II)I" } : Jvm.MethodName)) ∈ tb := tb_of (List.mem_of_getElem? (i := 1341) (by decide +kernel)) rfl
theorem w_1174 : (Jvm.Cond.fieldLink "MarkFieldModel" (40 : Nat) "MarkFieldModel" "ears" "[I") ∈ tb := tb_of (List.mem_of_getElem? (i := 1174) (by decide +kernel)) rfl
theorem w_1372 : (Jvm.Cond.code ({ cls := "MarkFieldModel", name := "bySounds", desc := "(II)I" } : Jvm.MethodName) prog_10_method_29_code (4 : Nat) (Option.some Jvm.ClassFile.FieldType.int)) ∈ tb := tb_of (List.mem_of_getElem? (i := 1372) (by decide +kernel)) rfl
theorem w_1371 : (Jvm.Cond.instanceMethod ({ cls := "MarkFieldModel", name := "bySounds", desc := "(II)I" } : Jvm.MethodName)) ∈ tb := tb_of (List.mem_of_getElem? (i := 1371) (by decide +kernel)) rfl
theorem ws_52 : (Jvm.Cond.selects "MarkFieldModel" ({ cls := "MarkFieldModel", name := "bySounds", desc := "(II)I" } : Jvm.MethodName) ({ cls := "MarkFieldModel", name := "bySounds", desc := "(II)I" } : Jvm.MethodName)) ∈ tb := tb_sel (List.mem_of_getElem? (i := 52) (by decide +kernel)) rfl
theorem w_1369 : (Jvm.Cond.methodLink "MarkFieldModel" (164 : Nat) ({ cls := "MarkFieldModel", name := "bySounds", desc := "(II)I" } : Jvm.MethodName)) ∈ tb := tb_of (List.mem_of_getElem? (i := 1369) (by decide +kernel)) rfl
theorem w_1175 : (Jvm.Cond.fieldLink "MarkFieldModel" (43 : Nat) "MarkFieldModel" "names" "[I") ∈ tb := tb_of (List.mem_of_getElem? (i := 1175) (by decide +kernel)) rfl
theorem w_1380 : (Jvm.Cond.code ({ cls := "MarkFieldModel", name := "stepsOf", desc := "(II)I" } : Jvm.MethodName) prog_10_method_31_code (6 : Nat) (Option.some Jvm.ClassFile.FieldType.int)) ∈ tb := tb_of (List.mem_of_getElem? (i := 1380) (by decide +kernel)) rfl
theorem w_1379 : (Jvm.Cond.instanceMethod ({ cls := "MarkFieldModel", name := "stepsOf", desc := "(II)I" } : Jvm.MethodName)) ∈ tb := tb_of (List.mem_of_getElem? (i := 1379) (by decide +kernel)) rfl
theorem ws_54 : (Jvm.Cond.selects "MarkFieldModel" ({ cls := "MarkFieldModel", name := "stepsOf", desc := "(II)I" } : Jvm.MethodName) ({ cls := "MarkFieldModel", name := "stepsOf", desc := "(II)I" } : Jvm.MethodName)) ∈ tb := tb_sel (List.mem_of_getElem? (i := 54) (by decide +kernel)) rfl
theorem w_1377 : (Jvm.Cond.methodLink "MarkFieldModel" (167 : Nat) ({ cls := "MarkFieldModel", name := "stepsOf", desc := "(II)I" } : Jvm.MethodName)) ∈ tb := tb_of (List.mem_of_getElem? (i := 1377) (by decide +kernel)) rfl
theorem w_1395 : (Jvm.Cond.code ({ cls := "MarkFieldModel", name := "areNear", desc := "(II)Z" } : Jvm.MethodName) prog_10_method_32_code (4 : Nat) (Option.some Jvm.ClassFile.FieldType.boolean)) ∈ tb := tb_of (List.mem_of_getElem? (i := 1395) (by decide +kernel)) rfl
theorem w_1394 : (Jvm.Cond.instanceMethod ({ cls := "MarkFieldModel", name := "areNear", desc := "(II)Z" } : Jvm.MethodName)) ∈ tb := tb_of (List.mem_of_getElem? (i := 1394) (by decide +kernel)) rfl
theorem ws_57 : (Jvm.Cond.selects "MarkFieldModel" ({ cls := "MarkFieldModel", name := "areNear", desc := "(II)Z" } : Jvm.MethodName) ({ cls := "MarkFieldModel", name := "areNear", desc := "(II)Z" } : Jvm.MethodName)) ∈ tb := tb_sel (List.mem_of_getElem? (i := 57) (by decide +kernel)) rfl
theorem w_1392 : (Jvm.Cond.methodLink "MarkFieldModel" (170 : Nat) ({ cls := "MarkFieldModel", name := "areNear", desc := "(II)Z" } : Jvm.MethodName)) ∈ tb := tb_of (List.mem_of_getElem? (i := 1392) (by decide +kernel)) rfl
theorem w_1178 : (Jvm.Cond.fieldLink "MarkFieldModel" (52 : Nat) "MarkFieldModel" "crowded" "[I") ∈ tb := tb_of (List.mem_of_getElem? (i := 1178) (by decide +kernel)) rfl
theorem w_1167 : (Jvm.Cond.fieldLink "MarkFieldModel" (173 : Nat) "MarkFieldModel" "isLaid" "Z") ∈ tb := tb_of (List.mem_of_getElem? (i := 1167) (by decide +kernel)) rfl
theorem w_1179 : (Jvm.Cond.fieldLink "MarkFieldModel" (55 : Nat) "MarkFieldModel" "alike" "[I") ∈ tb := tb_of (List.mem_of_getElem? (i := 1179) (by decide +kernel)) rfl
theorem w_1399 : (Jvm.Cond.code ({ cls := "MarkFieldModel", name := "areAlike", desc := "(II)Z" } : Jvm.MethodName) prog_10_method_35_code (4 : Nat) (Option.some Jvm.ClassFile.FieldType.boolean)) ∈ tb := tb_of (List.mem_of_getElem? (i := 1399) (by decide +kernel)) rfl
theorem w_1398 : (Jvm.Cond.instanceMethod ({ cls := "MarkFieldModel", name := "areAlike", desc := "(II)Z" } : Jvm.MethodName)) ∈ tb := tb_of (List.mem_of_getElem? (i := 1398) (by decide +kernel)) rfl
theorem ws_58 : (Jvm.Cond.selects "MarkFieldModel" ({ cls := "MarkFieldModel", name := "areAlike", desc := "(II)Z" } : Jvm.MethodName) ({ cls := "MarkFieldModel", name := "areAlike", desc := "(II)Z" } : Jvm.MethodName)) ∈ tb := tb_sel (List.mem_of_getElem? (i := 58) (by decide +kernel)) rfl
theorem w_1396 : (Jvm.Cond.methodLink "MarkFieldModel" (187 : Nat) ({ cls := "MarkFieldModel", name := "areAlike", desc := "(II)Z" } : Jvm.MethodName)) ∈ tb := tb_of (List.mem_of_getElem? (i := 1396) (by decide +kernel)) rfl
theorem w_1177 : (Jvm.Cond.fieldLink "MarkFieldModel" (49 : Nat) "MarkFieldModel" "field" "[I") ∈ tb := tb_of (List.mem_of_getElem? (i := 1177) (by decide +kernel)) rfl
theorem w_1391 : (Jvm.Cond.code ({ cls := "MarkFieldModel", name := "fieldOf", desc := "(I)I" } : Jvm.MethodName) prog_10_method_34_code (4 : Nat) (Option.some Jvm.ClassFile.FieldType.int)) ∈ tb := tb_of (List.mem_of_getElem? (i := 1391) (by decide +kernel)) rfl
theorem w_1390 : (Jvm.Cond.instanceMethod ({ cls := "MarkFieldModel", name := "fieldOf", desc := "(I)I" } : Jvm.MethodName)) ∈ tb := tb_of (List.mem_of_getElem? (i := 1390) (by decide +kernel)) rfl
theorem ws_56 : (Jvm.Cond.selects "MarkFieldModel" ({ cls := "MarkFieldModel", name := "fieldOf", desc := "(I)I" } : Jvm.MethodName) ({ cls := "MarkFieldModel", name := "fieldOf", desc := "(I)I" } : Jvm.MethodName)) ∈ tb := tb_sel (List.mem_of_getElem? (i := 56) (by decide +kernel)) rfl
theorem w_1388 : (Jvm.Cond.methodLink "MarkFieldModel" (184 : Nat) ({ cls := "MarkFieldModel", name := "fieldOf", desc := "(I)I" } : Jvm.MethodName)) ∈ tb := tb_of (List.mem_of_getElem? (i := 1388) (by decide +kernel)) rfl
theorem w_1340 : (Jvm.Cond.code ({ cls := "MarkFieldModel", name := "layCouple", desc := "(II)V" } : Jvm.MethodName) prog_10_method_33_code (4 : Nat) (Option.none : Option Jvm.ClassFile.FieldType)) ∈ tb := tb_of (List.mem_of_getElem? (i := 1340) (by decide +kernel)) rfl
theorem w_1339 : (Jvm.Cond.instanceMethod ({ cls := "MarkFieldModel", name := "layCouple", desc := "(II)V" } : Jvm.MethodName)) ∈ tb := tb_of (List.mem_of_getElem? (i := 1339) (by decide +kernel)) rfl
theorem ws_47 : (Jvm.Cond.selects "MarkFieldModel" ({ cls := "MarkFieldModel", name := "layCouple", desc := "(II)V" } : Jvm.MethodName) ({ cls := "MarkFieldModel", name := "layCouple", desc := "(II)V" } : Jvm.MethodName)) ∈ tb := tb_sel (List.mem_of_getElem? (i := 47) (by decide +kernel)) rfl
theorem w_1337 : (Jvm.Cond.methodLink "MarkFieldModel" (181 : Nat) ({ cls := "MarkFieldModel", name := "layCouple", desc := "(II)V" } : Jvm.MethodName)) ∈ tb := tb_of (List.mem_of_getElem? (i := 1337) (by decide +kernel)) rfl
theorem w_1312 : (Jvm.Cond.code ({ cls := "MarkFieldModel", name := "laySounds", desc := "(I)V" } : Jvm.MethodName) prog_10_method_21_code (4 : Nat) (Option.none : Option Jvm.ClassFile.FieldType)) ∈ tb := tb_of (List.mem_of_getElem? (i := 1312) (by decide +kernel)) rfl
theorem w_1311 : (Jvm.Cond.instanceMethod ({ cls := "MarkFieldModel", name := "laySounds", desc := "(I)V" } : Jvm.MethodName)) ∈ tb := tb_of (List.mem_of_getElem? (i := 1311) (by decide +kernel)) rfl
theorem ws_40 : (Jvm.Cond.selects "MarkFieldModel" ({ cls := "MarkFieldModel", name := "laySounds", desc := "(I)V" } : Jvm.MethodName) ({ cls := "MarkFieldModel", name := "laySounds", desc := "(I)V" } : Jvm.MethodName)) ∈ tb := tb_sel (List.mem_of_getElem? (i := 40) (by decide +kernel)) rfl
theorem w_1309 : (Jvm.Cond.methodLink "MarkFieldModel" (177 : Nat) ({ cls := "MarkFieldModel", name := "laySounds", desc := "(I)V" } : Jvm.MethodName)) ∈ tb := tb_of (List.mem_of_getElem? (i := 1309) (by decide +kernel)) rfl
theorem w_1471 : (Jvm.Cond.code ({ cls := "MarkFieldModel", name := "isLive", desc := "(III)Z" } : Jvm.MethodName) prog_10_method_37_code (5 : Nat) (Option.some Jvm.ClassFile.FieldType.boolean)) ∈ tb := tb_of (List.mem_of_getElem? (i := 1471) (by decide +kernel)) rfl
theorem w_1470 : (Jvm.Cond.instanceMethod ({ cls := "MarkFieldModel", name := "isLive", desc := "(III)Z" } : Jvm.MethodName)) ∈ tb := tb_of (List.mem_of_getElem? (i := 1470) (by decide +kernel)) rfl
theorem ws_67 : (Jvm.Cond.selects "MarkFieldModel" ({ cls := "MarkFieldModel", name := "isLive", desc := "(III)Z" } : Jvm.MethodName) ({ cls := "MarkFieldModel", name := "isLive", desc := "(III)Z" } : Jvm.MethodName)) ∈ tb := tb_sel (List.mem_of_getElem? (i := 67) (by decide +kernel)) rfl
theorem w_1468 : (Jvm.Cond.methodLink "MarkFieldModel" (190 : Nat) ({ cls := "MarkFieldModel", name := "isLive", desc := "(III)Z" } : Jvm.MethodName)) ∈ tb := tb_of (List.mem_of_getElem? (i := 1468) (by decide +kernel)) rfl
theorem w_1467 : (Jvm.Cond.code ({ cls := "MarkFieldModel", name := "sinceOf", desc := "(III)I" } : Jvm.MethodName) prog_10_method_38_code (9 : Nat) (Option.some Jvm.ClassFile.FieldType.int)) ∈ tb := tb_of (List.mem_of_getElem? (i := 1467) (by decide +kernel)) rfl
theorem w_1466 : (Jvm.Cond.instanceMethod ({ cls := "MarkFieldModel", name := "sinceOf", desc := "(III)I" } : Jvm.MethodName)) ∈ tb := tb_of (List.mem_of_getElem? (i := 1466) (by decide +kernel)) rfl
theorem ws_66 : (Jvm.Cond.selects "MarkFieldModel" ({ cls := "MarkFieldModel", name := "sinceOf", desc := "(III)I" } : Jvm.MethodName) ({ cls := "MarkFieldModel", name := "sinceOf", desc := "(III)I" } : Jvm.MethodName)) ∈ tb := tb_sel (List.mem_of_getElem? (i := 66) (by decide +kernel)) rfl
theorem w_1464 : (Jvm.Cond.methodLink "MarkFieldModel" (193 : Nat) ({ cls := "MarkFieldModel", name := "sinceOf", desc := "(III)I" } : Jvm.MethodName)) ∈ tb := tb_of (List.mem_of_getElem? (i := 1464) (by decide +kernel)) rfl
theorem w_1181 : (Jvm.Cond.fieldLink "MarkFieldModel" (61 : Nat) "MarkFieldModel" "right" "[I") ∈ tb := tb_of (List.mem_of_getElem? (i := 1181) (by decide +kernel)) rfl
theorem mv_X8_marks : MV yX8_marks cX8_marks 1 (some .int) 0 := ⟨⟨w_1308, w_10, by decide, by decide, by decide +kernel⟩, w_1307, ws_39⟩
theorem ms_X8_within : MS yX8_within cX8_within 3 (some .boolean) 3 := ⟨⟨w_1429, w_10, by decide, by decide, by decide +kernel⟩, w_1428⟩
theorem mv_X8_halvesMany : MV yX8_halvesMany cX8_halvesMany 1 (some .int) 0 := ⟨⟨w_1403, w_10, by decide, by decide, by decide +kernel⟩, w_1402, ws_59⟩
theorem mv_X8_of1 : MV yX8_of1 cX8_of1 3 (some .int) 2 := ⟨⟨w_1316, w_10, by decide, by decide, by decide +kernel⟩, w_1315, ws_41⟩
theorem mv_X8_letterAt : MV yX8_letterAt cX8_letterAt 3 (some .int) 2 := ⟨⟨w_1328, w_10, by decide, by decide, by decide +kernel⟩, w_1327, ws_44⟩
theorem mv_X8_isPair : MV yX8_isPair cX8_isPair 5 (some .boolean) 4 := ⟨⟨w_1324, w_10, by decide, by decide, by decide +kernel⟩, w_1323, ws_43⟩
theorem mv_X8_pairAt : MV yX8_pairAt cX8_pairAt 3 (some .int) 2 := ⟨⟨w_1320, w_10, by decide, by decide, by decide +kernel⟩, w_1319, ws_42⟩
theorem mv_X8_singleAt : MV yX8_singleAt cX8_singleAt 4 (some .int) 2 := ⟨⟨w_1336, w_10, by decide, by decide, by decide +kernel⟩, w_1335, ws_46⟩
theorem mv_X8_hears : MV yX8_hears cX8_hears 4 none 2 := ⟨⟨w_1332, w_10, by decide, by decide, by decide +kernel⟩, w_1331, ws_45⟩
theorem ms_X8_areTwo : MS yX8_areTwo cX8_areTwo 4 (some .boolean) 4 := ⟨⟨w_1365, w_10, by decide, by decide, by decide +kernel⟩, w_1364⟩
theorem ms_X8_areKinLetters : MS yX8_areKinLetters cX8_areKinLetters 3 (some .boolean) 2 := ⟨⟨w_1368, w_10, by decide, by decide, by decide +kernel⟩, w_1367⟩
theorem ms_X8_areKinSounds : MS yX8_areKinSounds cX8_areKinSounds 3 (some .boolean) 2 := ⟨⟨w_1362, w_10, by decide, by decide, by decide +kernel⟩, w_1361⟩
theorem mv_X8_changeOf : MV yX8_changeOf cX8_changeOf 4 (some .int) 3 := ⟨⟨w_1359, w_10, by decide, by decide, by decide +kernel⟩, w_1358, ws_51⟩
theorem mv_X8_farOf : MV yX8_farOf cX8_farOf 8 (some .int) 3 := ⟨⟨w_1353, w_10, by decide, by decide, by decide +kernel⟩, w_1352, ws_50⟩
theorem mv_X8_likenessOf : MV yX8_likenessOf cX8_likenessOf 5 (some .int) 3 := ⟨⟨w_1348, w_10, by decide, by decide, by decide +kernel⟩, w_1347, ws_49⟩
theorem ms_X8_has : MS yX8_has cX8_has 2 (some .boolean) 2 := ⟨⟨w_1387, w_10, by decide, by decide, by decide +kernel⟩, w_1386⟩
theorem mv_X8_layStepsFrom : MV yX8_layStepsFrom cX8_layStepsFrom 6 (some .int) 1 := ⟨⟨w_1384, w_10, by decide, by decide, by decide +kernel⟩, w_1383, ws_55⟩
theorem mv_X8_ruleOf : MV yX8_ruleOf cX8_ruleOf 2 (some .int) 1 := ⟨⟨w_1376, w_10, by decide, by decide, by decide +kernel⟩, w_1375, ws_53⟩
theorem mv_X8_byLetters : MV yX8_byLetters cX8_byLetters 4 (some .int) 2 := ⟨⟨w_1344, w_10, by decide, by decide, by decide +kernel⟩, w_1343, ws_48⟩
theorem mv_X8_bySounds : MV yX8_bySounds cX8_bySounds 4 (some .int) 2 := ⟨⟨w_1372, w_10, by decide, by decide, by decide +kernel⟩, w_1371, ws_52⟩
theorem mv_X8_stepsOf : MV yX8_stepsOf cX8_stepsOf 6 (some .int) 2 := ⟨⟨w_1380, w_10, by decide, by decide, by decide +kernel⟩, w_1379, ws_54⟩
theorem mv_X8_areNear : MV yX8_areNear cX8_areNear 4 (some .boolean) 2 := ⟨⟨w_1395, w_10, by decide, by decide, by decide +kernel⟩, w_1394, ws_57⟩
theorem mv_X8_areAlike : MV yX8_areAlike cX8_areAlike 4 (some .boolean) 2 := ⟨⟨w_1399, w_10, by decide, by decide, by decide +kernel⟩, w_1398, ws_58⟩
theorem mv_X8_fieldOf : MV yX8_fieldOf cX8_fieldOf 4 (some .int) 1 := ⟨⟨w_1391, w_10, by decide, by decide, by decide +kernel⟩, w_1390, ws_56⟩
theorem mv_X8_layCouple : MV yX8_layCouple cX8_layCouple 4 none 2 := ⟨⟨w_1340, w_10, by decide, by decide, by decide +kernel⟩, w_1339, ws_47⟩
theorem mv_X8_laySounds : MV yX8_laySounds cX8_laySounds 4 none 1 := ⟨⟨w_1312, w_10, by decide, by decide, by decide +kernel⟩, w_1311, ws_40⟩
theorem mv_X8_isLive : MV yX8_isLive cX8_isLive 5 (some .boolean) 3 := ⟨⟨w_1471, w_10, by decide, by decide, by decide +kernel⟩, w_1470, ws_67⟩
theorem mv_X8_sinceOf : MV yX8_sinceOf cX8_sinceOf 9 (some .int) 3 := ⟨⟨w_1467, w_10, by decide, by decide, by decide +kernel⟩, w_1466, ws_66⟩
-- X8_thrown (height 0)
def wp_X8_thrown (post : Int32 → GH → Prop) (G : GH) : Prop :=
  post (G 24 0 5) G
set_option maxRecDepth 100000 in
set_option maxHeartbeats 4000000 in
theorem k_X8_thrown {l : Launch} {E : Ev} {P : Nat → Prop} {sd : Nat → Nat → Nat} {G : GH} {post : Int32 → GH → Prop} (hPP : ∀ o, stt o = true → P o) (h : wp_X8_thrown post G) : Ct l yX8_thrown cX8_thrown 1 (some .int) 0 0 0 E P sd G [.ref (sd 24 0)] (pI post) := by
  refine ct_of (own := "MarkFieldModel") (by decide) rfl (Nat.le_of_ble_eq_true rfl) hPP (fun X F T el eP es => ?_)
  subst el; subst eP; subst es
  have hP := F.P
  change AW E X 1 0 [(0, .ref (sdX X 24 0))] [] G 0 0
  refine aw_al_n F 0 dX8_thrown_0 rfl rfl ?_
  refine gf8_5 F (lo_s rfl) (hP _ rfl) rfl w_1165 dX8_thrown_1 ?_
  exact aw_iret F T (Nat.le_of_ble_eq_true rfl) (Nat.le_of_ble_eq_true rfl) ⟨_, rfl, h⟩ dX8_thrown_4
-- X8_fail (height 0)
def wp_X8_fail (post : Int32 → GH → Prop) (x1 : Int32) (G : GH) : Prop :=
  (∀ G_1 : GH, G_1 = gs G 24 0 (upd (G 24 0) 5 x1) → post (0 : Int32) G_1)
set_option maxRecDepth 100000 in
set_option maxHeartbeats 4000000 in
theorem k_X8_fail {l : Launch} {E : Ev} {P : Nat → Prop} {sd : Nat → Nat → Nat} {G : GH} {post : Int32 → GH → Prop} {x1 : Int32} (hPP : ∀ o, stt o = true → P o) (h : wp_X8_fail post x1 G) : Ct l yX8_fail cX8_fail 2 (some .int) 0 0 0 E P sd G [.ref (sd 24 0), .int x1] (pI post) := by
  refine ct_of (own := "MarkFieldModel") (by decide) rfl (Nat.le_of_ble_eq_true rfl) hPP (fun X F T el eP es => ?_)
  subst el; subst eP; subst es
  have hP := F.P
  change AW E X 2 0 [(0, .ref (sdX X 24 0)), (1, .int x1)] [] G 0 0
  refine aw_al_n F 0 dX8_fail_0 rfl rfl ?_
  refine aw_il_n F 1 dX8_fail_1 rfl rfl ?_
  refine pf8_5 F (lo_s rfl) (hP _ rfl) rfl w_1165 dX8_fail_2 (fun G_1 eG_1 => ?_)
  replace h := h G_1 eG_1
  refine aw_ic F dX8_fail_5 ic_0 ?_
  exact aw_iret F T (Nat.le_of_ble_eq_true rfl) (Nat.le_of_ble_eq_true rfl) ⟨_, rfl, h⟩ dX8_fail_6
-- X8_within (height 0)
def wp_X8_within (post : Bool → GH → Prop) (x0 x1 x2 : Int32) (G : GH) : Prop :=
  ((x0 < x1 → post false G) ∧ (¬ x0 < x1 → ((x2 < x0 → post false G) ∧ (¬ x2 < x0 → post true G))))
set_option maxRecDepth 100000 in
set_option maxHeartbeats 4000000 in
theorem k_X8_within {l : Launch} {E : Ev} {P : Nat → Prop} {sd : Nat → Nat → Nat} {G : GH} {post : Bool → GH → Prop} {x0 x1 x2 : Int32} (hPP : ∀ o, stt o = true → P o) (h : wp_X8_within post x0 x1 x2 G) : Ct l yX8_within cX8_within 3 (some .boolean) 0 0 0 E P sd G [.int x0, .int x1, .int x2] (pB post) := by
  refine ct_of (own := "MarkFieldModel") (by decide) rfl (Nat.le_of_ble_eq_true rfl) hPP (fun X F T el eP es => ?_)
  subst el; subst eP; subst es
  have hP := F.P
  change AW E X 3 0 [(0, .int x0), (1, .int x1), (2, .int x2)] [] G 0 0
  refine aw_il_n F 0 dX8_within_0 rfl rfl ?_
  refine aw_il_n F 1 dX8_within_1 rfl rfl ?_
  refine aw_icmp_lt (tgt := 14) F dX8_within_2 (by decide) (fun c_1 => ?_) (fun c_1 => ?_)
  · replace h := h.1 c_1
    refine aw_ic F dX8_within_14 ic_0 ?_
    exact aw_zret F T false rfl (Nat.le_of_ble_eq_true rfl) (Nat.le_of_ble_eq_true rfl) ⟨_, rfl, h⟩ dX8_within_15
  · replace h := h.2 c_1
    refine aw_il_n F 0 dX8_within_5 rfl rfl ?_
    refine aw_il_n F 2 dX8_within_6 rfl rfl ?_
    refine aw_icmp_gt (tgt := 14) F dX8_within_7 (by decide) (fun c_2 => ?_) (fun c_2 => ?_)
    · replace h := h.1 c_2
      refine aw_ic F dX8_within_14 ic_0 ?_
      exact aw_zret F T false rfl (Nat.le_of_ble_eq_true rfl) (Nat.le_of_ble_eq_true rfl) ⟨_, rfl, h⟩ dX8_within_15
    · replace h := h.2 c_2
      refine aw_ic F dX8_within_10 ic_1 ?_
      refine aw_go (tgt := 15) F dX8_within_11 (by decide) ?_
      exact aw_zret F T true rfl (Nat.le_of_ble_eq_true rfl) (Nat.le_of_ble_eq_true rfl) ⟨_, rfl, h⟩ dX8_within_15
-- X8_has (height 0)
def wp_X8_has (post : Bool → GH → Prop) (x0 x1 : Int32) (G : GH) : Prop :=
  ((((x0 >>> (x1 &&& 31)) &&& (1 : Int32)) = (1 : Int32) → post true G) ∧ (¬ ((x0 >>> (x1 &&& 31)) &&& (1 : Int32)) = (1 : Int32) → post false G))
set_option maxRecDepth 100000 in
set_option maxHeartbeats 4000000 in
theorem k_X8_has {l : Launch} {E : Ev} {P : Nat → Prop} {sd : Nat → Nat → Nat} {G : GH} {post : Bool → GH → Prop} {x0 x1 : Int32} (hPP : ∀ o, stt o = true → P o) (h : wp_X8_has post x0 x1 G) : Ct l yX8_has cX8_has 2 (some .boolean) 0 0 0 E P sd G [.int x0, .int x1] (pB post) := by
  refine ct_of (own := "MarkFieldModel") (by decide) rfl (Nat.le_of_ble_eq_true rfl) hPP (fun X F T el eP es => ?_)
  subst el; subst eP; subst es
  have hP := F.P
  change AW E X 2 0 [(0, .int x0), (1, .int x1)] [] G 0 0
  refine aw_il_n F 0 dX8_has_0 rfl rfl ?_
  refine aw_il_n F 1 dX8_has_1 rfl rfl ?_
  refine aw_ishr F dX8_has_2 ?_
  refine aw_ic F dX8_has_3 ic_1 ?_
  refine aw_iand F dX8_has_4 ?_
  refine aw_ic F dX8_has_5 ic_1 ?_
  refine aw_icmp_ne (tgt := 13) F dX8_has_6 (by decide) (fun c_1 => ?_) (fun c_1 => ?_)
  · replace h := h.2 c_1
    refine aw_ic F dX8_has_13 ic_0 ?_
    exact aw_zret F T false rfl (Nat.le_of_ble_eq_true rfl) (Nat.le_of_ble_eq_true rfl) ⟨_, rfl, h⟩ dX8_has_14
  · replace h := h.1 c_1
    refine aw_ic F dX8_has_9 ic_1 ?_
    refine aw_go (tgt := 14) F dX8_has_10 (by decide) ?_
    exact aw_zret F T true rfl (Nat.le_of_ble_eq_true rfl) (Nat.le_of_ble_eq_true rfl) ⟨_, rfl, h⟩ dX8_has_14
-- X8_bitsOf (height 0)
def lb_X8_bitsOf_4 (post : Int32 → GH → Prop) (P4 : Int32 → Int32 → GH → Prop) (v1 v2 : Int32) (G : GH) : Prop :=
  ((v2 = 0 → post v1 G) ∧ (¬ v2 = 0 → (∀ y_2 : Int32, y_2 = (v2 &&& (v2 - (1 : Int32))) → P4 (v1 + (1 : Int32)) y_2 G)))
def lp_X8_bitsOf_4 (post : Int32 → GH → Prop) (v1 v2 : Int32) (G : GH) : Prop := ∀ P4 : Int32 → Int32 → GH → Prop, (∀ (v1 v2 : Int32) (G : GH), lb_X8_bitsOf_4 post P4 v1 v2 G → P4 v1 v2 G) → P4 v1 v2 G
def wp_X8_bitsOf (post : Int32 → GH → Prop) (x0 : Int32) (G : GH) : Prop :=
  lp_X8_bitsOf_4 post (0 : Int32) x0 G
set_option maxRecDepth 100000 in
set_option maxHeartbeats 4000000 in
theorem kl_X8_bitsOf_4 {E : Ev} {X : Cx} {post : Int32 → GH → Prop} {v1 v2 : Int32} {G : GH} (F : Fx E X "MarkFieldModel" cX8_bitsOf 3) (T : RT E X 0 0 0 (some .int) (pI post)) (h : lp_X8_bitsOf_4 post v1 v2 G) : AW E X 3 4 [(1, .int v1), (2, .int v2)] [] G 0 0 := by
  have hP := F.P
  have K4 : ∀ (v1 v2 : Int32) (G : GH), AW E X 3 4 [(1, .int v1), (2, .int v2)] [] G 0 0 → AW E X 3 4 [(1, .int v1), (2, .int v2)] [] G 0 0 := fun _ _ _ q => q
  refine h (fun (v1 v2 : Int32) (G : GH) => AW E X 3 4 [(1, .int v1), (2, .int v2)] [] G 0 0) (fun (v1 v2 : Int32) (G : GH) h => ?_)
  refine aw_il_n F 1 dX8_bitsOf_4 rfl rfl ?_
  refine aw_if_eq (tgt := 20) F dX8_bitsOf_5 (by decide) (fun c_1 => ?_) (fun c_1 => ?_)
  · replace h := h.1 c_1
    refine aw_il_n F 0 dX8_bitsOf_20 rfl rfl ?_
    exact aw_iret F T (Nat.le_of_ble_eq_true rfl) (Nat.le_of_ble_eq_true rfl) ⟨_, rfl, h⟩ dX8_bitsOf_21
  · replace h := h.2 c_1
    refine aw_inc (lv1 := [(1, .int (v1 + (1 : Int32))), (2, .int v2)]) F 0 dX8_bitsOf_8 rfl (in_1 _) (by decide) rfl ?_
    refine aw_il_n F 1 dX8_bitsOf_11 rfl rfl ?_
    refine aw_il_n F 1 dX8_bitsOf_12 rfl rfl ?_
    refine aw_ic F dX8_bitsOf_13 ic_1 ?_
    refine aw_isub F dX8_bitsOf_14 ?_
    refine aw_iand F dX8_bitsOf_15 ?_
    refine aw_top (fun y_2 ey_2 => ?_)
    replace h := h y_2 ey_2
    refine aw_is_n (lv1 := [(2, .int y_2), (1, .int (v1 + (1 : Int32)))]) F dX8_bitsOf_16 rfl (by decide) rfl ?_
    refine aw_go (tgt := 4) F dX8_bitsOf_17 (by decide) ?_
    refine aw_sub [1, 0] rfl ?_
    exact K4 _ _ _ h
set_option maxRecDepth 100000 in
set_option maxHeartbeats 4000000 in
theorem k_X8_bitsOf {l : Launch} {E : Ev} {P : Nat → Prop} {sd : Nat → Nat → Nat} {G : GH} {post : Int32 → GH → Prop} {x0 : Int32} (hPP : ∀ o, stt o = true → P o) (h : wp_X8_bitsOf post x0 G) : Ct l yX8_bitsOf cX8_bitsOf 3 (some .int) 0 0 0 E P sd G [.int x0] (pI post) := by
  refine ct_of (own := "MarkFieldModel") (by decide) rfl (Nat.le_of_ble_eq_true rfl) hPP (fun X F T el eP es => ?_)
  subst el; subst eP; subst es
  have hP := F.P
  change AW E X 3 0 [(0, .int x0)] [] G 0 0
  refine aw_ic F dX8_bitsOf_0 ic_0 ?_
  refine aw_is_n (lv1 := [(1, .int (0 : Int32)), (0, .int x0)]) F dX8_bitsOf_1 rfl (by decide) rfl ?_
  refine aw_il_n F 1 dX8_bitsOf_2 rfl rfl ?_
  refine aw_is_n (lv1 := [(2, .int x0), (1, .int (0 : Int32)), (0, .int x0)]) F dX8_bitsOf_3 rfl (by decide) rfl ?_
  refine aw_sub [1, 0] rfl ?_
  exact kl_X8_bitsOf_4 F T h
-- X8_begins (height 0)
def lb_X8_begins_2 (post : GH → Prop) (o0 k0 m0 : Nat) (P2 : Int32 → GH → Prop) (v1 : Int32) (G : GH) : Prop :=
  (((681 : Int32) ≤ v1 → (vp_in (2 : Int32) m0 ∧ (∀ G_2 : GH, G_2 = gs G o0 k0 (upd (G o0 k0) (2 : Int32).toNatClampNeg (60 : Int32)) → (vp_in (3 : Int32) m0 ∧ (∀ G_3 : GH, G_3 = gs G_2 o0 k0 (upd (G_2 o0 k0) (3 : Int32).toNatClampNeg (5 : Int32)) → (vp_in (4 : Int32) m0 ∧ (∀ G_4 : GH, G_4 = gs G_3 o0 k0 (upd (G_3 o0 k0) (4 : Int32).toNatClampNeg (2 : Int32)) → (vp_in (6 : Int32) m0 ∧ (∀ G_5 : GH, G_5 = gs G_4 o0 k0 (upd (G_4 o0 k0) (6 : Int32).toNatClampNeg (30 : Int32)) → (vp_in (7 : Int32) m0 ∧ (∀ G_6 : GH, G_6 = gs G_5 o0 k0 (upd (G_5 o0 k0) (7 : Int32).toNatClampNeg (50 : Int32)) → post G_6))))))))))) ∧ (¬ (681 : Int32) ≤ v1 → (vp_in v1 m0 ∧ (∀ G_7 : GH, G_7 = gs G o0 k0 (upd (G o0 k0) v1.toNatClampNeg (0 : Int32)) → P2 (v1 + (1 : Int32)) G_7))))
def lp_X8_begins_2 (post : GH → Prop) (o0 k0 m0 : Nat) (v1 : Int32) (G : GH) : Prop := ∀ P2 : Int32 → GH → Prop, (∀ (v1 : Int32) (G : GH), lb_X8_begins_2 post o0 k0 m0 P2 v1 G → P2 v1 G) → P2 v1 G
def wp_X8_begins (post : GH → Prop) (o0 k0 m0 : Nat) (G : GH) : Prop :=
  lp_X8_begins_2 post o0 k0 m0 (0 : Int32) G
set_option maxRecDepth 100000 in
set_option maxHeartbeats 4000000 in
theorem kl_X8_begins_2 {E : Ev} {X : Cx} {post : GH → Prop} {o0 k0 m0 : Nat} {v1 : Int32} {G : GH} (F : Fx E X "MarkFieldModel" cX8_begins 2) (T : RT E X 0 0 0 none (pV post)) (hs0 : stt o0 = true) (ha0 : al (oc o0) k0 = some (0, m0)) (h : lp_X8_begins_2 post o0 k0 m0 v1 G) : AW E X 2 2 [(0, .ref (sdX X o0 k0)), (1, .int v1)] [] G 0 0 := by
  have hP := F.P
  have K2 : ∀ (v1 : Int32) (G : GH), AW E X 2 2 [(0, .ref (sdX X o0 k0)), (1, .int v1)] [] G 0 0 → AW E X 2 2 [(0, .ref (sdX X o0 k0)), (1, .int v1)] [] G 0 0 := fun _ _ q => q
  refine h (fun (v1 : Int32) (G : GH) => AW E X 2 2 [(0, .ref (sdX X o0 k0)), (1, .int v1)] [] G 0 0) (fun (v1 : Int32) (G : GH) h => ?_)
  refine aw_il_n F 1 dX8_begins_2 rfl rfl ?_
  refine aw_si F dX8_begins_3 si_681 ?_
  refine aw_icmp_ge (tgt := 19) F dX8_begins_6 (by decide) (fun c_1 => ?_) (fun c_1 => ?_)
  · replace h := h.1 c_1
    refine aw_al_n F 0 dX8_begins_19 rfl rfl ?_
    refine aw_ic F dX8_begins_20 ic_2 ?_
    refine aw_bi F dX8_begins_21 bi_60 ?_
    refine aw_iast F o0 k0 (lo_s hs0) (hP _ hs0) ha0 h.1 dX8_begins_23 ?_
    refine aw_nG (fun G_2 eG_2 => ?_)
    replace h := h.2 G_2 eG_2
    refine aw_al_n F 0 dX8_begins_24 rfl rfl ?_
    refine aw_ic F dX8_begins_25 ic_3 ?_
    refine aw_ic F dX8_begins_26 ic_5 ?_
    refine aw_iast F o0 k0 (lo_s hs0) (hP _ hs0) ha0 h.1 dX8_begins_27 ?_
    refine aw_nG (fun G_3 eG_3 => ?_)
    replace h := h.2 G_3 eG_3
    refine aw_al_n F 0 dX8_begins_28 rfl rfl ?_
    refine aw_ic F dX8_begins_29 ic_4 ?_
    refine aw_ic F dX8_begins_30 ic_2 ?_
    refine aw_iast F o0 k0 (lo_s hs0) (hP _ hs0) ha0 h.1 dX8_begins_31 ?_
    refine aw_nG (fun G_4 eG_4 => ?_)
    replace h := h.2 G_4 eG_4
    refine aw_al_n F 0 dX8_begins_32 rfl rfl ?_
    refine aw_bi F dX8_begins_33 bi_6 ?_
    refine aw_bi F dX8_begins_35 bi_30 ?_
    refine aw_iast F o0 k0 (lo_s hs0) (hP _ hs0) ha0 h.1 dX8_begins_37 ?_
    refine aw_nG (fun G_5 eG_5 => ?_)
    replace h := h.2 G_5 eG_5
    refine aw_al_n F 0 dX8_begins_38 rfl rfl ?_
    refine aw_bi F dX8_begins_39 bi_7 ?_
    refine aw_bi F dX8_begins_41 bi_50 ?_
    refine aw_iast F o0 k0 (lo_s hs0) (hP _ hs0) ha0 h.1 dX8_begins_43 ?_
    refine aw_nG (fun G_6 eG_6 => ?_)
    replace h := h.2 G_6 eG_6
    exact aw_vret F T (Nat.le_of_ble_eq_true rfl) (Nat.le_of_ble_eq_true rfl) ⟨rfl, h⟩ dX8_begins_44
  · replace h := h.2 c_1
    refine aw_al_n F 0 dX8_begins_9 rfl rfl ?_
    refine aw_il_n F 1 dX8_begins_10 rfl rfl ?_
    refine aw_ic F dX8_begins_11 ic_0 ?_
    refine aw_iast F o0 k0 (lo_s hs0) (hP _ hs0) ha0 h.1 dX8_begins_12 ?_
    refine aw_nG (fun G_7 eG_7 => ?_)
    replace h := h.2 G_7 eG_7
    refine aw_inc (lv1 := [(1, .int (v1 + (1 : Int32))), (0, .ref (sdX X o0 k0))]) F 1 dX8_begins_13 rfl (in_1 _) (by decide) rfl ?_
    refine aw_go (tgt := 2) F dX8_begins_16 (by decide) ?_
    refine aw_sub [1, 0] rfl ?_
    exact K2 _ _ h
set_option maxRecDepth 100000 in
set_option maxHeartbeats 4000000 in
theorem k_X8_begins {l : Launch} {E : Ev} {P : Nat → Prop} {sd : Nat → Nat → Nat} {G : GH} {post : GH → Prop} {o0 k0 m0 : Nat} (hPP : ∀ o, stt o = true → P o) (hs0 : stt o0 = true) (ha0 : al (oc o0) k0 = some (0, m0)) (h : wp_X8_begins post o0 k0 m0 G) : Ct l yX8_begins cX8_begins 2 none 0 0 0 E P sd G [.ref (sd o0 k0)] (pV post) := by
  refine ct_of (own := "MarkFieldModel") (by decide) rfl (Nat.le_of_ble_eq_true rfl) hPP (fun X F T el eP es => ?_)
  subst el; subst eP; subst es
  have hP := F.P
  change AW E X 2 0 [(0, .ref (sdX X o0 k0))] [] G 0 0
  refine aw_ic F dX8_begins_0 ic_0 ?_
  refine aw_is_n (lv1 := [(1, .int (0 : Int32)), (0, .ref (sdX X o0 k0))]) F dX8_begins_1 rfl (by decide) rfl ?_
  refine aw_sub [1, 0] rfl ?_
  exact kl_X8_begins_2 F T hs0 ha0 h
-- X8_marks (height 0)
def wp_X8_marks (post : Int32 → GH → Prop) (G : GH) : Prop :=
  post (G 24 1 1) G
set_option maxRecDepth 100000 in
set_option maxHeartbeats 4000000 in
theorem k_X8_marks {l : Launch} {E : Ev} {P : Nat → Prop} {sd : Nat → Nat → Nat} {G : GH} {post : Int32 → GH → Prop} (hPP : ∀ o, stt o = true → P o) (h : wp_X8_marks post G) : Ct l yX8_marks cX8_marks 1 (some .int) 0 0 0 E P sd G [.ref (sd 24 0)] (pI post) := by
  refine ct_of (own := "MarkFieldModel") (by decide) rfl (Nat.le_of_ble_eq_true rfl) hPP (fun X F T el eP es => ?_)
  subst el; subst eP; subst es
  have hP := F.P
  change AW E X 1 0 [(0, .ref (sdX X 24 0))] [] G 0 0
  refine aw_al_n F 0 dX8_marks_0 rfl rfl ?_
  refine gr8_0 F (lo_s rfl) (hP _ rfl) rfl w_1160 (hP _ rfl) dX8_marks_1 ?_
  refine aw_ic F dX8_marks_4 ic_1 ?_
  refine aw_ialdL F 24 1 (lo_s rfl) (hP _ rfl) rfl (vin_l rfl) tn_1 dX8_marks_5 ?_
  exact aw_iret F T (Nat.le_of_ble_eq_true rfl) (Nat.le_of_ble_eq_true rfl) ⟨_, rfl, h⟩ dX8_marks_6
-- X8_halvesMany (height 0)
def wp_X8_halvesMany (post : Int32 → GH → Prop) (G : GH) : Prop :=
  post ((2 : Int32) * (G 24 1 0)) G
set_option maxRecDepth 100000 in
set_option maxHeartbeats 4000000 in
theorem k_X8_halvesMany {l : Launch} {E : Ev} {P : Nat → Prop} {sd : Nat → Nat → Nat} {G : GH} {post : Int32 → GH → Prop} (hPP : ∀ o, stt o = true → P o) (h : wp_X8_halvesMany post G) : Ct l yX8_halvesMany cX8_halvesMany 1 (some .int) 0 0 0 E P sd G [.ref (sd 24 0)] (pI post) := by
  refine ct_of (own := "MarkFieldModel") (by decide) rfl (Nat.le_of_ble_eq_true rfl) hPP (fun X F T el eP es => ?_)
  subst el; subst eP; subst es
  have hP := F.P
  change AW E X 1 0 [(0, .ref (sdX X 24 0))] [] G 0 0
  refine aw_ic F dX8_halvesMany_0 ic_2 ?_
  refine aw_al_n F 0 dX8_halvesMany_1 rfl rfl ?_
  refine gr8_0 F (lo_s rfl) (hP _ rfl) rfl w_1160 (hP _ rfl) dX8_halvesMany_2 ?_
  refine aw_ic F dX8_halvesMany_5 ic_0 ?_
  refine aw_ialdL F 24 1 (lo_s rfl) (hP _ rfl) rfl (vin_l rfl) tn_0 dX8_halvesMany_6 ?_
  refine aw_imul F dX8_halvesMany_7 ?_
  exact aw_iret F T (Nat.le_of_ble_eq_true rfl) (Nat.le_of_ble_eq_true rfl) ⟨_, rfl, h⟩ dX8_halvesMany_8
-- X8_ruleOf (height 0)
def wp_X8_ruleOf (post : Int32 → GH → Prop) (x1 : Int32) (G : GH) : Prop :=
  (vp_in ((2 : Int32) + x1) 681 ∧ post (G 24 1 ((2 : Int32) + x1).toNatClampNeg) G)
set_option maxRecDepth 100000 in
set_option maxHeartbeats 4000000 in
theorem k_X8_ruleOf {l : Launch} {E : Ev} {P : Nat → Prop} {sd : Nat → Nat → Nat} {G : GH} {post : Int32 → GH → Prop} {x1 : Int32} (hPP : ∀ o, stt o = true → P o) (h : wp_X8_ruleOf post x1 G) : Ct l yX8_ruleOf cX8_ruleOf 2 (some .int) 0 0 0 E P sd G [.ref (sd 24 0), .int x1] (pI post) := by
  refine ct_of (own := "MarkFieldModel") (by decide) rfl (Nat.le_of_ble_eq_true rfl) hPP (fun X F T el eP es => ?_)
  subst el; subst eP; subst es
  have hP := F.P
  change AW E X 2 0 [(0, .ref (sdX X 24 0)), (1, .int x1)] [] G 0 0
  refine aw_al_n F 0 dX8_ruleOf_0 rfl rfl ?_
  refine gr8_0 F (lo_s rfl) (hP _ rfl) rfl w_1160 (hP _ rfl) dX8_ruleOf_1 ?_
  refine aw_ic F dX8_ruleOf_4 ic_2 ?_
  refine aw_il_n F 1 dX8_ruleOf_5 rfl rfl ?_
  refine aw_iadd F dX8_ruleOf_6 ?_
  refine aw_iald F 24 1 (lo_s rfl) (hP _ rfl) rfl h.1 dX8_ruleOf_7 ?_
  replace h := h.2
  exact aw_iret F T (Nat.le_of_ble_eq_true rfl) (Nat.le_of_ble_eq_true rfl) ⟨_, rfl, h⟩ dX8_ruleOf_8
-- X8_of1 (height 0)
def wp_X8_of1 (post : Int32 → GH → Prop) (x1 x2 : Int32) (G : GH) : Prop :=
  (vp_in (((18 : Int32) + ((51 : Int32) * x1)) + x2) 681 ∧ post (G 24 1 (((18 : Int32) + ((51 : Int32) * x1)) + x2).toNatClampNeg) G)
set_option maxRecDepth 100000 in
set_option maxHeartbeats 4000000 in
theorem k_X8_of1 {l : Launch} {E : Ev} {P : Nat → Prop} {sd : Nat → Nat → Nat} {G : GH} {post : Int32 → GH → Prop} {x1 x2 : Int32} (hPP : ∀ o, stt o = true → P o) (h : wp_X8_of1 post x1 x2 G) : Ct l yX8_of1 cX8_of1 3 (some .int) 0 0 0 E P sd G [.ref (sd 24 0), .int x1, .int x2] (pI post) := by
  refine ct_of (own := "MarkFieldModel") (by decide) rfl (Nat.le_of_ble_eq_true rfl) hPP (fun X F T el eP es => ?_)
  subst el; subst eP; subst es
  have hP := F.P
  change AW E X 3 0 [(0, .ref (sdX X 24 0)), (1, .int x1), (2, .int x2)] [] G 0 0
  refine aw_al_n F 0 dX8_of1_0 rfl rfl ?_
  refine gr8_0 F (lo_s rfl) (hP _ rfl) rfl w_1160 (hP _ rfl) dX8_of1_1 ?_
  refine aw_bi F dX8_of1_4 bi_18 ?_
  refine aw_bi F dX8_of1_6 bi_51 ?_
  refine aw_il_n F 1 dX8_of1_8 rfl rfl ?_
  refine aw_imul F dX8_of1_9 ?_
  refine aw_iadd F dX8_of1_10 ?_
  refine aw_il_n F 2 dX8_of1_11 rfl rfl ?_
  refine aw_iadd F dX8_of1_12 ?_
  refine aw_iald F 24 1 (lo_s rfl) (hP _ rfl) rfl h.1 dX8_of1_13 ?_
  replace h := h.2
  exact aw_iret F T (Nat.le_of_ble_eq_true rfl) (Nat.le_of_ble_eq_true rfl) ⟨_, rfl, h⟩ dX8_of1_14
-- X8_put (height 0)
def wp_X8_put (post : GH → Prop) (x1 x2 x3 : Int32) (G : GH) : Prop :=
  (vp_in (((18 : Int32) + ((51 : Int32) * x1)) + x2) 681 ∧ (∀ G_1 : GH, G_1 = gs G 24 1 (upd (G 24 1) (((18 : Int32) + ((51 : Int32) * x1)) + x2).toNatClampNeg x3) → post G_1))
set_option maxRecDepth 100000 in
set_option maxHeartbeats 4000000 in
theorem k_X8_put {l : Launch} {E : Ev} {P : Nat → Prop} {sd : Nat → Nat → Nat} {G : GH} {post : GH → Prop} {x1 x2 x3 : Int32} (hPP : ∀ o, stt o = true → P o) (h : wp_X8_put post x1 x2 x3 G) : Ct l yX8_put cX8_put 4 none 0 0 0 E P sd G [.ref (sd 24 0), .int x1, .int x2, .int x3] (pV post) := by
  refine ct_of (own := "MarkFieldModel") (by decide) rfl (Nat.le_of_ble_eq_true rfl) hPP (fun X F T el eP es => ?_)
  subst el; subst eP; subst es
  have hP := F.P
  change AW E X 4 0 [(0, .ref (sdX X 24 0)), (1, .int x1), (2, .int x2), (3, .int x3)] [] G 0 0
  refine aw_al_n F 0 dX8_put_0 rfl rfl ?_
  refine gr8_0 F (lo_s rfl) (hP _ rfl) rfl w_1160 (hP _ rfl) dX8_put_1 ?_
  refine aw_bi F dX8_put_4 bi_18 ?_
  refine aw_bi F dX8_put_6 bi_51 ?_
  refine aw_il_n F 1 dX8_put_8 rfl rfl ?_
  refine aw_imul F dX8_put_9 ?_
  refine aw_iadd F dX8_put_10 ?_
  refine aw_il_n F 2 dX8_put_11 rfl rfl ?_
  refine aw_iadd F dX8_put_12 ?_
  refine aw_il_n F 3 dX8_put_13 rfl rfl ?_
  refine aw_iast F 24 1 (lo_s rfl) (hP _ rfl) rfl h.1 dX8_put_14 ?_
  refine aw_nG (fun G_1 eG_1 => ?_)
  replace h := h.2 G_1 eG_1
  exact aw_vret F T (Nat.le_of_ble_eq_true rfl) (Nat.le_of_ble_eq_true rfl) ⟨rfl, h⟩ dX8_put_15
-- X8_isMark (height 1)
def wp_X8_isMark (post : Bool → GH → Prop) (x1 : Int32) (G : GH) : Prop :=
  wp_X8_marks (fun (r_2 : Int32) (G_1 : GH) => wp_X8_within (fun (b_4 : Bool) (G_3 : GH) => post b_4 G_3) x1 (0 : Int32) (r_2 - (1 : Int32)) G_1) G
set_option maxRecDepth 100000 in
set_option maxHeartbeats 4000000 in
theorem k_X8_isMark {l : Launch} {E : Ev} {P : Nat → Prop} {sd : Nat → Nat → Nat} {G : GH} {post : Bool → GH → Prop} {x1 : Int32} (hPP : ∀ o, stt o = true → P o) (h : wp_X8_isMark post x1 G) : Ct l yX8_isMark cX8_isMark 2 (some .boolean) 1 0 0 E P sd G [.ref (sd 24 0), .int x1] (pB post) := by
  refine ct_of (own := "MarkFieldModel") (by decide) rfl (Nat.le_of_ble_eq_true rfl) hPP (fun X F T el eP es => ?_)
  subst el; subst eP; subst es
  have hP := F.P
  change AW E X 2 0 [(0, .ref (sdX X 24 0)), (1, .int x1)] [] G 0 0
  refine aw_il_n F 1 dX8_isMark_0 rfl rfl ?_
  refine aw_ic F dX8_isMark_1 ic_0 ?_
  refine aw_al_n F 0 dX8_isMark_2 rfl rfl ?_
  refine aw_cVi (stk := [.int (0 : Int32), .int x1]) F T.room [] (k_X8_marks hP h) mv_X8_marks w_1305 cf8 (lo_s rfl) (hP _ rfl) rfl (by decide) rfl rfl (Nat.le_of_ble_eq_true rfl) ⟨(Nat.le_of_ble_eq_true rfl), (Nat.le_of_ble_eq_true rfl)⟩ ⟨(Nat.le_of_ble_eq_true rfl), (Nat.le_of_ble_eq_true rfl)⟩ dX8_isMark_3 (fun r_2 G_1 h => ?_)
  refine aw_ic F dX8_isMark_6 ic_1 ?_
  refine aw_isub F dX8_isMark_7 ?_
  refine aw_cSb (stk := []) F T.room [.int x1, .int (0 : Int32), .int (r_2 - (1 : Int32))] (k_X8_within hP h) ms_X8_within w_1427 rfl rfl (Nat.le_of_ble_eq_true rfl) ⟨(Nat.le_of_ble_eq_true rfl), (Nat.le_of_ble_eq_true rfl)⟩ ⟨(Nat.le_of_ble_eq_true rfl), (Nat.le_of_ble_eq_true rfl)⟩ dX8_isMark_8 (fun b_4 G_3 h => ?_)
  exact aw_zret F T b_4 rfl (Nat.le_of_ble_eq_true rfl) (Nat.le_of_ble_eq_true rfl) ⟨_, rfl, h⟩ dX8_isMark_11
-- X8_isHalf (height 1)
def wp_X8_isHalf (post : Bool → GH → Prop) (x1 : Int32) (G : GH) : Prop :=
  wp_X8_halvesMany (fun (r_2 : Int32) (G_1 : GH) => wp_X8_within (fun (b_4 : Bool) (G_3 : GH) => post b_4 G_3) x1 (0 : Int32) (r_2 - (1 : Int32)) G_1) G
set_option maxRecDepth 100000 in
set_option maxHeartbeats 4000000 in
theorem k_X8_isHalf {l : Launch} {E : Ev} {P : Nat → Prop} {sd : Nat → Nat → Nat} {G : GH} {post : Bool → GH → Prop} {x1 : Int32} (hPP : ∀ o, stt o = true → P o) (h : wp_X8_isHalf post x1 G) : Ct l yX8_isHalf cX8_isHalf 2 (some .boolean) 1 0 0 E P sd G [.ref (sd 24 0), .int x1] (pB post) := by
  refine ct_of (own := "MarkFieldModel") (by decide) rfl (Nat.le_of_ble_eq_true rfl) hPP (fun X F T el eP es => ?_)
  subst el; subst eP; subst es
  have hP := F.P
  change AW E X 2 0 [(0, .ref (sdX X 24 0)), (1, .int x1)] [] G 0 0
  refine aw_il_n F 1 dX8_isHalf_0 rfl rfl ?_
  refine aw_ic F dX8_isHalf_1 ic_0 ?_
  refine aw_al_n F 0 dX8_isHalf_2 rfl rfl ?_
  refine aw_cVi (stk := [.int (0 : Int32), .int x1]) F T.room [] (k_X8_halvesMany hP h) mv_X8_halvesMany w_1400 cf8 (lo_s rfl) (hP _ rfl) rfl (by decide) rfl rfl (Nat.le_of_ble_eq_true rfl) ⟨(Nat.le_of_ble_eq_true rfl), (Nat.le_of_ble_eq_true rfl)⟩ ⟨(Nat.le_of_ble_eq_true rfl), (Nat.le_of_ble_eq_true rfl)⟩ dX8_isHalf_3 (fun r_2 G_1 h => ?_)
  refine aw_ic F dX8_isHalf_6 ic_1 ?_
  refine aw_isub F dX8_isHalf_7 ?_
  refine aw_cSb (stk := []) F T.room [.int x1, .int (0 : Int32), .int (r_2 - (1 : Int32))] (k_X8_within hP h) ms_X8_within w_1427 rfl rfl (Nat.le_of_ble_eq_true rfl) ⟨(Nat.le_of_ble_eq_true rfl), (Nat.le_of_ble_eq_true rfl)⟩ ⟨(Nat.le_of_ble_eq_true rfl), (Nat.le_of_ble_eq_true rfl)⟩ dX8_isHalf_8 (fun b_4 G_3 h => ?_)
  exact aw_zret F T b_4 rfl (Nat.le_of_ble_eq_true rfl) (Nat.le_of_ble_eq_true rfl) ⟨_, rfl, h⟩ dX8_isHalf_11
-- X8_isDay (height 1)
def wp_X8_isDay (post : Bool → GH → Prop) (x0 : Int32) (G : GH) : Prop :=
  wp_X8_within (fun (b_2 : Bool) (G_1 : GH) => post b_2 G_1) x0 (0 : Int32) (9999 : Int32) G
set_option maxRecDepth 100000 in
set_option maxHeartbeats 4000000 in
theorem k_X8_isDay {l : Launch} {E : Ev} {P : Nat → Prop} {sd : Nat → Nat → Nat} {G : GH} {post : Bool → GH → Prop} {x0 : Int32} (hPP : ∀ o, stt o = true → P o) (h : wp_X8_isDay post x0 G) : Ct l yX8_isDay cX8_isDay 1 (some .boolean) 1 0 0 E P sd G [.int x0] (pB post) := by
  refine ct_of (own := "MarkFieldModel") (by decide) rfl (Nat.le_of_ble_eq_true rfl) hPP (fun X F T el eP es => ?_)
  subst el; subst eP; subst es
  have hP := F.P
  change AW E X 1 0 [(0, .int x0)] [] G 0 0
  refine aw_il_n F 0 dX8_isDay_0 rfl rfl ?_
  refine aw_ic F dX8_isDay_1 ic_0 ?_
  refine aw_si F dX8_isDay_2 si_9999 ?_
  refine aw_cSb (stk := []) F T.room [.int x0, .int (0 : Int32), .int (9999 : Int32)] (k_X8_within hP h) ms_X8_within w_1427 rfl rfl (Nat.le_of_ble_eq_true rfl) ⟨(Nat.le_of_ble_eq_true rfl), (Nat.le_of_ble_eq_true rfl)⟩ ⟨(Nat.le_of_ble_eq_true rfl), (Nat.le_of_ble_eq_true rfl)⟩ dX8_isDay_5 (fun b_2 G_1 h => ?_)
  exact aw_zret F T b_2 rfl (Nat.le_of_ble_eq_true rfl) (Nat.le_of_ble_eq_true rfl) ⟨_, rfl, h⟩ dX8_isDay_8
-- X8_letterAt (height 1)
def wp_X8_letterAt (post : Int32 → GH → Prop) (x1 x2 : Int32) (G : GH) : Prop :=
  wp_X8_of1 (fun (r_2 : Int32) (G_1 : GH) => ((r_2 ≤ x2 → post (0 : Int32) G_1) ∧ (¬ r_2 ≤ x2 → wp_X8_of1 (fun (r_5 : Int32) (G_4 : GH) => post r_5 G_4) x1 ((1 : Int32) + x2) G_1))) x1 (0 : Int32) G
set_option maxRecDepth 100000 in
set_option maxHeartbeats 4000000 in
theorem k_X8_letterAt {l : Launch} {E : Ev} {P : Nat → Prop} {sd : Nat → Nat → Nat} {G : GH} {post : Int32 → GH → Prop} {x1 x2 : Int32} (hPP : ∀ o, stt o = true → P o) (h : wp_X8_letterAt post x1 x2 G) : Ct l yX8_letterAt cX8_letterAt 3 (some .int) 1 0 0 E P sd G [.ref (sd 24 0), .int x1, .int x2] (pI post) := by
  refine ct_of (own := "MarkFieldModel") (by decide) rfl (Nat.le_of_ble_eq_true rfl) hPP (fun X F T el eP es => ?_)
  subst el; subst eP; subst es
  have hP := F.P
  change AW E X 3 0 [(0, .ref (sdX X 24 0)), (1, .int x1), (2, .int x2)] [] G 0 0
  refine aw_il_n F 2 dX8_letterAt_0 rfl rfl ?_
  refine aw_al_n F 0 dX8_letterAt_1 rfl rfl ?_
  refine aw_il_n F 1 dX8_letterAt_2 rfl rfl ?_
  refine aw_ic F dX8_letterAt_3 ic_0 ?_
  refine aw_cVi (stk := [.int x2]) F T.room [.int x1, .int (0 : Int32)] (k_X8_of1 hP h) mv_X8_of1 w_1313 cf8 (lo_s rfl) (hP _ rfl) rfl (by decide) rfl rfl (Nat.le_of_ble_eq_true rfl) ⟨(Nat.le_of_ble_eq_true rfl), (Nat.le_of_ble_eq_true rfl)⟩ ⟨(Nat.le_of_ble_eq_true rfl), (Nat.le_of_ble_eq_true rfl)⟩ dX8_letterAt_4 (fun r_2 G_1 h => ?_)
  refine aw_icmp_ge (tgt := 21) F dX8_letterAt_7 (by decide) (fun c_3 => ?_) (fun c_3 => ?_)
  · replace h := h.1 c_3
    refine aw_ic F dX8_letterAt_21 ic_0 ?_
    exact aw_iret F T (Nat.le_of_ble_eq_true rfl) (Nat.le_of_ble_eq_true rfl) ⟨_, rfl, h⟩ dX8_letterAt_22
  · replace h := h.2 c_3
    refine aw_al_n F 0 dX8_letterAt_10 rfl rfl ?_
    refine aw_il_n F 1 dX8_letterAt_11 rfl rfl ?_
    refine aw_ic F dX8_letterAt_12 ic_1 ?_
    refine aw_il_n F 2 dX8_letterAt_13 rfl rfl ?_
    refine aw_iadd F dX8_letterAt_14 ?_
    refine aw_cVi (stk := []) F T.room [.int x1, .int ((1 : Int32) + x2)] (k_X8_of1 hP h) mv_X8_of1 w_1313 cf8 (lo_s rfl) (hP _ rfl) rfl (by decide) rfl rfl (Nat.le_of_ble_eq_true rfl) ⟨(Nat.le_of_ble_eq_true rfl), (Nat.le_of_ble_eq_true rfl)⟩ ⟨(Nat.le_of_ble_eq_true rfl), (Nat.le_of_ble_eq_true rfl)⟩ dX8_letterAt_15 (fun r_5 G_4 h => ?_)
    refine aw_go (tgt := 22) F dX8_letterAt_18 (by decide) ?_
    exact aw_iret F T (Nat.le_of_ble_eq_true rfl) (Nat.le_of_ble_eq_true rfl) ⟨_, rfl, h⟩ dX8_letterAt_22
-- X8_isPair (height 2)
def wp_X8_isPair (post : Bool → GH → Prop) (x1 x2 x3 x4 : Int32) (G : GH) : Prop :=
  wp_X8_letterAt (fun (r_2 : Int32) (G_1 : GH) => ((r_2 = x3 → wp_X8_letterAt (fun (r_5 : Int32) (G_4 : GH) => ((r_5 = x4 → post true G_4) ∧ (¬ r_5 = x4 → post false G_4))) x1 (x2 + (1 : Int32)) G_1) ∧ (¬ r_2 = x3 → post false G_1))) x1 x2 G
set_option maxRecDepth 100000 in
set_option maxHeartbeats 4000000 in
theorem k_X8_isPair {l : Launch} {E : Ev} {P : Nat → Prop} {sd : Nat → Nat → Nat} {G : GH} {post : Bool → GH → Prop} {x1 x2 x3 x4 : Int32} (hPP : ∀ o, stt o = true → P o) (h : wp_X8_isPair post x1 x2 x3 x4 G) : Ct l yX8_isPair cX8_isPair 5 (some .boolean) 2 0 0 E P sd G [.ref (sd 24 0), .int x1, .int x2, .int x3, .int x4] (pB post) := by
  refine ct_of (own := "MarkFieldModel") (by decide) rfl (Nat.le_of_ble_eq_true rfl) hPP (fun X F T el eP es => ?_)
  subst el; subst eP; subst es
  have hP := F.P
  change AW E X 5 0 [(0, .ref (sdX X 24 0)), (1, .int x1), (2, .int x2), (3, .int x3), (4, .int x4)] [] G 0 0
  refine aw_al_n F 0 dX8_isPair_0 rfl rfl ?_
  refine aw_il_n F 1 dX8_isPair_1 rfl rfl ?_
  refine aw_il_n F 2 dX8_isPair_2 rfl rfl ?_
  refine aw_cVi (stk := []) F T.room [.int x1, .int x2] (k_X8_letterAt hP h) mv_X8_letterAt w_1325 cf8 (lo_s rfl) (hP _ rfl) rfl (by decide) rfl rfl (Nat.le_of_ble_eq_true rfl) ⟨(Nat.le_of_ble_eq_true rfl), (Nat.le_of_ble_eq_true rfl)⟩ ⟨(Nat.le_of_ble_eq_true rfl), (Nat.le_of_ble_eq_true rfl)⟩ dX8_isPair_3 (fun r_2 G_1 h => ?_)
  refine aw_il_n F 3 dX8_isPair_6 rfl rfl ?_
  refine aw_icmp_ne (tgt := 27) F dX8_isPair_7 (by decide) (fun c_3 => ?_) (fun c_3 => ?_)
  · replace h := h.2 c_3
    refine aw_ic F dX8_isPair_27 ic_0 ?_
    exact aw_zret F T false rfl (Nat.le_of_ble_eq_true rfl) (Nat.le_of_ble_eq_true rfl) ⟨_, rfl, h⟩ dX8_isPair_28
  · replace h := h.1 c_3
    refine aw_al_n F 0 dX8_isPair_10 rfl rfl ?_
    refine aw_il_n F 1 dX8_isPair_11 rfl rfl ?_
    refine aw_il_n F 2 dX8_isPair_12 rfl rfl ?_
    refine aw_ic F dX8_isPair_13 ic_1 ?_
    refine aw_iadd F dX8_isPair_14 ?_
    refine aw_cVi (stk := []) F T.room [.int x1, .int (x2 + (1 : Int32))] (k_X8_letterAt hP h) mv_X8_letterAt w_1325 cf8 (lo_s rfl) (hP _ rfl) rfl (by decide) rfl rfl (Nat.le_of_ble_eq_true rfl) ⟨(Nat.le_of_ble_eq_true rfl), (Nat.le_of_ble_eq_true rfl)⟩ ⟨(Nat.le_of_ble_eq_true rfl), (Nat.le_of_ble_eq_true rfl)⟩ dX8_isPair_15 (fun r_5 G_4 h => ?_)
    refine aw_il F 4 dX8_isPair_18 rfl ?_
    refine aw_icmp_ne (tgt := 27) F dX8_isPair_20 (by decide) (fun c_6 => ?_) (fun c_6 => ?_)
    · replace h := h.2 c_6
      refine aw_ic F dX8_isPair_27 ic_0 ?_
      exact aw_zret F T false rfl (Nat.le_of_ble_eq_true rfl) (Nat.le_of_ble_eq_true rfl) ⟨_, rfl, h⟩ dX8_isPair_28
    · replace h := h.1 c_6
      refine aw_ic F dX8_isPair_23 ic_1 ?_
      refine aw_go (tgt := 28) F dX8_isPair_24 (by decide) ?_
      exact aw_zret F T true rfl (Nat.le_of_ble_eq_true rfl) (Nat.le_of_ble_eq_true rfl) ⟨_, rfl, h⟩ dX8_isPair_28
-- X8_hears (height 0)
def j_X8_hears_29 (post : GH → Prop) (v1 v2 v3 : Int32) (G : GH) : Prop :=
  (vp_in (((20 : Int32) * v1) + v3) 260 ∧ (∀ G_3 : GH, G_3 = gs G 24 9 (upd (G 24 9) (((20 : Int32) * v1) + v3).toNatClampNeg v2) → (vp_in v1 13 ∧ (vp_in v1 13 ∧ (∀ G_4 : GH, G_4 = gs G_3 24 10 (upd (G_3 24 10) v1.toNatClampNeg ((G_3 24 10 v1.toNatClampNeg) + (1 : Int32))) → post G_4)))))
def wp_X8_hears (post : GH → Prop) (x1 x2 : Int32) (G : GH) : Prop :=
  (vp_in x1 13 ∧ (∀ y_1 : Int32, y_1 = (G 24 10 x1.toNatClampNeg) → ((y_1 ≤ 0 → j_X8_hears_29 post x1 x2 y_1 G) ∧ (¬ y_1 ≤ 0 → (vp_in ((((20 : Int32) * x1) + y_1) - (1 : Int32)) 260 ∧ (((G 24 9 ((((20 : Int32) * x1) + y_1) - (1 : Int32)).toNatClampNeg) = x2 → post G) ∧ (¬ (G 24 9 ((((20 : Int32) * x1) + y_1) - (1 : Int32)).toNatClampNeg) = x2 → j_X8_hears_29 post x1 x2 y_1 G)))))))
set_option maxRecDepth 100000 in
set_option maxHeartbeats 4000000 in
theorem kj_X8_hears_29 {E : Ev} {X : Cx} {post : GH → Prop} {v1 v2 v3 : Int32} {G : GH} (F : Fx E X "MarkFieldModel" cX8_hears 4) (T : RT E X 0 0 0 none (pV post)) (h : j_X8_hears_29 post v1 v2 v3 G) : AW E X 4 29 [(0, .ref (sdX X 24 0)), (1, .int v1), (2, .int v2), (3, .int v3)] [] G 0 0 := by
  have hP := F.P
  refine aw_al_n F 0 dX8_hears_29 rfl rfl ?_
  refine gr8_8 F (lo_s rfl) (hP _ rfl) rfl w_1168 (hP _ rfl) dX8_hears_30 ?_
  refine aw_bi F dX8_hears_33 bi_20 ?_
  refine aw_il_n F 1 dX8_hears_35 rfl rfl ?_
  refine aw_imul F dX8_hears_36 ?_
  refine aw_il_n F 3 dX8_hears_37 rfl rfl ?_
  refine aw_iadd F dX8_hears_38 ?_
  refine aw_il_n F 2 dX8_hears_39 rfl rfl ?_
  refine aw_iast F 24 9 (lo_s rfl) (hP _ rfl) rfl h.1 dX8_hears_40 ?_
  refine aw_nG (fun G_3 eG_3 => ?_)
  replace h := h.2 G_3 eG_3
  refine aw_al_n F 0 dX8_hears_41 rfl rfl ?_
  refine gr8_9 F (lo_s rfl) (hP _ rfl) rfl w_1169 (hP _ rfl) dX8_hears_42 ?_
  refine aw_il_n F 1 dX8_hears_45 rfl rfl ?_
  refine aw_dup2 F dX8_hears_46 rfl rfl ?_
  refine aw_iald F 24 10 (lo_s rfl) (hP _ rfl) rfl h.1 dX8_hears_47 ?_
  replace h := h.2
  refine aw_ic F dX8_hears_48 ic_1 ?_
  refine aw_iadd F dX8_hears_49 ?_
  refine aw_iast F 24 10 (lo_s rfl) (hP _ rfl) rfl h.1 dX8_hears_50 ?_
  refine aw_nG (fun G_4 eG_4 => ?_)
  replace h := h.2 G_4 eG_4
  exact aw_vret F T (Nat.le_of_ble_eq_true rfl) (Nat.le_of_ble_eq_true rfl) ⟨rfl, h⟩ dX8_hears_51
set_option maxRecDepth 100000 in
set_option maxHeartbeats 4000000 in
theorem k_X8_hears {l : Launch} {E : Ev} {P : Nat → Prop} {sd : Nat → Nat → Nat} {G : GH} {post : GH → Prop} {x1 x2 : Int32} (hPP : ∀ o, stt o = true → P o) (h : wp_X8_hears post x1 x2 G) : Ct l yX8_hears cX8_hears 4 none 0 0 0 E P sd G [.ref (sd 24 0), .int x1, .int x2] (pV post) := by
  refine ct_of (own := "MarkFieldModel") (by decide) rfl (Nat.le_of_ble_eq_true rfl) hPP (fun X F T el eP es => ?_)
  subst el; subst eP; subst es
  have hP := F.P
  change AW E X 4 0 [(0, .ref (sdX X 24 0)), (1, .int x1), (2, .int x2)] [] G 0 0
  refine aw_al_n F 0 dX8_hears_0 rfl rfl ?_
  refine gr8_9 F (lo_s rfl) (hP _ rfl) rfl w_1169 (hP _ rfl) dX8_hears_1 ?_
  refine aw_il_n F 1 dX8_hears_4 rfl rfl ?_
  refine aw_iald F 24 10 (lo_s rfl) (hP _ rfl) rfl h.1 dX8_hears_5 ?_
  replace h := h.2
  refine aw_top (fun y_1 ey_1 => ?_)
  replace h := h y_1 ey_1
  refine aw_is_n (lv1 := [(3, .int y_1), (0, .ref (sdX X 24 0)), (1, .int x1), (2, .int x2)]) F dX8_hears_6 rfl (by decide) rfl ?_
  refine aw_il_n F 0 dX8_hears_7 rfl rfl ?_
  refine aw_if_le (tgt := 29) F dX8_hears_8 (by decide) (fun c_2 => ?_) (fun c_2 => ?_)
  · replace h := h.1 c_2
    refine aw_sub [1, 2, 3, 0] rfl ?_
    exact kj_X8_hears_29 F T h
  · replace h := h.2 c_2
    refine aw_al_n F 1 dX8_hears_11 rfl rfl ?_
    refine gr8_8 F (lo_s rfl) (hP _ rfl) rfl w_1168 (hP _ rfl) dX8_hears_12 ?_
    refine aw_bi F dX8_hears_15 bi_20 ?_
    refine aw_il_n F 2 dX8_hears_17 rfl rfl ?_
    refine aw_imul F dX8_hears_18 ?_
    refine aw_il_n F 0 dX8_hears_19 rfl rfl ?_
    refine aw_iadd F dX8_hears_20 ?_
    refine aw_ic F dX8_hears_21 ic_1 ?_
    refine aw_isub F dX8_hears_22 ?_
    refine aw_iald F 24 9 (lo_s rfl) (hP _ rfl) rfl h.1 dX8_hears_23 ?_
    replace h := h.2
    refine aw_il_n F 3 dX8_hears_24 rfl rfl ?_
    refine aw_icmp_ne (tgt := 29) F dX8_hears_25 (by decide) (fun c_5 => ?_) (fun c_5 => ?_)
    · replace h := h.2 c_5
      refine aw_sub [1, 2, 3, 0] rfl ?_
      exact kj_X8_hears_29 F T h
    · replace h := h.1 c_5
      exact aw_vret F T (Nat.le_of_ble_eq_true rfl) (Nat.le_of_ble_eq_true rfl) ⟨rfl, h⟩ dX8_hears_28
-- X8_pairAt (height 3)
def wp_X8_pairAt (post : Int32 → GH → Prop) (x1 x2 : Int32) (G : GH) : Prop :=
  wp_X8_isPair (fun (b_2 : Bool) (G_1 : GH) => ((b_2 = false → wp_X8_isPair (fun (b_5 : Bool) (G_4 : GH) => ((b_5 = false → wp_X8_isPair (fun (b_8 : Bool) (G_7 : GH) => ((b_8 = false → wp_X8_isPair (fun (b_11 : Bool) (G_10 : GH) => ((b_11 = false → wp_X8_isPair (fun (b_14 : Bool) (G_13 : GH) => ((b_14 = false → wp_X8_isPair (fun (b_17 : Bool) (G_16 : GH) => ((b_17 = false → post (-1 : Int32) G_16) ∧ (b_17 = true → post (-2 : Int32) G_16))) x1 x2 (103 : Int32) (104 : Int32) G_13) ∧ (b_14 = true → post (8 : Int32) G_13))) x1 x2 (115 : Int32) (104 : Int32) G_10) ∧ (b_11 = true → post (2 : Int32) G_10))) x1 x2 (99 : Int32) (107 : Int32) G_7) ∧ (b_8 = true → post (2 : Int32) G_7))) x1 x2 (99 : Int32) (104 : Int32) G_4) ∧ (b_5 = true → post (9 : Int32) G_4))) x1 x2 (116 : Int32) (104 : Int32) G_1) ∧ (b_2 = true → post (1 : Int32) G_1))) x1 x2 (112 : Int32) (104 : Int32) G
set_option maxRecDepth 100000 in
set_option maxHeartbeats 4000000 in
theorem k_X8_pairAt {l : Launch} {E : Ev} {P : Nat → Prop} {sd : Nat → Nat → Nat} {G : GH} {post : Int32 → GH → Prop} {x1 x2 : Int32} (hPP : ∀ o, stt o = true → P o) (h : wp_X8_pairAt post x1 x2 G) : Ct l yX8_pairAt cX8_pairAt 3 (some .int) 3 0 0 E P sd G [.ref (sd 24 0), .int x1, .int x2] (pI post) := by
  refine ct_of (own := "MarkFieldModel") (by decide) rfl (Nat.le_of_ble_eq_true rfl) hPP (fun X F T el eP es => ?_)
  subst el; subst eP; subst es
  have hP := F.P
  change AW E X 3 0 [(0, .ref (sdX X 24 0)), (1, .int x1), (2, .int x2)] [] G 0 0
  refine aw_al_n F 0 dX8_pairAt_0 rfl rfl ?_
  refine aw_il_n F 1 dX8_pairAt_1 rfl rfl ?_
  refine aw_il_n F 2 dX8_pairAt_2 rfl rfl ?_
  refine aw_bi F dX8_pairAt_3 bi_112 ?_
  refine aw_bi F dX8_pairAt_5 bi_104 ?_
  refine aw_cVb (stk := []) F T.room [.int x1, .int x2, .int (112 : Int32), .int (104 : Int32)] (k_X8_isPair hP h) mv_X8_isPair w_1321 cf8 (lo_s rfl) (hP _ rfl) rfl (by decide) rfl rfl (Nat.le_of_ble_eq_true rfl) ⟨(Nat.le_of_ble_eq_true rfl), (Nat.le_of_ble_eq_true rfl)⟩ ⟨(Nat.le_of_ble_eq_true rfl), (Nat.le_of_ble_eq_true rfl)⟩ dX8_pairAt_7 (fun b_2 G_1 h => ?_)
  refine aw_if_eq (tgt := 15) F dX8_pairAt_10 (by decide) (fun c_3 => ?_) (fun c_3 => ?_)
  · replace h := h.1 (bI_2 c_3)
    refine aw_al_n F 0 dX8_pairAt_15 rfl rfl ?_
    refine aw_il_n F 1 dX8_pairAt_16 rfl rfl ?_
    refine aw_il_n F 2 dX8_pairAt_17 rfl rfl ?_
    refine aw_bi F dX8_pairAt_18 bi_116 ?_
    refine aw_bi F dX8_pairAt_20 bi_104 ?_
    refine aw_cVb (stk := []) F T.room [.int x1, .int x2, .int (116 : Int32), .int (104 : Int32)] (k_X8_isPair hP h) mv_X8_isPair w_1321 cf8 (lo_s rfl) (hP _ rfl) rfl (by decide) rfl rfl (Nat.le_of_ble_eq_true rfl) ⟨(Nat.le_of_ble_eq_true rfl), (Nat.le_of_ble_eq_true rfl)⟩ ⟨(Nat.le_of_ble_eq_true rfl), (Nat.le_of_ble_eq_true rfl)⟩ dX8_pairAt_22 (fun b_5 G_4 h => ?_)
    refine aw_if_eq (tgt := 31) F dX8_pairAt_25 (by decide) (fun c_6 => ?_) (fun c_6 => ?_)
    · replace h := h.1 (bI_2 c_6)
      refine aw_al_n F 0 dX8_pairAt_31 rfl rfl ?_
      refine aw_il_n F 1 dX8_pairAt_32 rfl rfl ?_
      refine aw_il_n F 2 dX8_pairAt_33 rfl rfl ?_
      refine aw_bi F dX8_pairAt_34 bi_99 ?_
      refine aw_bi F dX8_pairAt_36 bi_104 ?_
      refine aw_cVb (stk := []) F T.room [.int x1, .int x2, .int (99 : Int32), .int (104 : Int32)] (k_X8_isPair hP h) mv_X8_isPair w_1321 cf8 (lo_s rfl) (hP _ rfl) rfl (by decide) rfl rfl (Nat.le_of_ble_eq_true rfl) ⟨(Nat.le_of_ble_eq_true rfl), (Nat.le_of_ble_eq_true rfl)⟩ ⟨(Nat.le_of_ble_eq_true rfl), (Nat.le_of_ble_eq_true rfl)⟩ dX8_pairAt_38 (fun b_8 G_7 h => ?_)
      refine aw_if_ne (tgt := 57) F dX8_pairAt_41 (by decide) (fun c_9 => ?_) (fun c_9 => ?_)
      · replace h := h.2 (bI_1 c_9)
        refine aw_ic F dX8_pairAt_57 ic_2 ?_
        exact aw_iret F T (Nat.le_of_ble_eq_true rfl) (Nat.le_of_ble_eq_true rfl) ⟨_, rfl, h⟩ dX8_pairAt_58
      · replace h := h.1 (bI_2 c_9)
        refine aw_al_n F 0 dX8_pairAt_44 rfl rfl ?_
        refine aw_il_n F 1 dX8_pairAt_45 rfl rfl ?_
        refine aw_il_n F 2 dX8_pairAt_46 rfl rfl ?_
        refine aw_bi F dX8_pairAt_47 bi_99 ?_
        refine aw_bi F dX8_pairAt_49 bi_107 ?_
        refine aw_cVb (stk := []) F T.room [.int x1, .int x2, .int (99 : Int32), .int (107 : Int32)] (k_X8_isPair hP h) mv_X8_isPair w_1321 cf8 (lo_s rfl) (hP _ rfl) rfl (by decide) rfl rfl (Nat.le_of_ble_eq_true rfl) ⟨(Nat.le_of_ble_eq_true rfl), (Nat.le_of_ble_eq_true rfl)⟩ ⟨(Nat.le_of_ble_eq_true rfl), (Nat.le_of_ble_eq_true rfl)⟩ dX8_pairAt_51 (fun b_11 G_10 h => ?_)
        refine aw_if_eq (tgt := 59) F dX8_pairAt_54 (by decide) (fun c_12 => ?_) (fun c_12 => ?_)
        · replace h := h.1 (bI_2 c_12)
          refine aw_al_n F 0 dX8_pairAt_59 rfl rfl ?_
          refine aw_il_n F 1 dX8_pairAt_60 rfl rfl ?_
          refine aw_il_n F 2 dX8_pairAt_61 rfl rfl ?_
          refine aw_bi F dX8_pairAt_62 bi_115 ?_
          refine aw_bi F dX8_pairAt_64 bi_104 ?_
          refine aw_cVb (stk := []) F T.room [.int x1, .int x2, .int (115 : Int32), .int (104 : Int32)] (k_X8_isPair hP h) mv_X8_isPair w_1321 cf8 (lo_s rfl) (hP _ rfl) rfl (by decide) rfl rfl (Nat.le_of_ble_eq_true rfl) ⟨(Nat.le_of_ble_eq_true rfl), (Nat.le_of_ble_eq_true rfl)⟩ ⟨(Nat.le_of_ble_eq_true rfl), (Nat.le_of_ble_eq_true rfl)⟩ dX8_pairAt_66 (fun b_14 G_13 h => ?_)
          refine aw_if_eq (tgt := 75) F dX8_pairAt_69 (by decide) (fun c_15 => ?_) (fun c_15 => ?_)
          · replace h := h.1 (bI_2 c_15)
            refine aw_al_n F 0 dX8_pairAt_75 rfl rfl ?_
            refine aw_il_n F 1 dX8_pairAt_76 rfl rfl ?_
            refine aw_il_n F 2 dX8_pairAt_77 rfl rfl ?_
            refine aw_bi F dX8_pairAt_78 bi_103 ?_
            refine aw_bi F dX8_pairAt_80 bi_104 ?_
            refine aw_cVb (stk := []) F T.room [.int x1, .int x2, .int (103 : Int32), .int (104 : Int32)] (k_X8_isPair hP h) mv_X8_isPair w_1321 cf8 (lo_s rfl) (hP _ rfl) rfl (by decide) rfl rfl (Nat.le_of_ble_eq_true rfl) ⟨(Nat.le_of_ble_eq_true rfl), (Nat.le_of_ble_eq_true rfl)⟩ ⟨(Nat.le_of_ble_eq_true rfl), (Nat.le_of_ble_eq_true rfl)⟩ dX8_pairAt_82 (fun b_17 G_16 h => ?_)
            refine aw_if_eq (tgt := 93) F dX8_pairAt_85 (by decide) (fun c_18 => ?_) (fun c_18 => ?_)
            · replace h := h.1 (bI_2 c_18)
              refine aw_ic F dX8_pairAt_93 ic_m1 ?_
              exact aw_iret F T (Nat.le_of_ble_eq_true rfl) (Nat.le_of_ble_eq_true rfl) ⟨_, rfl, h⟩ dX8_pairAt_94
            · replace h := h.2 (bI_1 c_18)
              refine aw_bi F dX8_pairAt_88 bi_m2 ?_
              refine aw_go (tgt := 94) F dX8_pairAt_90 (by decide) ?_
              exact aw_iret F T (Nat.le_of_ble_eq_true rfl) (Nat.le_of_ble_eq_true rfl) ⟨_, rfl, h⟩ dX8_pairAt_94
          · replace h := h.2 (bI_1 c_15)
            refine aw_bi F dX8_pairAt_72 bi_8 ?_
            exact aw_iret F T (Nat.le_of_ble_eq_true rfl) (Nat.le_of_ble_eq_true rfl) ⟨_, rfl, h⟩ dX8_pairAt_74
        · replace h := h.2 (bI_1 c_12)
          refine aw_ic F dX8_pairAt_57 ic_2 ?_
          exact aw_iret F T (Nat.le_of_ble_eq_true rfl) (Nat.le_of_ble_eq_true rfl) ⟨_, rfl, h⟩ dX8_pairAt_58
    · replace h := h.2 (bI_1 c_6)
      refine aw_bi F dX8_pairAt_28 bi_9 ?_
      exact aw_iret F T (Nat.le_of_ble_eq_true rfl) (Nat.le_of_ble_eq_true rfl) ⟨_, rfl, h⟩ dX8_pairAt_30
  · replace h := h.2 (bI_1 c_3)
    refine aw_ic F dX8_pairAt_13 ic_1 ?_
    exact aw_iret F T (Nat.le_of_ble_eq_true rfl) (Nat.le_of_ble_eq_true rfl) ⟨_, rfl, h⟩ dX8_pairAt_14
-- X8_singleAt (height 2)
def j_X8_singleAt_146 (post : Int32 → GH → Prop) (G : GH) : Prop :=
  post (8 : Int32) G
def wp_X8_singleAt (post : Int32 → GH → Prop) (x1 x2 : Int32) (G : GH) : Prop :=
  wp_X8_letterAt (fun (r_2 : Int32) (G_1 : GH) => wp_X8_letterAt (fun (r_4 : Int32) (G_3 : GH) => (((r_4.toInt < 98 ∨ 122 < r_4.toInt) → ((x2 = 0 → post (0 : Int32) G_3) ∧ (¬ x2 = 0 → post (-1 : Int32) G_3))) ∧ (r_4 = (98 : Int32) → post (6 : Int32) G_3) ∧ (r_4 = (99 : Int32) → ((r_2 = (101 : Int32) → j_X8_singleAt_146 post G_3) ∧ (¬ r_2 = (101 : Int32) → ((r_2 = (105 : Int32) → j_X8_singleAt_146 post G_3) ∧ (¬ r_2 = (105 : Int32) → ((r_2 = (121 : Int32) → j_X8_singleAt_146 post G_3) ∧ (¬ r_2 = (121 : Int32) → post (2 : Int32) G_3))))))) ∧ (r_4 = (100 : Int32) → post (9 : Int32) G_3) ∧ (r_4 = (101 : Int32) → ((x2 = 0 → post (0 : Int32) G_3) ∧ (¬ x2 = 0 → post (-1 : Int32) G_3))) ∧ (r_4 = (102 : Int32) → post (1 : Int32) G_3) ∧ (r_4 = (103 : Int32) → post (2 : Int32) G_3) ∧ (r_4 = (104 : Int32) → post (-1 : Int32) G_3) ∧ (r_4 = (105 : Int32) → ((x2 = 0 → post (0 : Int32) G_3) ∧ (¬ x2 = 0 → post (-1 : Int32) G_3))) ∧ (r_4 = (106 : Int32) → post (2 : Int32) G_3) ∧ (r_4 = (107 : Int32) → post (2 : Int32) G_3) ∧ (r_4 = (108 : Int32) → post (3 : Int32) G_3) ∧ (r_4 = (109 : Int32) → post (4 : Int32) G_3) ∧ (r_4 = (110 : Int32) → post (5 : Int32) G_3) ∧ (r_4 = (111 : Int32) → ((x2 = 0 → post (0 : Int32) G_3) ∧ (¬ x2 = 0 → post (-1 : Int32) G_3))) ∧ (r_4 = (112 : Int32) → post (6 : Int32) G_3) ∧ (r_4 = (113 : Int32) → post (2 : Int32) G_3) ∧ (r_4 = (114 : Int32) → post (7 : Int32) G_3) ∧ (r_4 = (115 : Int32) → post (8 : Int32) G_3) ∧ (r_4 = (116 : Int32) → post (9 : Int32) G_3) ∧ (r_4 = (117 : Int32) → ((x2 = 0 → post (0 : Int32) G_3) ∧ (¬ x2 = 0 → post (-1 : Int32) G_3))) ∧ (r_4 = (118 : Int32) → post (1 : Int32) G_3) ∧ (r_4 = (119 : Int32) → post (-1 : Int32) G_3) ∧ (r_4 = (120 : Int32) → ((x2 = 0 → post (0 : Int32) G_3) ∧ (¬ x2 = 0 → post (-1 : Int32) G_3))) ∧ (r_4 = (121 : Int32) → ((x2 = 0 → post (0 : Int32) G_3) ∧ (¬ x2 = 0 → post (-1 : Int32) G_3))) ∧ (r_4 = (122 : Int32) → post (8 : Int32) G_3))) x1 x2 G_1) x1 (x2 + (1 : Int32)) G
set_option maxRecDepth 100000 in
set_option maxHeartbeats 4000000 in
theorem kj_X8_singleAt_146 {E : Ev} {X : Cx} {post : Int32 → GH → Prop} {G : GH} (F : Fx E X "MarkFieldModel" cX8_singleAt 4) (T : RT E X 2 0 0 (some .int) (pI post)) (h : j_X8_singleAt_146 post G) : AW E X 4 146 [] [] G 0 0 := by
  have hP := F.P
  refine aw_bi F dX8_singleAt_146 bi_8 ?_
  refine aw_go (tgt := 152) F dX8_singleAt_148 (by decide) ?_
  exact aw_iret F T (Nat.le_of_ble_eq_true rfl) (Nat.le_of_ble_eq_true rfl) ⟨_, rfl, h⟩ dX8_singleAt_152
set_option maxRecDepth 100000 in
set_option maxHeartbeats 4000000 in
theorem k_X8_singleAt {l : Launch} {E : Ev} {P : Nat → Prop} {sd : Nat → Nat → Nat} {G : GH} {post : Int32 → GH → Prop} {x1 x2 : Int32} (hPP : ∀ o, stt o = true → P o) (h : wp_X8_singleAt post x1 x2 G) : Ct l yX8_singleAt cX8_singleAt 4 (some .int) 2 0 0 E P sd G [.ref (sd 24 0), .int x1, .int x2] (pI post) := by
  refine ct_of (own := "MarkFieldModel") (by decide) rfl (Nat.le_of_ble_eq_true rfl) hPP (fun X F T el eP es => ?_)
  subst el; subst eP; subst es
  have hP := F.P
  change AW E X 4 0 [(0, .ref (sdX X 24 0)), (1, .int x1), (2, .int x2)] [] G 0 0
  refine aw_al_n F 0 dX8_singleAt_0 rfl rfl ?_
  refine aw_il_n F 1 dX8_singleAt_1 rfl rfl ?_
  refine aw_il_n F 2 dX8_singleAt_2 rfl rfl ?_
  refine aw_ic F dX8_singleAt_3 ic_1 ?_
  refine aw_iadd F dX8_singleAt_4 ?_
  refine aw_cVi (stk := []) F T.room [.int x1, .int (x2 + (1 : Int32))] (k_X8_letterAt hP h) mv_X8_letterAt w_1325 cf8 (lo_s rfl) (hP _ rfl) rfl (by decide) rfl rfl (Nat.le_of_ble_eq_true rfl) ⟨(Nat.le_of_ble_eq_true rfl), (Nat.le_of_ble_eq_true rfl)⟩ ⟨(Nat.le_of_ble_eq_true rfl), (Nat.le_of_ble_eq_true rfl)⟩ dX8_singleAt_5 (fun r_2 G_1 h => ?_)
  refine aw_is_n (lv1 := [(3, .int r_2), (0, .ref (sdX X 24 0)), (1, .int x1), (2, .int x2)]) F dX8_singleAt_8 rfl (by decide) rfl ?_
  refine aw_al_n F 1 dX8_singleAt_9 rfl rfl ?_
  refine aw_il_n F 2 dX8_singleAt_10 rfl rfl ?_
  refine aw_il_n F 3 dX8_singleAt_11 rfl rfl ?_
  refine aw_cVi (stk := []) F T.room [.int x1, .int x2] (k_X8_letterAt hP h) mv_X8_letterAt w_1325 cf8 (lo_s rfl) (hP _ rfl) rfl (by decide) rfl rfl (Nat.le_of_ble_eq_true rfl) ⟨(Nat.le_of_ble_eq_true rfl), (Nat.le_of_ble_eq_true rfl)⟩ ⟨(Nat.le_of_ble_eq_true rfl), (Nat.le_of_ble_eq_true rfl)⟩ dX8_singleAt_12 (fun r_4 G_3 h => ?_)
  by_cases c_5 : r_4.toInt < 98 ∨ 122 < r_4.toInt
  · replace h := h.1 c_5
    refine aw_tabO (tgt := 177) F dX8_singleAt_15 c_5 (by decide) ?_
    refine aw_il_n F 3 dX8_singleAt_177 rfl rfl ?_
    refine aw_if_ne (tgt := 185) F dX8_singleAt_178 (by decide) (fun c_6 => ?_) (fun c_6 => ?_)
    · replace h := h.2 c_6
      refine aw_ic F dX8_singleAt_185 ic_m1 ?_
      exact aw_iret F T (Nat.le_of_ble_eq_true rfl) (Nat.le_of_ble_eq_true rfl) ⟨_, rfl, h⟩ dX8_singleAt_186
    · replace h := h.1 c_6
      refine aw_ic F dX8_singleAt_181 ic_0 ?_
      refine aw_go (tgt := 186) F dX8_singleAt_182 (by decide) ?_
      exact aw_iret F T (Nat.le_of_ble_eq_true rfl) (Nat.le_of_ble_eq_true rfl) ⟨_, rfl, h⟩ dX8_singleAt_186
  · replace h := h.2
    by_cases c_7 : r_4 = (98 : Int32)
    · replace h := h.1 c_7
      refine aw_tabI (tgt := 160) F dX8_singleAt_15 (by rw [c_7]; decide) (by rw [c_7]; decide) (by rw [c_7]; rfl) (by decide) ?_
      refine aw_bi F dX8_singleAt_160 bi_6 ?_
      exact aw_iret F T (Nat.le_of_ble_eq_true rfl) (Nat.le_of_ble_eq_true rfl) ⟨_, rfl, h⟩ dX8_singleAt_162
    replace h := h.2
    by_cases c_8 : r_4 = (99 : Int32)
    · replace h := h.1 c_8
      refine aw_tabI (tgt := 128) F dX8_singleAt_15 (by rw [c_8]; decide) (by rw [c_8]; decide) (by rw [c_8]; rfl) (by decide) ?_
      refine aw_il_n F 0 dX8_singleAt_128 rfl rfl ?_
      refine aw_bi F dX8_singleAt_129 bi_101 ?_
      refine aw_icmp_eq (tgt := 146) F dX8_singleAt_131 (by decide) (fun c_9 => ?_) (fun c_9 => ?_)
      · replace h := h.1 c_9
        refine aw_sub [] rfl ?_
        exact kj_X8_singleAt_146 F T h
      · replace h := h.2 c_9
        refine aw_il_n F 0 dX8_singleAt_134 rfl rfl ?_
        refine aw_bi F dX8_singleAt_135 bi_105 ?_
        refine aw_icmp_eq (tgt := 146) F dX8_singleAt_137 (by decide) (fun c_10 => ?_) (fun c_10 => ?_)
        · replace h := h.1 c_10
          refine aw_sub [] rfl ?_
          exact kj_X8_singleAt_146 F T h
        · replace h := h.2 c_10
          refine aw_il_n F 0 dX8_singleAt_140 rfl rfl ?_
          refine aw_bi F dX8_singleAt_141 bi_121 ?_
          refine aw_icmp_ne (tgt := 151) F dX8_singleAt_143 (by decide) (fun c_11 => ?_) (fun c_11 => ?_)
          · replace h := h.2 c_11
            refine aw_ic F dX8_singleAt_151 ic_2 ?_
            exact aw_iret F T (Nat.le_of_ble_eq_true rfl) (Nat.le_of_ble_eq_true rfl) ⟨_, rfl, h⟩ dX8_singleAt_152
          · replace h := h.1 c_11
            refine aw_sub [] rfl ?_
            exact kj_X8_singleAt_146 F T h
    replace h := h.2
    by_cases c_12 : r_4 = (100 : Int32)
    · replace h := h.1 c_12
      refine aw_tabI (tgt := 163) F dX8_singleAt_15 (by rw [c_12]; decide) (by rw [c_12]; decide) (by rw [c_12]; rfl) (by decide) ?_
      refine aw_bi F dX8_singleAt_163 bi_9 ?_
      exact aw_iret F T (Nat.le_of_ble_eq_true rfl) (Nat.le_of_ble_eq_true rfl) ⟨_, rfl, h⟩ dX8_singleAt_165
    replace h := h.2
    by_cases c_13 : r_4 = (101 : Int32)
    · replace h := h.1 c_13
      refine aw_tabI (tgt := 177) F dX8_singleAt_15 (by rw [c_13]; decide) (by rw [c_13]; decide) (by rw [c_13]; rfl) (by decide) ?_
      refine aw_il_n F 3 dX8_singleAt_177 rfl rfl ?_
      refine aw_if_ne (tgt := 185) F dX8_singleAt_178 (by decide) (fun c_14 => ?_) (fun c_14 => ?_)
      · replace h := h.2 c_14
        refine aw_ic F dX8_singleAt_185 ic_m1 ?_
        exact aw_iret F T (Nat.le_of_ble_eq_true rfl) (Nat.le_of_ble_eq_true rfl) ⟨_, rfl, h⟩ dX8_singleAt_186
      · replace h := h.1 c_14
        refine aw_ic F dX8_singleAt_181 ic_0 ?_
        refine aw_go (tgt := 186) F dX8_singleAt_182 (by decide) ?_
        exact aw_iret F T (Nat.le_of_ble_eq_true rfl) (Nat.le_of_ble_eq_true rfl) ⟨_, rfl, h⟩ dX8_singleAt_186
    replace h := h.2
    by_cases c_15 : r_4 = (102 : Int32)
    · replace h := h.1 c_15
      refine aw_tabI (tgt := 158) F dX8_singleAt_15 (by rw [c_15]; decide) (by rw [c_15]; decide) (by rw [c_15]; rfl) (by decide) ?_
      refine aw_ic F dX8_singleAt_158 ic_1 ?_
      exact aw_iret F T (Nat.le_of_ble_eq_true rfl) (Nat.le_of_ble_eq_true rfl) ⟨_, rfl, h⟩ dX8_singleAt_159
    replace h := h.2
    by_cases c_16 : r_4 = (103 : Int32)
    · replace h := h.1 c_16
      refine aw_tabI (tgt := 153) F dX8_singleAt_15 (by rw [c_16]; decide) (by rw [c_16]; decide) (by rw [c_16]; rfl) (by decide) ?_
      refine aw_ic F dX8_singleAt_153 ic_2 ?_
      exact aw_iret F T (Nat.le_of_ble_eq_true rfl) (Nat.le_of_ble_eq_true rfl) ⟨_, rfl, h⟩ dX8_singleAt_154
    replace h := h.2
    by_cases c_17 : r_4 = (104 : Int32)
    · replace h := h.1 c_17
      refine aw_tabI (tgt := 175) F dX8_singleAt_15 (by rw [c_17]; decide) (by rw [c_17]; decide) (by rw [c_17]; rfl) (by decide) ?_
      refine aw_ic F dX8_singleAt_175 ic_m1 ?_
      exact aw_iret F T (Nat.le_of_ble_eq_true rfl) (Nat.le_of_ble_eq_true rfl) ⟨_, rfl, h⟩ dX8_singleAt_176
    replace h := h.2
    by_cases c_18 : r_4 = (105 : Int32)
    · replace h := h.1 c_18
      refine aw_tabI (tgt := 177) F dX8_singleAt_15 (by rw [c_18]; decide) (by rw [c_18]; decide) (by rw [c_18]; rfl) (by decide) ?_
      refine aw_il_n F 3 dX8_singleAt_177 rfl rfl ?_
      refine aw_if_ne (tgt := 185) F dX8_singleAt_178 (by decide) (fun c_19 => ?_) (fun c_19 => ?_)
      · replace h := h.2 c_19
        refine aw_ic F dX8_singleAt_185 ic_m1 ?_
        exact aw_iret F T (Nat.le_of_ble_eq_true rfl) (Nat.le_of_ble_eq_true rfl) ⟨_, rfl, h⟩ dX8_singleAt_186
      · replace h := h.1 c_19
        refine aw_ic F dX8_singleAt_181 ic_0 ?_
        refine aw_go (tgt := 186) F dX8_singleAt_182 (by decide) ?_
        exact aw_iret F T (Nat.le_of_ble_eq_true rfl) (Nat.le_of_ble_eq_true rfl) ⟨_, rfl, h⟩ dX8_singleAt_186
    replace h := h.2
    by_cases c_20 : r_4 = (106 : Int32)
    · replace h := h.1 c_20
      refine aw_tabI (tgt := 153) F dX8_singleAt_15 (by rw [c_20]; decide) (by rw [c_20]; decide) (by rw [c_20]; rfl) (by decide) ?_
      refine aw_ic F dX8_singleAt_153 ic_2 ?_
      exact aw_iret F T (Nat.le_of_ble_eq_true rfl) (Nat.le_of_ble_eq_true rfl) ⟨_, rfl, h⟩ dX8_singleAt_154
    replace h := h.2
    by_cases c_21 : r_4 = (107 : Int32)
    · replace h := h.1 c_21
      refine aw_tabI (tgt := 153) F dX8_singleAt_15 (by rw [c_21]; decide) (by rw [c_21]; decide) (by rw [c_21]; rfl) (by decide) ?_
      refine aw_ic F dX8_singleAt_153 ic_2 ?_
      exact aw_iret F T (Nat.le_of_ble_eq_true rfl) (Nat.le_of_ble_eq_true rfl) ⟨_, rfl, h⟩ dX8_singleAt_154
    replace h := h.2
    by_cases c_22 : r_4 = (108 : Int32)
    · replace h := h.1 c_22
      refine aw_tabI (tgt := 170) F dX8_singleAt_15 (by rw [c_22]; decide) (by rw [c_22]; decide) (by rw [c_22]; rfl) (by decide) ?_
      refine aw_ic F dX8_singleAt_170 ic_3 ?_
      exact aw_iret F T (Nat.le_of_ble_eq_true rfl) (Nat.le_of_ble_eq_true rfl) ⟨_, rfl, h⟩ dX8_singleAt_171
    replace h := h.2
    by_cases c_23 : r_4 = (109 : Int32)
    · replace h := h.1 c_23
      refine aw_tabI (tgt := 166) F dX8_singleAt_15 (by rw [c_23]; decide) (by rw [c_23]; decide) (by rw [c_23]; rfl) (by decide) ?_
      refine aw_ic F dX8_singleAt_166 ic_4 ?_
      exact aw_iret F T (Nat.le_of_ble_eq_true rfl) (Nat.le_of_ble_eq_true rfl) ⟨_, rfl, h⟩ dX8_singleAt_167
    replace h := h.2
    by_cases c_24 : r_4 = (110 : Int32)
    · replace h := h.1 c_24
      refine aw_tabI (tgt := 168) F dX8_singleAt_15 (by rw [c_24]; decide) (by rw [c_24]; decide) (by rw [c_24]; rfl) (by decide) ?_
      refine aw_ic F dX8_singleAt_168 ic_5 ?_
      exact aw_iret F T (Nat.le_of_ble_eq_true rfl) (Nat.le_of_ble_eq_true rfl) ⟨_, rfl, h⟩ dX8_singleAt_169
    replace h := h.2
    by_cases c_25 : r_4 = (111 : Int32)
    · replace h := h.1 c_25
      refine aw_tabI (tgt := 177) F dX8_singleAt_15 (by rw [c_25]; decide) (by rw [c_25]; decide) (by rw [c_25]; rfl) (by decide) ?_
      refine aw_il_n F 3 dX8_singleAt_177 rfl rfl ?_
      refine aw_if_ne (tgt := 185) F dX8_singleAt_178 (by decide) (fun c_26 => ?_) (fun c_26 => ?_)
      · replace h := h.2 c_26
        refine aw_ic F dX8_singleAt_185 ic_m1 ?_
        exact aw_iret F T (Nat.le_of_ble_eq_true rfl) (Nat.le_of_ble_eq_true rfl) ⟨_, rfl, h⟩ dX8_singleAt_186
      · replace h := h.1 c_26
        refine aw_ic F dX8_singleAt_181 ic_0 ?_
        refine aw_go (tgt := 186) F dX8_singleAt_182 (by decide) ?_
        exact aw_iret F T (Nat.le_of_ble_eq_true rfl) (Nat.le_of_ble_eq_true rfl) ⟨_, rfl, h⟩ dX8_singleAt_186
    replace h := h.2
    by_cases c_27 : r_4 = (112 : Int32)
    · replace h := h.1 c_27
      refine aw_tabI (tgt := 160) F dX8_singleAt_15 (by rw [c_27]; decide) (by rw [c_27]; decide) (by rw [c_27]; rfl) (by decide) ?_
      refine aw_bi F dX8_singleAt_160 bi_6 ?_
      exact aw_iret F T (Nat.le_of_ble_eq_true rfl) (Nat.le_of_ble_eq_true rfl) ⟨_, rfl, h⟩ dX8_singleAt_162
    replace h := h.2
    by_cases c_28 : r_4 = (113 : Int32)
    · replace h := h.1 c_28
      refine aw_tabI (tgt := 153) F dX8_singleAt_15 (by rw [c_28]; decide) (by rw [c_28]; decide) (by rw [c_28]; rfl) (by decide) ?_
      refine aw_ic F dX8_singleAt_153 ic_2 ?_
      exact aw_iret F T (Nat.le_of_ble_eq_true rfl) (Nat.le_of_ble_eq_true rfl) ⟨_, rfl, h⟩ dX8_singleAt_154
    replace h := h.2
    by_cases c_29 : r_4 = (114 : Int32)
    · replace h := h.1 c_29
      refine aw_tabI (tgt := 172) F dX8_singleAt_15 (by rw [c_29]; decide) (by rw [c_29]; decide) (by rw [c_29]; rfl) (by decide) ?_
      refine aw_bi F dX8_singleAt_172 bi_7 ?_
      exact aw_iret F T (Nat.le_of_ble_eq_true rfl) (Nat.le_of_ble_eq_true rfl) ⟨_, rfl, h⟩ dX8_singleAt_174
    replace h := h.2
    by_cases c_30 : r_4 = (115 : Int32)
    · replace h := h.1 c_30
      refine aw_tabI (tgt := 155) F dX8_singleAt_15 (by rw [c_30]; decide) (by rw [c_30]; decide) (by rw [c_30]; rfl) (by decide) ?_
      refine aw_bi F dX8_singleAt_155 bi_8 ?_
      exact aw_iret F T (Nat.le_of_ble_eq_true rfl) (Nat.le_of_ble_eq_true rfl) ⟨_, rfl, h⟩ dX8_singleAt_157
    replace h := h.2
    by_cases c_31 : r_4 = (116 : Int32)
    · replace h := h.1 c_31
      refine aw_tabI (tgt := 163) F dX8_singleAt_15 (by rw [c_31]; decide) (by rw [c_31]; decide) (by rw [c_31]; rfl) (by decide) ?_
      refine aw_bi F dX8_singleAt_163 bi_9 ?_
      exact aw_iret F T (Nat.le_of_ble_eq_true rfl) (Nat.le_of_ble_eq_true rfl) ⟨_, rfl, h⟩ dX8_singleAt_165
    replace h := h.2
    by_cases c_32 : r_4 = (117 : Int32)
    · replace h := h.1 c_32
      refine aw_tabI (tgt := 177) F dX8_singleAt_15 (by rw [c_32]; decide) (by rw [c_32]; decide) (by rw [c_32]; rfl) (by decide) ?_
      refine aw_il_n F 3 dX8_singleAt_177 rfl rfl ?_
      refine aw_if_ne (tgt := 185) F dX8_singleAt_178 (by decide) (fun c_33 => ?_) (fun c_33 => ?_)
      · replace h := h.2 c_33
        refine aw_ic F dX8_singleAt_185 ic_m1 ?_
        exact aw_iret F T (Nat.le_of_ble_eq_true rfl) (Nat.le_of_ble_eq_true rfl) ⟨_, rfl, h⟩ dX8_singleAt_186
      · replace h := h.1 c_33
        refine aw_ic F dX8_singleAt_181 ic_0 ?_
        refine aw_go (tgt := 186) F dX8_singleAt_182 (by decide) ?_
        exact aw_iret F T (Nat.le_of_ble_eq_true rfl) (Nat.le_of_ble_eq_true rfl) ⟨_, rfl, h⟩ dX8_singleAt_186
    replace h := h.2
    by_cases c_34 : r_4 = (118 : Int32)
    · replace h := h.1 c_34
      refine aw_tabI (tgt := 158) F dX8_singleAt_15 (by rw [c_34]; decide) (by rw [c_34]; decide) (by rw [c_34]; rfl) (by decide) ?_
      refine aw_ic F dX8_singleAt_158 ic_1 ?_
      exact aw_iret F T (Nat.le_of_ble_eq_true rfl) (Nat.le_of_ble_eq_true rfl) ⟨_, rfl, h⟩ dX8_singleAt_159
    replace h := h.2
    by_cases c_35 : r_4 = (119 : Int32)
    · replace h := h.1 c_35
      refine aw_tabI (tgt := 175) F dX8_singleAt_15 (by rw [c_35]; decide) (by rw [c_35]; decide) (by rw [c_35]; rfl) (by decide) ?_
      refine aw_ic F dX8_singleAt_175 ic_m1 ?_
      exact aw_iret F T (Nat.le_of_ble_eq_true rfl) (Nat.le_of_ble_eq_true rfl) ⟨_, rfl, h⟩ dX8_singleAt_176
    replace h := h.2
    by_cases c_36 : r_4 = (120 : Int32)
    · replace h := h.1 c_36
      refine aw_tabI (tgt := 177) F dX8_singleAt_15 (by rw [c_36]; decide) (by rw [c_36]; decide) (by rw [c_36]; rfl) (by decide) ?_
      refine aw_il_n F 3 dX8_singleAt_177 rfl rfl ?_
      refine aw_if_ne (tgt := 185) F dX8_singleAt_178 (by decide) (fun c_37 => ?_) (fun c_37 => ?_)
      · replace h := h.2 c_37
        refine aw_ic F dX8_singleAt_185 ic_m1 ?_
        exact aw_iret F T (Nat.le_of_ble_eq_true rfl) (Nat.le_of_ble_eq_true rfl) ⟨_, rfl, h⟩ dX8_singleAt_186
      · replace h := h.1 c_37
        refine aw_ic F dX8_singleAt_181 ic_0 ?_
        refine aw_go (tgt := 186) F dX8_singleAt_182 (by decide) ?_
        exact aw_iret F T (Nat.le_of_ble_eq_true rfl) (Nat.le_of_ble_eq_true rfl) ⟨_, rfl, h⟩ dX8_singleAt_186
    replace h := h.2
    by_cases c_38 : r_4 = (121 : Int32)
    · replace h := h.1 c_38
      refine aw_tabI (tgt := 177) F dX8_singleAt_15 (by rw [c_38]; decide) (by rw [c_38]; decide) (by rw [c_38]; rfl) (by decide) ?_
      refine aw_il_n F 3 dX8_singleAt_177 rfl rfl ?_
      refine aw_if_ne (tgt := 185) F dX8_singleAt_178 (by decide) (fun c_39 => ?_) (fun c_39 => ?_)
      · replace h := h.2 c_39
        refine aw_ic F dX8_singleAt_185 ic_m1 ?_
        exact aw_iret F T (Nat.le_of_ble_eq_true rfl) (Nat.le_of_ble_eq_true rfl) ⟨_, rfl, h⟩ dX8_singleAt_186
      · replace h := h.1 c_39
        refine aw_ic F dX8_singleAt_181 ic_0 ?_
        refine aw_go (tgt := 186) F dX8_singleAt_182 (by decide) ?_
        exact aw_iret F T (Nat.le_of_ble_eq_true rfl) (Nat.le_of_ble_eq_true rfl) ⟨_, rfl, h⟩ dX8_singleAt_186
    replace h := h.2
    by_cases c_40 : r_4 = (122 : Int32)
    · replace h := h c_40
      refine aw_tabI (tgt := 155) F dX8_singleAt_15 (by rw [c_40]; decide) (by rw [c_40]; decide) (by rw [c_40]; rfl) (by decide) ?_
      refine aw_bi F dX8_singleAt_155 bi_8 ?_
      exact aw_iret F T (Nat.le_of_ble_eq_true rfl) (Nat.le_of_ble_eq_true rfl) ⟨_, rfl, h⟩ dX8_singleAt_157
    exfalso
    have qc_7 := ne_ti c_7 (show (98 : Int32).toInt = 98 by decide)
    have qc_8 := ne_ti c_8 (show (99 : Int32).toInt = 99 by decide)
    have qc_12 := ne_ti c_12 (show (100 : Int32).toInt = 100 by decide)
    have qc_13 := ne_ti c_13 (show (101 : Int32).toInt = 101 by decide)
    have qc_15 := ne_ti c_15 (show (102 : Int32).toInt = 102 by decide)
    have qc_16 := ne_ti c_16 (show (103 : Int32).toInt = 103 by decide)
    have qc_17 := ne_ti c_17 (show (104 : Int32).toInt = 104 by decide)
    have qc_18 := ne_ti c_18 (show (105 : Int32).toInt = 105 by decide)
    have qc_20 := ne_ti c_20 (show (106 : Int32).toInt = 106 by decide)
    have qc_21 := ne_ti c_21 (show (107 : Int32).toInt = 107 by decide)
    have qc_22 := ne_ti c_22 (show (108 : Int32).toInt = 108 by decide)
    have qc_23 := ne_ti c_23 (show (109 : Int32).toInt = 109 by decide)
    have qc_24 := ne_ti c_24 (show (110 : Int32).toInt = 110 by decide)
    have qc_25 := ne_ti c_25 (show (111 : Int32).toInt = 111 by decide)
    have qc_27 := ne_ti c_27 (show (112 : Int32).toInt = 112 by decide)
    have qc_28 := ne_ti c_28 (show (113 : Int32).toInt = 113 by decide)
    have qc_29 := ne_ti c_29 (show (114 : Int32).toInt = 114 by decide)
    have qc_30 := ne_ti c_30 (show (115 : Int32).toInt = 115 by decide)
    have qc_31 := ne_ti c_31 (show (116 : Int32).toInt = 116 by decide)
    have qc_32 := ne_ti c_32 (show (117 : Int32).toInt = 117 by decide)
    have qc_34 := ne_ti c_34 (show (118 : Int32).toInt = 118 by decide)
    have qc_35 := ne_ti c_35 (show (119 : Int32).toInt = 119 by decide)
    have qc_36 := ne_ti c_36 (show (120 : Int32).toInt = 120 by decide)
    have qc_38 := ne_ti c_38 (show (121 : Int32).toInt = 121 by decide)
    have qc_40 := ne_ti c_40 (show (122 : Int32).toInt = 122 by decide)
    omega
-- X8_laySounds (height 4)
def lb_X8_laySounds_9 (post : GH → Prop) (P9 : Int32 → Int32 → GH → Prop) (v1 v2 : Int32) (G : GH) : Prop :=
  wp_X8_of1 (fun (r_3 : Int32) (G_2 : GH) => ((r_3 ≤ v2 → post G_2) ∧ (¬ r_3 ≤ v2 → wp_X8_pairAt (fun (r_6 : Int32) (G_5 : GH) => ((r_6 = (-1 : Int32) → wp_X8_letterAt (fun (r_9 : Int32) (G_8 : GH) => ((r_9 = (120 : Int32) → wp_X8_hears (fun (G_18 : GH) => wp_X8_hears (fun (G_20 : GH) => P9 v1 (v2 + (1 : Int32)) G_20) v1 (8 : Int32) G_18) v1 (2 : Int32) G_8) ∧ (¬ r_9 = (120 : Int32) → wp_X8_singleAt (fun (r_12 : Int32) (G_11 : GH) => ((r_12 = (-1 : Int32) → P9 v1 (v2 + (1 : Int32)) G_11) ∧ (¬ r_12 = (-1 : Int32) → wp_X8_singleAt (fun (r_15 : Int32) (G_14 : GH) => wp_X8_hears (fun (G_16 : GH) => P9 v1 (v2 + (1 : Int32)) G_16) v1 r_15 G_14) v1 v2 G_11))) v1 v2 G_8))) v1 v2 G_5) ∧ (¬ r_6 = (-1 : Int32) → ((r_6 < 0 → P9 v1 (v2 + (2 : Int32)) G_5) ∧ (¬ r_6 < 0 → wp_X8_hears (fun (G_23 : GH) => P9 v1 (v2 + (2 : Int32)) G_23) v1 r_6 G_5))))) v1 v2 G_2))) v1 (0 : Int32) G
def lp_X8_laySounds_9 (post : GH → Prop) (v1 v2 : Int32) (G : GH) : Prop := ∀ P9 : Int32 → Int32 → GH → Prop, (∀ (v1 v2 : Int32) (G : GH), lb_X8_laySounds_9 post P9 v1 v2 G → P9 v1 v2 G) → P9 v1 v2 G
def wp_X8_laySounds (post : GH → Prop) (x1 : Int32) (G : GH) : Prop :=
  (vp_in x1 13 ∧ (∀ G_1 : GH, G_1 = gs G 24 10 (upd (G 24 10) x1.toNatClampNeg (0 : Int32)) → lp_X8_laySounds_9 post x1 (0 : Int32) G_1))
set_option maxRecDepth 100000 in
set_option maxHeartbeats 4000000 in
theorem kl_X8_laySounds_9 {E : Ev} {X : Cx} {post : GH → Prop} {v1 v2 : Int32} {G : GH} (F : Fx E X "MarkFieldModel" cX8_laySounds 4) (T : RT E X 4 0 0 none (pV post)) (h : lp_X8_laySounds_9 post v1 v2 G) : AW E X 4 9 [(0, .ref (sdX X 24 0)), (1, .int v1), (2, .int v2)] [] G 0 0 := by
  have hP := F.P
  have K9 : ∀ (v1 v2 : Int32) (G : GH), AW E X 4 9 [(0, .ref (sdX X 24 0)), (1, .int v1), (2, .int v2)] [] G 0 0 → AW E X 4 9 [(0, .ref (sdX X 24 0)), (1, .int v1), (2, .int v2)] [] G 0 0 := fun _ _ _ q => q
  refine h (fun (v1 v2 : Int32) (G : GH) => AW E X 4 9 [(0, .ref (sdX X 24 0)), (1, .int v1), (2, .int v2)] [] G 0 0) (fun (v1 v2 : Int32) (G : GH) h => ?_)
  refine aw_il_n F 2 dX8_laySounds_9 rfl rfl ?_
  refine aw_al_n F 0 dX8_laySounds_10 rfl rfl ?_
  refine aw_il_n F 1 dX8_laySounds_11 rfl rfl ?_
  refine aw_ic F dX8_laySounds_12 ic_0 ?_
  refine aw_cVi (stk := [.int v2]) F T.room [.int v1, .int (0 : Int32)] (k_X8_of1 hP h) mv_X8_of1 w_1313 cf8 (lo_s rfl) (hP _ rfl) rfl (by decide) rfl rfl (Nat.le_of_ble_eq_true rfl) ⟨(Nat.le_of_ble_eq_true rfl), (Nat.le_of_ble_eq_true rfl)⟩ ⟨(Nat.le_of_ble_eq_true rfl), (Nat.le_of_ble_eq_true rfl)⟩ dX8_laySounds_13 (fun r_3 G_2 h => ?_)
  refine aw_icmp_ge (tgt := 101) F dX8_laySounds_16 (by decide) (fun c_4 => ?_) (fun c_4 => ?_)
  · replace h := h.1 c_4
    exact aw_vret F T (Nat.le_of_ble_eq_true rfl) (Nat.le_of_ble_eq_true rfl) ⟨rfl, h⟩ dX8_laySounds_101
  · replace h := h.2 c_4
    refine aw_al_n F 0 dX8_laySounds_19 rfl rfl ?_
    refine aw_il_n F 1 dX8_laySounds_20 rfl rfl ?_
    refine aw_il_n F 2 dX8_laySounds_21 rfl rfl ?_
    refine aw_cVi (stk := []) F T.room [.int v1, .int v2] (k_X8_pairAt hP h) mv_X8_pairAt w_1317 cf8 (lo_s rfl) (hP _ rfl) rfl (by decide) rfl rfl (Nat.le_of_ble_eq_true rfl) ⟨(Nat.le_of_ble_eq_true rfl), (Nat.le_of_ble_eq_true rfl)⟩ ⟨(Nat.le_of_ble_eq_true rfl), (Nat.le_of_ble_eq_true rfl)⟩ dX8_laySounds_22 (fun r_6 G_5 h => ?_)
    refine aw_is_n (lv1 := [(3, .int r_6), (0, .ref (sdX X 24 0)), (1, .int v1), (2, .int v2)]) F dX8_laySounds_25 rfl (by decide) rfl ?_
    refine aw_il_n F 0 dX8_laySounds_26 rfl rfl ?_
    refine aw_ic F dX8_laySounds_27 ic_m1 ?_
    refine aw_icmp_eq (tgt := 47) F dX8_laySounds_28 (by decide) (fun c_7 => ?_) (fun c_7 => ?_)
    · replace h := h.1 c_7
      refine aw_al_n F 1 dX8_laySounds_47 rfl rfl ?_
      refine aw_il_n F 2 dX8_laySounds_48 rfl rfl ?_
      refine aw_il_n F 3 dX8_laySounds_49 rfl rfl ?_
      refine aw_cVi (stk := []) F T.room [.int v1, .int v2] (k_X8_letterAt hP h) mv_X8_letterAt w_1325 cf8 (lo_s rfl) (hP _ rfl) rfl (by decide) rfl rfl (Nat.le_of_ble_eq_true rfl) ⟨(Nat.le_of_ble_eq_true rfl), (Nat.le_of_ble_eq_true rfl)⟩ ⟨(Nat.le_of_ble_eq_true rfl), (Nat.le_of_ble_eq_true rfl)⟩ dX8_laySounds_50 (fun r_9 G_8 h => ?_)
      refine aw_bi F dX8_laySounds_53 bi_120 ?_
      refine aw_icmp_ne (tgt := 74) F dX8_laySounds_55 (by decide) (fun c_10 => ?_) (fun c_10 => ?_)
      · replace h := h.2 c_10
        refine aw_al_n F 1 dX8_laySounds_74 rfl rfl ?_
        refine aw_il_n F 2 dX8_laySounds_75 rfl rfl ?_
        refine aw_il_n F 3 dX8_laySounds_76 rfl rfl ?_
        refine aw_cVi (stk := []) F T.room [.int v1, .int v2] (k_X8_singleAt hP h) mv_X8_singleAt w_1333 cf8 (lo_s rfl) (hP _ rfl) rfl (by decide) rfl rfl (Nat.le_of_ble_eq_true rfl) ⟨(Nat.le_of_ble_eq_true rfl), (Nat.le_of_ble_eq_true rfl)⟩ ⟨(Nat.le_of_ble_eq_true rfl), (Nat.le_of_ble_eq_true rfl)⟩ dX8_laySounds_77 (fun r_12 G_11 h => ?_)
        refine aw_ic F dX8_laySounds_80 ic_m1 ?_
        refine aw_icmp_eq (tgt := 95) F dX8_laySounds_81 (by decide) (fun c_13 => ?_) (fun c_13 => ?_)
        · replace h := h.1 c_13
          refine aw_inc (lv1 := [(2, .int (v2 + (1 : Int32))), (3, .int r_6), (0, .ref (sdX X 24 0)), (1, .int v1)]) F 3 dX8_laySounds_95 rfl (in_1 _) (by decide) rfl ?_
          refine aw_go (tgt := 9) F dX8_laySounds_98 (by decide) ?_
          refine aw_sub [2, 3, 0] rfl ?_
          exact K9 _ _ _ h
        · replace h := h.2 c_13
          refine aw_al_n F 1 dX8_laySounds_84 rfl rfl ?_
          refine aw_il_n F 2 dX8_laySounds_85 rfl rfl ?_
          refine aw_al_n F 1 dX8_laySounds_86 rfl rfl ?_
          refine aw_il_n F 2 dX8_laySounds_87 rfl rfl ?_
          refine aw_il_n F 3 dX8_laySounds_88 rfl rfl ?_
          refine aw_cVi (stk := [.int v1, .ref (sdX X 24 0)]) F T.room [.int v1, .int v2] (k_X8_singleAt hP h) mv_X8_singleAt w_1333 cf8 (lo_s rfl) (hP _ rfl) rfl (by decide) rfl rfl (Nat.le_of_ble_eq_true rfl) ⟨(Nat.le_of_ble_eq_true rfl), (Nat.le_of_ble_eq_true rfl)⟩ ⟨(Nat.le_of_ble_eq_true rfl), (Nat.le_of_ble_eq_true rfl)⟩ dX8_laySounds_89 (fun r_15 G_14 h => ?_)
          refine aw_cVv (stk := []) F T.room [.int v1, .int r_15] (k_X8_hears hP h) mv_X8_hears w_1329 cf8 (lo_s rfl) (hP _ rfl) rfl (by decide) rfl rfl (Nat.le_of_ble_eq_true rfl) ⟨(Nat.le_of_ble_eq_true rfl), (Nat.le_of_ble_eq_true rfl)⟩ ⟨(Nat.le_of_ble_eq_true rfl), (Nat.le_of_ble_eq_true rfl)⟩ dX8_laySounds_92 (fun G_16 h => ?_)
          refine aw_inc (lv1 := [(2, .int (v2 + (1 : Int32))), (3, .int r_6), (0, .ref (sdX X 24 0)), (1, .int v1)]) F 3 dX8_laySounds_95 rfl (in_1 _) (by decide) rfl ?_
          refine aw_go (tgt := 9) F dX8_laySounds_98 (by decide) ?_
          refine aw_sub [2, 3, 0] rfl ?_
          exact K9 _ _ _ h
      · replace h := h.1 c_10
        refine aw_al_n F 1 dX8_laySounds_58 rfl rfl ?_
        refine aw_il_n F 2 dX8_laySounds_59 rfl rfl ?_
        refine aw_ic F dX8_laySounds_60 ic_2 ?_
        refine aw_cVv (stk := []) F T.room [.int v1, .int (2 : Int32)] (k_X8_hears hP h) mv_X8_hears w_1329 cf8 (lo_s rfl) (hP _ rfl) rfl (by decide) rfl rfl (Nat.le_of_ble_eq_true rfl) ⟨(Nat.le_of_ble_eq_true rfl), (Nat.le_of_ble_eq_true rfl)⟩ ⟨(Nat.le_of_ble_eq_true rfl), (Nat.le_of_ble_eq_true rfl)⟩ dX8_laySounds_61 (fun G_18 h => ?_)
        refine aw_al_n F 1 dX8_laySounds_64 rfl rfl ?_
        refine aw_il_n F 2 dX8_laySounds_65 rfl rfl ?_
        refine aw_bi F dX8_laySounds_66 bi_8 ?_
        refine aw_cVv (stk := []) F T.room [.int v1, .int (8 : Int32)] (k_X8_hears hP h) mv_X8_hears w_1329 cf8 (lo_s rfl) (hP _ rfl) rfl (by decide) rfl rfl (Nat.le_of_ble_eq_true rfl) ⟨(Nat.le_of_ble_eq_true rfl), (Nat.le_of_ble_eq_true rfl)⟩ ⟨(Nat.le_of_ble_eq_true rfl), (Nat.le_of_ble_eq_true rfl)⟩ dX8_laySounds_68 (fun G_20 h => ?_)
        refine aw_go (tgt := 95) F dX8_laySounds_71 (by decide) ?_
        refine aw_inc (lv1 := [(2, .int (v2 + (1 : Int32))), (3, .int r_6), (0, .ref (sdX X 24 0)), (1, .int v1)]) F 3 dX8_laySounds_95 rfl (in_1 _) (by decide) rfl ?_
        refine aw_go (tgt := 9) F dX8_laySounds_98 (by decide) ?_
        refine aw_sub [2, 3, 0] rfl ?_
        exact K9 _ _ _ h
    · replace h := h.2 c_7
      refine aw_il_n F 0 dX8_laySounds_31 rfl rfl ?_
      refine aw_if_lt (tgt := 41) F dX8_laySounds_32 (by decide) (fun c_22 => ?_) (fun c_22 => ?_)
      · replace h := h.1 c_22
        refine aw_inc (lv1 := [(2, .int (v2 + (2 : Int32))), (3, .int r_6), (0, .ref (sdX X 24 0)), (1, .int v1)]) F 3 dX8_laySounds_41 rfl (in_2 _) (by decide) rfl ?_
        refine aw_go (tgt := 9) F dX8_laySounds_44 (by decide) ?_
        refine aw_sub [2, 3, 0] rfl ?_
        exact K9 _ _ _ h
      · replace h := h.2 c_22
        refine aw_al_n F 1 dX8_laySounds_35 rfl rfl ?_
        refine aw_il_n F 2 dX8_laySounds_36 rfl rfl ?_
        refine aw_il_n F 0 dX8_laySounds_37 rfl rfl ?_
        refine aw_cVv (stk := []) F T.room [.int v1, .int r_6] (k_X8_hears hP h) mv_X8_hears w_1329 cf8 (lo_s rfl) (hP _ rfl) rfl (by decide) rfl rfl (Nat.le_of_ble_eq_true rfl) ⟨(Nat.le_of_ble_eq_true rfl), (Nat.le_of_ble_eq_true rfl)⟩ ⟨(Nat.le_of_ble_eq_true rfl), (Nat.le_of_ble_eq_true rfl)⟩ dX8_laySounds_38 (fun G_23 h => ?_)
        refine aw_inc (lv1 := [(2, .int (v2 + (2 : Int32))), (3, .int r_6), (0, .ref (sdX X 24 0)), (1, .int v1)]) F 3 dX8_laySounds_41 rfl (in_2 _) (by decide) rfl ?_
        refine aw_go (tgt := 9) F dX8_laySounds_44 (by decide) ?_
        refine aw_sub [2, 3, 0] rfl ?_
        exact K9 _ _ _ h
set_option maxRecDepth 100000 in
set_option maxHeartbeats 4000000 in
theorem k_X8_laySounds {l : Launch} {E : Ev} {P : Nat → Prop} {sd : Nat → Nat → Nat} {G : GH} {post : GH → Prop} {x1 : Int32} (hPP : ∀ o, stt o = true → P o) (h : wp_X8_laySounds post x1 G) : Ct l yX8_laySounds cX8_laySounds 4 none 4 0 0 E P sd G [.ref (sd 24 0), .int x1] (pV post) := by
  refine ct_of (own := "MarkFieldModel") (by decide) rfl (Nat.le_of_ble_eq_true rfl) hPP (fun X F T el eP es => ?_)
  subst el; subst eP; subst es
  have hP := F.P
  change AW E X 4 0 [(0, .ref (sdX X 24 0)), (1, .int x1)] [] G 0 0
  refine aw_al_n F 0 dX8_laySounds_0 rfl rfl ?_
  refine gr8_9 F (lo_s rfl) (hP _ rfl) rfl w_1169 (hP _ rfl) dX8_laySounds_1 ?_
  refine aw_il_n F 1 dX8_laySounds_4 rfl rfl ?_
  refine aw_ic F dX8_laySounds_5 ic_0 ?_
  refine aw_iast F 24 10 (lo_s rfl) (hP _ rfl) rfl h.1 dX8_laySounds_6 ?_
  refine aw_nG (fun G_1 eG_1 => ?_)
  replace h := h.2 G_1 eG_1
  refine aw_ic F dX8_laySounds_7 ic_0 ?_
  refine aw_is_n (lv1 := [(2, .int (0 : Int32)), (0, .ref (sdX X 24 0)), (1, .int x1)]) F dX8_laySounds_8 rfl (by decide) rfl ?_
  refine aw_sub [1, 2, 0] rfl ?_
  exact kl_X8_laySounds_9 F T h
-- X8_areTwo (height 0)
def j_X8_areTwo_20 (post : Bool → GH → Prop) (G : GH) : Prop :=
  post true G
def j_X8_areTwo_10 (post : Bool → GH → Prop) (v0 v1 v2 v3 : Int32) (G : GH) : Prop :=
  ((v0 = v3 → ((v1 = v2 → j_X8_areTwo_20 post G) ∧ (¬ v1 = v2 → post false G))) ∧ (¬ v0 = v3 → post false G))
def wp_X8_areTwo (post : Bool → GH → Prop) (x0 x1 x2 x3 : Int32) (G : GH) : Prop :=
  ((x0 = x2 → ((x1 = x3 → j_X8_areTwo_20 post G) ∧ (¬ x1 = x3 → j_X8_areTwo_10 post x0 x1 x2 x3 G))) ∧ (¬ x0 = x2 → j_X8_areTwo_10 post x0 x1 x2 x3 G))
set_option maxRecDepth 100000 in
set_option maxHeartbeats 4000000 in
theorem kj_X8_areTwo_20 {E : Ev} {X : Cx} {post : Bool → GH → Prop} {G : GH} (F : Fx E X "MarkFieldModel" cX8_areTwo 4) (T : RT E X 0 0 0 (some .boolean) (pB post)) (h : j_X8_areTwo_20 post G) : AW E X 4 20 [] [] G 0 0 := by
  have hP := F.P
  refine aw_ic F dX8_areTwo_20 ic_1 ?_
  refine aw_go (tgt := 25) F dX8_areTwo_21 (by decide) ?_
  exact aw_zret F T true rfl (Nat.le_of_ble_eq_true rfl) (Nat.le_of_ble_eq_true rfl) ⟨_, rfl, h⟩ dX8_areTwo_25
set_option maxRecDepth 100000 in
set_option maxHeartbeats 4000000 in
theorem kj_X8_areTwo_10 {E : Ev} {X : Cx} {post : Bool → GH → Prop} {v0 v1 v2 v3 : Int32} {G : GH} (F : Fx E X "MarkFieldModel" cX8_areTwo 4) (T : RT E X 0 0 0 (some .boolean) (pB post)) (h : j_X8_areTwo_10 post v0 v1 v2 v3 G) : AW E X 4 10 [(0, .int v0), (1, .int v1), (2, .int v2), (3, .int v3)] [] G 0 0 := by
  have hP := F.P
  refine aw_il_n F 0 dX8_areTwo_10 rfl rfl ?_
  refine aw_il_n F 3 dX8_areTwo_11 rfl rfl ?_
  refine aw_icmp_ne (tgt := 24) F dX8_areTwo_12 (by decide) (fun c_2 => ?_) (fun c_2 => ?_)
  · replace h := h.2 c_2
    refine aw_ic F dX8_areTwo_24 ic_0 ?_
    exact aw_zret F T false rfl (Nat.le_of_ble_eq_true rfl) (Nat.le_of_ble_eq_true rfl) ⟨_, rfl, h⟩ dX8_areTwo_25
  · replace h := h.1 c_2
    refine aw_il_n F 1 dX8_areTwo_15 rfl rfl ?_
    refine aw_il_n F 2 dX8_areTwo_16 rfl rfl ?_
    refine aw_icmp_ne (tgt := 24) F dX8_areTwo_17 (by decide) (fun c_3 => ?_) (fun c_3 => ?_)
    · replace h := h.2 c_3
      refine aw_ic F dX8_areTwo_24 ic_0 ?_
      exact aw_zret F T false rfl (Nat.le_of_ble_eq_true rfl) (Nat.le_of_ble_eq_true rfl) ⟨_, rfl, h⟩ dX8_areTwo_25
    · replace h := h.1 c_3
      refine aw_sub [] rfl ?_
      exact kj_X8_areTwo_20 F T h
set_option maxRecDepth 100000 in
set_option maxHeartbeats 4000000 in
theorem k_X8_areTwo {l : Launch} {E : Ev} {P : Nat → Prop} {sd : Nat → Nat → Nat} {G : GH} {post : Bool → GH → Prop} {x0 x1 x2 x3 : Int32} (hPP : ∀ o, stt o = true → P o) (h : wp_X8_areTwo post x0 x1 x2 x3 G) : Ct l yX8_areTwo cX8_areTwo 4 (some .boolean) 0 0 0 E P sd G [.int x0, .int x1, .int x2, .int x3] (pB post) := by
  refine ct_of (own := "MarkFieldModel") (by decide) rfl (Nat.le_of_ble_eq_true rfl) hPP (fun X F T el eP es => ?_)
  subst el; subst eP; subst es
  have hP := F.P
  change AW E X 4 0 [(0, .int x0), (1, .int x1), (2, .int x2), (3, .int x3)] [] G 0 0
  refine aw_il_n F 0 dX8_areTwo_0 rfl rfl ?_
  refine aw_il_n F 2 dX8_areTwo_1 rfl rfl ?_
  refine aw_icmp_ne (tgt := 10) F dX8_areTwo_2 (by decide) (fun c_1 => ?_) (fun c_1 => ?_)
  · replace h := h.2 c_1
    exact kj_X8_areTwo_10 F T h
  · replace h := h.1 c_1
    refine aw_il_n F 1 dX8_areTwo_5 rfl rfl ?_
    refine aw_il_n F 3 dX8_areTwo_6 rfl rfl ?_
    refine aw_icmp_eq (tgt := 20) F dX8_areTwo_7 (by decide) (fun c_4 => ?_) (fun c_4 => ?_)
    · replace h := h.1 c_4
      refine aw_sub [] rfl ?_
      exact kj_X8_areTwo_20 F T h
    · replace h := h.2 c_4
      exact kj_X8_areTwo_10 F T h
-- X8_areKinLetters (height 1)
def j_X8_areKinLetters_106 (post : Bool → GH → Prop) (G : GH) : Prop :=
  post true G
def j_X8_areKinLetters_53 (post : Bool → GH → Prop) (v0 v1 s0 : Int32) (G : GH) : Prop :=
  ((s0 = 0 → wp_X8_areTwo (fun (b_6 : Bool) (G_5 : GH) => ((b_6 = false → wp_X8_areTwo (fun (b_9 : Bool) (G_8 : GH) => ((b_9 = false → wp_X8_areTwo (fun (b_12 : Bool) (G_11 : GH) => ((b_12 = false → wp_X8_areTwo (fun (b_15 : Bool) (G_14 : GH) => ((b_15 = false → post false G_14) ∧ (b_15 = true → j_X8_areKinLetters_106 post G_14))) v0 v1 (101 : Int32) (99 : Int32) G_11) ∧ (b_12 = true → j_X8_areKinLetters_106 post G_11))) v0 v1 (112 : Int32) (113 : Int32) G_8) ∧ (b_9 = true → j_X8_areKinLetters_106 post G_8))) v0 v1 (98 : Int32) (100 : Int32) G_5) ∧ (b_6 = true → j_X8_areKinLetters_106 post G_5))) v0 v1 (99 : Int32) (111 : Int32) G) ∧ (¬ s0 = 0 → j_X8_areKinLetters_106 post G))
def j_X8_areKinLetters_48 (post : Bool → GH → Prop) (v0 v1 : Int32) (G : GH) : Prop :=
  j_X8_areKinLetters_53 post v0 v1 (1 : Int32) G
def wp_X8_areKinLetters (post : Bool → GH → Prop) (x0 x1 : Int32) (G : GH) : Prop :=
  wp_X8_areTwo (fun (b_2 : Bool) (G_1 : GH) => ((b_2 = false → wp_X8_areTwo (fun (b_18 : Bool) (G_17 : GH) => ((b_18 = false → wp_X8_areTwo (fun (b_21 : Bool) (G_20 : GH) => ((b_21 = false → wp_X8_areTwo (fun (b_24 : Bool) (G_23 : GH) => ((b_24 = false → j_X8_areKinLetters_53 post x0 x1 (0 : Int32) G_23) ∧ (b_24 = true → j_X8_areKinLetters_48 post x0 x1 G_23))) x0 x1 (117 : Int32) (118 : Int32) G_20) ∧ (b_21 = true → j_X8_areKinLetters_48 post x0 x1 G_20))) x0 x1 (109 : Int32) (110 : Int32) G_17) ∧ (b_18 = true → j_X8_areKinLetters_48 post x0 x1 G_17))) x0 x1 (105 : Int32) (106 : Int32) G_1) ∧ (b_2 = true → j_X8_areKinLetters_48 post x0 x1 G_1))) x0 x1 (105 : Int32) (108 : Int32) G
set_option maxRecDepth 100000 in
set_option maxHeartbeats 4000000 in
theorem kj_X8_areKinLetters_106 {E : Ev} {X : Cx} {post : Bool → GH → Prop} {G : GH} (F : Fx E X "MarkFieldModel" cX8_areKinLetters 3) (T : RT E X 1 0 0 (some .boolean) (pB post)) (h : j_X8_areKinLetters_106 post G) : AW E X 3 106 [] [] G 0 0 := by
  have hP := F.P
  refine aw_ic F dX8_areKinLetters_106 ic_1 ?_
  refine aw_go (tgt := 111) F dX8_areKinLetters_107 (by decide) ?_
  exact aw_zret F T true rfl (Nat.le_of_ble_eq_true rfl) (Nat.le_of_ble_eq_true rfl) ⟨_, rfl, h⟩ dX8_areKinLetters_111
set_option maxRecDepth 100000 in
set_option maxHeartbeats 4000000 in
theorem kj_X8_areKinLetters_53 {E : Ev} {X : Cx} {post : Bool → GH → Prop} {v0 v1 s0 : Int32} {G : GH} (F : Fx E X "MarkFieldModel" cX8_areKinLetters 3) (T : RT E X 1 0 0 (some .boolean) (pB post)) (h : j_X8_areKinLetters_53 post v0 v1 s0 G) : AW E X 3 53 [(0, .int v0), (1, .int v1)] [.int s0] G 0 0 := by
  have hP := F.P
  refine aw_is_n (lv1 := [(2, .int s0), (0, .int v0), (1, .int v1)]) F dX8_areKinLetters_53 rfl (by decide) rfl ?_
  refine aw_il_n F 0 dX8_areKinLetters_54 rfl rfl ?_
  refine aw_if_ne (tgt := 106) F dX8_areKinLetters_55 (by decide) (fun c_4 => ?_) (fun c_4 => ?_)
  · replace h := h.2 c_4
    refine aw_sub [] rfl ?_
    exact kj_X8_areKinLetters_106 F T h
  · replace h := h.1 c_4
    refine aw_il_n F 1 dX8_areKinLetters_58 rfl rfl ?_
    refine aw_il_n F 2 dX8_areKinLetters_59 rfl rfl ?_
    refine aw_bi F dX8_areKinLetters_60 bi_99 ?_
    refine aw_bi F dX8_areKinLetters_62 bi_111 ?_
    refine aw_cSb (stk := []) F T.room [.int v0, .int v1, .int (99 : Int32), .int (111 : Int32)] (k_X8_areTwo hP h) ms_X8_areTwo w_1363 rfl rfl (Nat.le_of_ble_eq_true rfl) ⟨(Nat.le_of_ble_eq_true rfl), (Nat.le_of_ble_eq_true rfl)⟩ ⟨(Nat.le_of_ble_eq_true rfl), (Nat.le_of_ble_eq_true rfl)⟩ dX8_areKinLetters_64 (fun b_6 G_5 h => ?_)
    refine aw_if_ne (tgt := 106) F dX8_areKinLetters_67 (by decide) (fun c_7 => ?_) (fun c_7 => ?_)
    · replace h := h.2 (bI_1 c_7)
      refine aw_sub [] rfl ?_
      exact kj_X8_areKinLetters_106 F T h
    · replace h := h.1 (bI_2 c_7)
      refine aw_il_n F 1 dX8_areKinLetters_70 rfl rfl ?_
      refine aw_il_n F 2 dX8_areKinLetters_71 rfl rfl ?_
      refine aw_bi F dX8_areKinLetters_72 bi_98 ?_
      refine aw_bi F dX8_areKinLetters_74 bi_100 ?_
      refine aw_cSb (stk := []) F T.room [.int v0, .int v1, .int (98 : Int32), .int (100 : Int32)] (k_X8_areTwo hP h) ms_X8_areTwo w_1363 rfl rfl (Nat.le_of_ble_eq_true rfl) ⟨(Nat.le_of_ble_eq_true rfl), (Nat.le_of_ble_eq_true rfl)⟩ ⟨(Nat.le_of_ble_eq_true rfl), (Nat.le_of_ble_eq_true rfl)⟩ dX8_areKinLetters_76 (fun b_9 G_8 h => ?_)
      refine aw_if_ne (tgt := 106) F dX8_areKinLetters_79 (by decide) (fun c_10 => ?_) (fun c_10 => ?_)
      · replace h := h.2 (bI_1 c_10)
        refine aw_sub [] rfl ?_
        exact kj_X8_areKinLetters_106 F T h
      · replace h := h.1 (bI_2 c_10)
        refine aw_il_n F 1 dX8_areKinLetters_82 rfl rfl ?_
        refine aw_il_n F 2 dX8_areKinLetters_83 rfl rfl ?_
        refine aw_bi F dX8_areKinLetters_84 bi_112 ?_
        refine aw_bi F dX8_areKinLetters_86 bi_113 ?_
        refine aw_cSb (stk := []) F T.room [.int v0, .int v1, .int (112 : Int32), .int (113 : Int32)] (k_X8_areTwo hP h) ms_X8_areTwo w_1363 rfl rfl (Nat.le_of_ble_eq_true rfl) ⟨(Nat.le_of_ble_eq_true rfl), (Nat.le_of_ble_eq_true rfl)⟩ ⟨(Nat.le_of_ble_eq_true rfl), (Nat.le_of_ble_eq_true rfl)⟩ dX8_areKinLetters_88 (fun b_12 G_11 h => ?_)
        refine aw_if_ne (tgt := 106) F dX8_areKinLetters_91 (by decide) (fun c_13 => ?_) (fun c_13 => ?_)
        · replace h := h.2 (bI_1 c_13)
          refine aw_sub [] rfl ?_
          exact kj_X8_areKinLetters_106 F T h
        · replace h := h.1 (bI_2 c_13)
          refine aw_il_n F 1 dX8_areKinLetters_94 rfl rfl ?_
          refine aw_il_n F 2 dX8_areKinLetters_95 rfl rfl ?_
          refine aw_bi F dX8_areKinLetters_96 bi_101 ?_
          refine aw_bi F dX8_areKinLetters_98 bi_99 ?_
          refine aw_cSb (stk := []) F T.room [.int v0, .int v1, .int (101 : Int32), .int (99 : Int32)] (k_X8_areTwo hP h) ms_X8_areTwo w_1363 rfl rfl (Nat.le_of_ble_eq_true rfl) ⟨(Nat.le_of_ble_eq_true rfl), (Nat.le_of_ble_eq_true rfl)⟩ ⟨(Nat.le_of_ble_eq_true rfl), (Nat.le_of_ble_eq_true rfl)⟩ dX8_areKinLetters_100 (fun b_15 G_14 h => ?_)
          refine aw_if_eq (tgt := 110) F dX8_areKinLetters_103 (by decide) (fun c_16 => ?_) (fun c_16 => ?_)
          · replace h := h.1 (bI_2 c_16)
            refine aw_ic F dX8_areKinLetters_110 ic_0 ?_
            exact aw_zret F T false rfl (Nat.le_of_ble_eq_true rfl) (Nat.le_of_ble_eq_true rfl) ⟨_, rfl, h⟩ dX8_areKinLetters_111
          · replace h := h.2 (bI_1 c_16)
            refine aw_sub [] rfl ?_
            exact kj_X8_areKinLetters_106 F T h
set_option maxRecDepth 100000 in
set_option maxHeartbeats 4000000 in
theorem kj_X8_areKinLetters_48 {E : Ev} {X : Cx} {post : Bool → GH → Prop} {v0 v1 : Int32} {G : GH} (F : Fx E X "MarkFieldModel" cX8_areKinLetters 3) (T : RT E X 1 0 0 (some .boolean) (pB post)) (h : j_X8_areKinLetters_48 post v0 v1 G) : AW E X 3 48 [(0, .int v0), (1, .int v1)] [] G 0 0 := by
  have hP := F.P
  refine aw_ic F dX8_areKinLetters_48 ic_1 ?_
  refine aw_go (tgt := 53) F dX8_areKinLetters_49 (by decide) ?_
  exact kj_X8_areKinLetters_53 F T h
set_option maxRecDepth 100000 in
set_option maxHeartbeats 4000000 in
theorem k_X8_areKinLetters {l : Launch} {E : Ev} {P : Nat → Prop} {sd : Nat → Nat → Nat} {G : GH} {post : Bool → GH → Prop} {x0 x1 : Int32} (hPP : ∀ o, stt o = true → P o) (h : wp_X8_areKinLetters post x0 x1 G) : Ct l yX8_areKinLetters cX8_areKinLetters 3 (some .boolean) 1 0 0 E P sd G [.int x0, .int x1] (pB post) := by
  refine ct_of (own := "MarkFieldModel") (by decide) rfl (Nat.le_of_ble_eq_true rfl) hPP (fun X F T el eP es => ?_)
  subst el; subst eP; subst es
  have hP := F.P
  change AW E X 3 0 [(0, .int x0), (1, .int x1)] [] G 0 0
  refine aw_il_n F 0 dX8_areKinLetters_0 rfl rfl ?_
  refine aw_il_n F 1 dX8_areKinLetters_1 rfl rfl ?_
  refine aw_bi F dX8_areKinLetters_2 bi_105 ?_
  refine aw_bi F dX8_areKinLetters_4 bi_108 ?_
  refine aw_cSb (stk := []) F T.room [.int x0, .int x1, .int (105 : Int32), .int (108 : Int32)] (k_X8_areTwo hP h) ms_X8_areTwo w_1363 rfl rfl (Nat.le_of_ble_eq_true rfl) ⟨(Nat.le_of_ble_eq_true rfl), (Nat.le_of_ble_eq_true rfl)⟩ ⟨(Nat.le_of_ble_eq_true rfl), (Nat.le_of_ble_eq_true rfl)⟩ dX8_areKinLetters_6 (fun b_2 G_1 h => ?_)
  refine aw_if_ne (tgt := 48) F dX8_areKinLetters_9 (by decide) (fun c_3 => ?_) (fun c_3 => ?_)
  · replace h := h.2 (bI_1 c_3)
    exact kj_X8_areKinLetters_48 F T h
  · replace h := h.1 (bI_2 c_3)
    refine aw_il_n F 0 dX8_areKinLetters_12 rfl rfl ?_
    refine aw_il_n F 1 dX8_areKinLetters_13 rfl rfl ?_
    refine aw_bi F dX8_areKinLetters_14 bi_105 ?_
    refine aw_bi F dX8_areKinLetters_16 bi_106 ?_
    refine aw_cSb (stk := []) F T.room [.int x0, .int x1, .int (105 : Int32), .int (106 : Int32)] (k_X8_areTwo hP h) ms_X8_areTwo w_1363 rfl rfl (Nat.le_of_ble_eq_true rfl) ⟨(Nat.le_of_ble_eq_true rfl), (Nat.le_of_ble_eq_true rfl)⟩ ⟨(Nat.le_of_ble_eq_true rfl), (Nat.le_of_ble_eq_true rfl)⟩ dX8_areKinLetters_18 (fun b_18 G_17 h => ?_)
    refine aw_if_ne (tgt := 48) F dX8_areKinLetters_21 (by decide) (fun c_19 => ?_) (fun c_19 => ?_)
    · replace h := h.2 (bI_1 c_19)
      exact kj_X8_areKinLetters_48 F T h
    · replace h := h.1 (bI_2 c_19)
      refine aw_il_n F 0 dX8_areKinLetters_24 rfl rfl ?_
      refine aw_il_n F 1 dX8_areKinLetters_25 rfl rfl ?_
      refine aw_bi F dX8_areKinLetters_26 bi_109 ?_
      refine aw_bi F dX8_areKinLetters_28 bi_110 ?_
      refine aw_cSb (stk := []) F T.room [.int x0, .int x1, .int (109 : Int32), .int (110 : Int32)] (k_X8_areTwo hP h) ms_X8_areTwo w_1363 rfl rfl (Nat.le_of_ble_eq_true rfl) ⟨(Nat.le_of_ble_eq_true rfl), (Nat.le_of_ble_eq_true rfl)⟩ ⟨(Nat.le_of_ble_eq_true rfl), (Nat.le_of_ble_eq_true rfl)⟩ dX8_areKinLetters_30 (fun b_21 G_20 h => ?_)
      refine aw_if_ne (tgt := 48) F dX8_areKinLetters_33 (by decide) (fun c_22 => ?_) (fun c_22 => ?_)
      · replace h := h.2 (bI_1 c_22)
        exact kj_X8_areKinLetters_48 F T h
      · replace h := h.1 (bI_2 c_22)
        refine aw_il_n F 0 dX8_areKinLetters_36 rfl rfl ?_
        refine aw_il_n F 1 dX8_areKinLetters_37 rfl rfl ?_
        refine aw_bi F dX8_areKinLetters_38 bi_117 ?_
        refine aw_bi F dX8_areKinLetters_40 bi_118 ?_
        refine aw_cSb (stk := []) F T.room [.int x0, .int x1, .int (117 : Int32), .int (118 : Int32)] (k_X8_areTwo hP h) ms_X8_areTwo w_1363 rfl rfl (Nat.le_of_ble_eq_true rfl) ⟨(Nat.le_of_ble_eq_true rfl), (Nat.le_of_ble_eq_true rfl)⟩ ⟨(Nat.le_of_ble_eq_true rfl), (Nat.le_of_ble_eq_true rfl)⟩ dX8_areKinLetters_42 (fun b_24 G_23 h => ?_)
        refine aw_if_eq (tgt := 52) F dX8_areKinLetters_45 (by decide) (fun c_25 => ?_) (fun c_25 => ?_)
        · replace h := h.1 (bI_2 c_25)
          refine aw_ic F dX8_areKinLetters_52 ic_0 ?_
          exact kj_X8_areKinLetters_53 F T h
        · replace h := h.2 (bI_1 c_25)
          exact kj_X8_areKinLetters_48 F T h
-- X8_areKinSounds (height 1)
def j_X8_areKinSounds_65 (post : Bool → GH → Prop) (G : GH) : Prop :=
  post true G
def j_X8_areKinSounds_37 (post : Bool → GH → Prop) (v0 v1 s0 : Int32) (G : GH) : Prop :=
  ((s0 = 0 → wp_X8_areTwo (fun (b_6 : Bool) (G_5 : GH) => ((b_6 = false → wp_X8_areTwo (fun (b_9 : Bool) (G_8 : GH) => ((b_9 = false → post false G_8) ∧ (b_9 = true → j_X8_areKinSounds_65 post G_8))) v0 v1 (9 : Int32) (8 : Int32) G_5) ∧ (b_6 = true → j_X8_areKinSounds_65 post G_5))) v0 v1 (3 : Int32) (7 : Int32) G) ∧ (¬ s0 = 0 → j_X8_areKinSounds_65 post G))
def j_X8_areKinSounds_32 (post : Bool → GH → Prop) (v0 v1 : Int32) (G : GH) : Prop :=
  j_X8_areKinSounds_37 post v0 v1 (1 : Int32) G
def wp_X8_areKinSounds (post : Bool → GH → Prop) (x0 x1 : Int32) (G : GH) : Prop :=
  wp_X8_areTwo (fun (b_2 : Bool) (G_1 : GH) => ((b_2 = false → wp_X8_areTwo (fun (b_12 : Bool) (G_11 : GH) => ((b_12 = false → wp_X8_areTwo (fun (b_15 : Bool) (G_14 : GH) => ((b_15 = false → j_X8_areKinSounds_37 post x0 x1 (0 : Int32) G_14) ∧ (b_15 = true → j_X8_areKinSounds_32 post x0 x1 G_14))) x0 x1 (4 : Int32) (5 : Int32) G_11) ∧ (b_12 = true → j_X8_areKinSounds_32 post x0 x1 G_11))) x0 x1 (2 : Int32) (8 : Int32) G_1) ∧ (b_2 = true → j_X8_areKinSounds_32 post x0 x1 G_1))) x0 x1 (6 : Int32) (1 : Int32) G
set_option maxRecDepth 100000 in
set_option maxHeartbeats 4000000 in
theorem kj_X8_areKinSounds_65 {E : Ev} {X : Cx} {post : Bool → GH → Prop} {G : GH} (F : Fx E X "MarkFieldModel" cX8_areKinSounds 3) (T : RT E X 1 0 0 (some .boolean) (pB post)) (h : j_X8_areKinSounds_65 post G) : AW E X 3 65 [] [] G 0 0 := by
  have hP := F.P
  refine aw_ic F dX8_areKinSounds_65 ic_1 ?_
  refine aw_go (tgt := 70) F dX8_areKinSounds_66 (by decide) ?_
  exact aw_zret F T true rfl (Nat.le_of_ble_eq_true rfl) (Nat.le_of_ble_eq_true rfl) ⟨_, rfl, h⟩ dX8_areKinSounds_70
set_option maxRecDepth 100000 in
set_option maxHeartbeats 4000000 in
theorem kj_X8_areKinSounds_37 {E : Ev} {X : Cx} {post : Bool → GH → Prop} {v0 v1 s0 : Int32} {G : GH} (F : Fx E X "MarkFieldModel" cX8_areKinSounds 3) (T : RT E X 1 0 0 (some .boolean) (pB post)) (h : j_X8_areKinSounds_37 post v0 v1 s0 G) : AW E X 3 37 [(0, .int v0), (1, .int v1)] [.int s0] G 0 0 := by
  have hP := F.P
  refine aw_is_n (lv1 := [(2, .int s0), (0, .int v0), (1, .int v1)]) F dX8_areKinSounds_37 rfl (by decide) rfl ?_
  refine aw_il_n F 0 dX8_areKinSounds_38 rfl rfl ?_
  refine aw_if_ne (tgt := 65) F dX8_areKinSounds_39 (by decide) (fun c_4 => ?_) (fun c_4 => ?_)
  · replace h := h.2 c_4
    refine aw_sub [] rfl ?_
    exact kj_X8_areKinSounds_65 F T h
  · replace h := h.1 c_4
    refine aw_il_n F 1 dX8_areKinSounds_42 rfl rfl ?_
    refine aw_il_n F 2 dX8_areKinSounds_43 rfl rfl ?_
    refine aw_ic F dX8_areKinSounds_44 ic_3 ?_
    refine aw_bi F dX8_areKinSounds_45 bi_7 ?_
    refine aw_cSb (stk := []) F T.room [.int v0, .int v1, .int (3 : Int32), .int (7 : Int32)] (k_X8_areTwo hP h) ms_X8_areTwo w_1363 rfl rfl (Nat.le_of_ble_eq_true rfl) ⟨(Nat.le_of_ble_eq_true rfl), (Nat.le_of_ble_eq_true rfl)⟩ ⟨(Nat.le_of_ble_eq_true rfl), (Nat.le_of_ble_eq_true rfl)⟩ dX8_areKinSounds_47 (fun b_6 G_5 h => ?_)
    refine aw_if_ne (tgt := 65) F dX8_areKinSounds_50 (by decide) (fun c_7 => ?_) (fun c_7 => ?_)
    · replace h := h.2 (bI_1 c_7)
      refine aw_sub [] rfl ?_
      exact kj_X8_areKinSounds_65 F T h
    · replace h := h.1 (bI_2 c_7)
      refine aw_il_n F 1 dX8_areKinSounds_53 rfl rfl ?_
      refine aw_il_n F 2 dX8_areKinSounds_54 rfl rfl ?_
      refine aw_bi F dX8_areKinSounds_55 bi_9 ?_
      refine aw_bi F dX8_areKinSounds_57 bi_8 ?_
      refine aw_cSb (stk := []) F T.room [.int v0, .int v1, .int (9 : Int32), .int (8 : Int32)] (k_X8_areTwo hP h) ms_X8_areTwo w_1363 rfl rfl (Nat.le_of_ble_eq_true rfl) ⟨(Nat.le_of_ble_eq_true rfl), (Nat.le_of_ble_eq_true rfl)⟩ ⟨(Nat.le_of_ble_eq_true rfl), (Nat.le_of_ble_eq_true rfl)⟩ dX8_areKinSounds_59 (fun b_9 G_8 h => ?_)
      refine aw_if_eq (tgt := 69) F dX8_areKinSounds_62 (by decide) (fun c_10 => ?_) (fun c_10 => ?_)
      · replace h := h.1 (bI_2 c_10)
        refine aw_ic F dX8_areKinSounds_69 ic_0 ?_
        exact aw_zret F T false rfl (Nat.le_of_ble_eq_true rfl) (Nat.le_of_ble_eq_true rfl) ⟨_, rfl, h⟩ dX8_areKinSounds_70
      · replace h := h.2 (bI_1 c_10)
        refine aw_sub [] rfl ?_
        exact kj_X8_areKinSounds_65 F T h
set_option maxRecDepth 100000 in
set_option maxHeartbeats 4000000 in
theorem kj_X8_areKinSounds_32 {E : Ev} {X : Cx} {post : Bool → GH → Prop} {v0 v1 : Int32} {G : GH} (F : Fx E X "MarkFieldModel" cX8_areKinSounds 3) (T : RT E X 1 0 0 (some .boolean) (pB post)) (h : j_X8_areKinSounds_32 post v0 v1 G) : AW E X 3 32 [(0, .int v0), (1, .int v1)] [] G 0 0 := by
  have hP := F.P
  refine aw_ic F dX8_areKinSounds_32 ic_1 ?_
  refine aw_go (tgt := 37) F dX8_areKinSounds_33 (by decide) ?_
  exact kj_X8_areKinSounds_37 F T h
set_option maxRecDepth 100000 in
set_option maxHeartbeats 4000000 in
theorem k_X8_areKinSounds {l : Launch} {E : Ev} {P : Nat → Prop} {sd : Nat → Nat → Nat} {G : GH} {post : Bool → GH → Prop} {x0 x1 : Int32} (hPP : ∀ o, stt o = true → P o) (h : wp_X8_areKinSounds post x0 x1 G) : Ct l yX8_areKinSounds cX8_areKinSounds 3 (some .boolean) 1 0 0 E P sd G [.int x0, .int x1] (pB post) := by
  refine ct_of (own := "MarkFieldModel") (by decide) rfl (Nat.le_of_ble_eq_true rfl) hPP (fun X F T el eP es => ?_)
  subst el; subst eP; subst es
  have hP := F.P
  change AW E X 3 0 [(0, .int x0), (1, .int x1)] [] G 0 0
  refine aw_il_n F 0 dX8_areKinSounds_0 rfl rfl ?_
  refine aw_il_n F 1 dX8_areKinSounds_1 rfl rfl ?_
  refine aw_bi F dX8_areKinSounds_2 bi_6 ?_
  refine aw_ic F dX8_areKinSounds_4 ic_1 ?_
  refine aw_cSb (stk := []) F T.room [.int x0, .int x1, .int (6 : Int32), .int (1 : Int32)] (k_X8_areTwo hP h) ms_X8_areTwo w_1363 rfl rfl (Nat.le_of_ble_eq_true rfl) ⟨(Nat.le_of_ble_eq_true rfl), (Nat.le_of_ble_eq_true rfl)⟩ ⟨(Nat.le_of_ble_eq_true rfl), (Nat.le_of_ble_eq_true rfl)⟩ dX8_areKinSounds_5 (fun b_2 G_1 h => ?_)
  refine aw_if_ne (tgt := 32) F dX8_areKinSounds_8 (by decide) (fun c_3 => ?_) (fun c_3 => ?_)
  · replace h := h.2 (bI_1 c_3)
    exact kj_X8_areKinSounds_32 F T h
  · replace h := h.1 (bI_2 c_3)
    refine aw_il_n F 0 dX8_areKinSounds_11 rfl rfl ?_
    refine aw_il_n F 1 dX8_areKinSounds_12 rfl rfl ?_
    refine aw_ic F dX8_areKinSounds_13 ic_2 ?_
    refine aw_bi F dX8_areKinSounds_14 bi_8 ?_
    refine aw_cSb (stk := []) F T.room [.int x0, .int x1, .int (2 : Int32), .int (8 : Int32)] (k_X8_areTwo hP h) ms_X8_areTwo w_1363 rfl rfl (Nat.le_of_ble_eq_true rfl) ⟨(Nat.le_of_ble_eq_true rfl), (Nat.le_of_ble_eq_true rfl)⟩ ⟨(Nat.le_of_ble_eq_true rfl), (Nat.le_of_ble_eq_true rfl)⟩ dX8_areKinSounds_16 (fun b_12 G_11 h => ?_)
    refine aw_if_ne (tgt := 32) F dX8_areKinSounds_19 (by decide) (fun c_13 => ?_) (fun c_13 => ?_)
    · replace h := h.2 (bI_1 c_13)
      exact kj_X8_areKinSounds_32 F T h
    · replace h := h.1 (bI_2 c_13)
      refine aw_il_n F 0 dX8_areKinSounds_22 rfl rfl ?_
      refine aw_il_n F 1 dX8_areKinSounds_23 rfl rfl ?_
      refine aw_ic F dX8_areKinSounds_24 ic_4 ?_
      refine aw_ic F dX8_areKinSounds_25 ic_5 ?_
      refine aw_cSb (stk := []) F T.room [.int x0, .int x1, .int (4 : Int32), .int (5 : Int32)] (k_X8_areTwo hP h) ms_X8_areTwo w_1363 rfl rfl (Nat.le_of_ble_eq_true rfl) ⟨(Nat.le_of_ble_eq_true rfl), (Nat.le_of_ble_eq_true rfl)⟩ ⟨(Nat.le_of_ble_eq_true rfl), (Nat.le_of_ble_eq_true rfl)⟩ dX8_areKinSounds_26 (fun b_15 G_14 h => ?_)
      refine aw_if_eq (tgt := 36) F dX8_areKinSounds_29 (by decide) (fun c_16 => ?_) (fun c_16 => ?_)
      · replace h := h.1 (bI_2 c_16)
        refine aw_ic F dX8_areKinSounds_36 ic_0 ?_
        exact kj_X8_areKinSounds_37 F T h
      · replace h := h.2 (bI_1 c_16)
        exact kj_X8_areKinSounds_32 F T h
-- X8_changeOf (height 2)
def j_X8_changeOf_30 (post : Int32 → GH → Prop) (G : GH) : Prop :=
  post (1 : Int32) G
def wp_X8_changeOf (post : Int32 → GH → Prop) (x1 x2 x3 : Int32) (G : GH) : Prop :=
  ((x1 = x2 → post (0 : Int32) G) ∧ (¬ x1 = x2 → ((x3 = 0 → wp_X8_areKinLetters (fun (b_4 : Bool) (G_3 : GH) => ((b_4 = false → post (2 : Int32) G_3) ∧ (b_4 = true → j_X8_changeOf_30 post G_3))) x1 x2 G) ∧ (¬ x3 = 0 → wp_X8_areKinSounds (fun (b_7 : Bool) (G_6 : GH) => ((b_7 = false → post (2 : Int32) G_6) ∧ (b_7 = true → j_X8_changeOf_30 post G_6))) x1 x2 G))))
set_option maxRecDepth 100000 in
set_option maxHeartbeats 4000000 in
theorem kj_X8_changeOf_30 {E : Ev} {X : Cx} {post : Int32 → GH → Prop} {G : GH} (F : Fx E X "MarkFieldModel" cX8_changeOf 4) (T : RT E X 2 0 0 (some .int) (pI post)) (h : j_X8_changeOf_30 post G) : AW E X 4 30 [] [] G 0 0 := by
  have hP := F.P
  refine aw_ic F dX8_changeOf_30 ic_1 ?_
  refine aw_go (tgt := 35) F dX8_changeOf_31 (by decide) ?_
  exact aw_iret F T (Nat.le_of_ble_eq_true rfl) (Nat.le_of_ble_eq_true rfl) ⟨_, rfl, h⟩ dX8_changeOf_35
set_option maxRecDepth 100000 in
set_option maxHeartbeats 4000000 in
theorem k_X8_changeOf {l : Launch} {E : Ev} {P : Nat → Prop} {sd : Nat → Nat → Nat} {G : GH} {post : Int32 → GH → Prop} {x1 x2 x3 : Int32} (hPP : ∀ o, stt o = true → P o) (h : wp_X8_changeOf post x1 x2 x3 G) : Ct l yX8_changeOf cX8_changeOf 4 (some .int) 2 0 0 E P sd G [.ref (sd 24 0), .int x1, .int x2, .int x3] (pI post) := by
  refine ct_of (own := "MarkFieldModel") (by decide) rfl (Nat.le_of_ble_eq_true rfl) hPP (fun X F T el eP es => ?_)
  subst el; subst eP; subst es
  have hP := F.P
  change AW E X 4 0 [(0, .ref (sdX X 24 0)), (1, .int x1), (2, .int x2), (3, .int x3)] [] G 0 0
  refine aw_il_n F 1 dX8_changeOf_0 rfl rfl ?_
  refine aw_il_n F 2 dX8_changeOf_1 rfl rfl ?_
  refine aw_icmp_ne (tgt := 7) F dX8_changeOf_2 (by decide) (fun c_1 => ?_) (fun c_1 => ?_)
  · replace h := h.2 c_1
    refine aw_il_n F 3 dX8_changeOf_7 rfl rfl ?_
    refine aw_if_eq (tgt := 22) F dX8_changeOf_8 (by decide) (fun c_2 => ?_) (fun c_2 => ?_)
    · replace h := h.1 c_2
      refine aw_il_n F 1 dX8_changeOf_22 rfl rfl ?_
      refine aw_il_n F 2 dX8_changeOf_23 rfl rfl ?_
      refine aw_cSb (stk := []) F T.room [.int x1, .int x2] (k_X8_areKinLetters hP h) ms_X8_areKinLetters w_1366 rfl rfl (Nat.le_of_ble_eq_true rfl) ⟨(Nat.le_of_ble_eq_true rfl), (Nat.le_of_ble_eq_true rfl)⟩ ⟨(Nat.le_of_ble_eq_true rfl), (Nat.le_of_ble_eq_true rfl)⟩ dX8_changeOf_24 (fun b_4 G_3 h => ?_)
      refine aw_if_eq (tgt := 34) F dX8_changeOf_27 (by decide) (fun c_5 => ?_) (fun c_5 => ?_)
      · replace h := h.1 (bI_2 c_5)
        refine aw_ic F dX8_changeOf_34 ic_2 ?_
        exact aw_iret F T (Nat.le_of_ble_eq_true rfl) (Nat.le_of_ble_eq_true rfl) ⟨_, rfl, h⟩ dX8_changeOf_35
      · replace h := h.2 (bI_1 c_5)
        refine aw_sub [] rfl ?_
        exact kj_X8_changeOf_30 F T h
    · replace h := h.2 c_2
      refine aw_il_n F 1 dX8_changeOf_11 rfl rfl ?_
      refine aw_il_n F 2 dX8_changeOf_12 rfl rfl ?_
      refine aw_cSb (stk := []) F T.room [.int x1, .int x2] (k_X8_areKinSounds hP h) ms_X8_areKinSounds w_1360 rfl rfl (Nat.le_of_ble_eq_true rfl) ⟨(Nat.le_of_ble_eq_true rfl), (Nat.le_of_ble_eq_true rfl)⟩ ⟨(Nat.le_of_ble_eq_true rfl), (Nat.le_of_ble_eq_true rfl)⟩ dX8_changeOf_13 (fun b_7 G_6 h => ?_)
      refine aw_if_eq (tgt := 34) F dX8_changeOf_16 (by decide) (fun c_8 => ?_) (fun c_8 => ?_)
      · replace h := h.1 (bI_2 c_8)
        refine aw_ic F dX8_changeOf_34 ic_2 ?_
        exact aw_iret F T (Nat.le_of_ble_eq_true rfl) (Nat.le_of_ble_eq_true rfl) ⟨_, rfl, h⟩ dX8_changeOf_35
      · replace h := h.2 (bI_1 c_8)
        refine aw_go (tgt := 30) F dX8_changeOf_19 (by decide) ?_
        refine aw_sub [] rfl ?_
        exact kj_X8_changeOf_30 F T h
  · replace h := h.1 c_1
    refine aw_ic F dX8_changeOf_5 ic_0 ?_
    exact aw_iret F T (Nat.le_of_ble_eq_true rfl) (Nat.le_of_ble_eq_true rfl) ⟨_, rfl, h⟩ dX8_changeOf_6
-- X8_farOf (height 3)
def j_X8_farOf_156 (post : Int32 → GH → Prop) (P7 : Int32 → Int32 → Int32 → Int32 → Int32 → GH → Prop) (P16 : Int32 → Int32 → Int32 → Int32 → Int32 → Int32 → GH → Prop) (v1 v2 v3 v4 v5 v6 v7 : Int32) (G : GH) : Prop :=
  (vp_in ((v4 * v5) + v6) 441 ∧ (∀ G_7 : GH, G_7 = gs G 24 13 (upd (G 24 13) ((v4 * v5) + v6).toNatClampNeg v7) → P16 v1 v2 v3 v4 v5 (v6 + (1 : Int32)) G_7))
def j_X8_farOf_98 (post : Int32 → GH → Prop) (P7 : Int32 → Int32 → Int32 → Int32 → Int32 → GH → Prop) (P16 : Int32 → Int32 → Int32 → Int32 → Int32 → Int32 → GH → Prop) (v1 v2 v3 v4 v5 v6 v7 : Int32) (G : GH) : Prop :=
  ((v5 ≤ 0 → j_X8_farOf_156 post P7 P16 v1 v2 v3 v4 v5 v6 v7 G) ∧ (¬ v5 ≤ 0 → ((v6 ≤ 0 → j_X8_farOf_156 post P7 P16 v1 v2 v3 v4 v5 v6 v7 G) ∧ (¬ v6 ≤ 0 → (vp_in (((v4 * (v5 - (1 : Int32))) + v6) - (1 : Int32)) 441 ∧ (vp_in (v5 - (1 : Int32)) 20 ∧ (vp_in (v6 - (1 : Int32)) 20 ∧ wp_X8_changeOf (fun (r_10 : Int32) (G_9 : GH) => (∀ y_11 : Int32, y_11 = (imin v7 ((G 24 13 (((v4 * (v5 - (1 : Int32))) + v6) - (1 : Int32)).toNatClampNeg) + r_10)) → j_X8_farOf_156 post P7 P16 v1 v2 v3 v4 v5 v6 y_11 G_9)) (G 24 11 (v5 - (1 : Int32)).toNatClampNeg) (G 24 12 (v6 - (1 : Int32)).toNatClampNeg) v3 G)))))))
def j_X8_farOf_69 (post : Int32 → GH → Prop) (P7 : Int32 → Int32 → Int32 → Int32 → Int32 → GH → Prop) (P16 : Int32 → Int32 → Int32 → Int32 → Int32 → Int32 → GH → Prop) (v1 v2 v3 v4 v5 v6 v7 : Int32) (G : GH) : Prop :=
  ((v6 ≤ 0 → j_X8_farOf_98 post P7 P16 v1 v2 v3 v4 v5 v6 v7 G) ∧ (¬ v6 ≤ 0 → (vp_in (((v4 * v5) + v6) - (1 : Int32)) 441 ∧ (∀ y_12 : Int32, y_12 = (imin v7 ((G 24 13 (((v4 * v5) + v6) - (1 : Int32)).toNatClampNeg) + (2 : Int32))) → j_X8_farOf_98 post P7 P16 v1 v2 v3 v4 v5 v6 y_12 G))))
def j_X8_farOf_38 (post : Int32 → GH → Prop) (P7 : Int32 → Int32 → Int32 → Int32 → Int32 → GH → Prop) (P16 : Int32 → Int32 → Int32 → Int32 → Int32 → Int32 → GH → Prop) (v1 v2 v3 v4 v5 v6 s0 : Int32) (G : GH) : Prop :=
  ((v5 ≤ 0 → j_X8_farOf_69 post P7 P16 v1 v2 v3 v4 v5 v6 s0 G) ∧ (¬ v5 ≤ 0 → (vp_in ((v4 * (v5 - (1 : Int32))) + v6) 441 ∧ (∀ y_13 : Int32, y_13 = (imin s0 ((G 24 13 ((v4 * (v5 - (1 : Int32))) + v6).toNatClampNeg) + (2 : Int32))) → j_X8_farOf_69 post P7 P16 v1 v2 v3 v4 v5 v6 y_13 G))))
def j_X8_farOf_36 (post : Int32 → GH → Prop) (P7 : Int32 → Int32 → Int32 → Int32 → Int32 → GH → Prop) (P16 : Int32 → Int32 → Int32 → Int32 → Int32 → Int32 → GH → Prop) (v1 v2 v3 v4 v5 v6 : Int32) (G : GH) : Prop :=
  j_X8_farOf_38 post P7 P16 v1 v2 v3 v4 v5 v6 (1000000 : Int32) G
def lb_X8_farOf_16 (post : Int32 → GH → Prop) (P7 : Int32 → Int32 → Int32 → Int32 → Int32 → GH → Prop) (P16 : Int32 → Int32 → Int32 → Int32 → Int32 → Int32 → GH → Prop) (v1 v2 v3 v4 v5 v6 : Int32) (G : GH) : Prop :=
  ((v2 < v6 → P7 v1 v2 v3 v4 (v5 + (1 : Int32)) G) ∧ (¬ v2 < v6 → ((v5 = 0 → ((v6 = 0 → j_X8_farOf_38 post P7 P16 v1 v2 v3 v4 v5 v6 (0 : Int32) G) ∧ (¬ v6 = 0 → j_X8_farOf_36 post P7 P16 v1 v2 v3 v4 v5 v6 G))) ∧ (¬ v5 = 0 → j_X8_farOf_36 post P7 P16 v1 v2 v3 v4 v5 v6 G))))
def lp_X8_farOf_16 (post : Int32 → GH → Prop) (P7 : Int32 → Int32 → Int32 → Int32 → Int32 → GH → Prop) (v1 v2 v3 v4 v5 v6 : Int32) (G : GH) : Prop := ∀ P16 : Int32 → Int32 → Int32 → Int32 → Int32 → Int32 → GH → Prop, (∀ (v1 v2 v3 v4 v5 v6 : Int32) (G : GH), lb_X8_farOf_16 post P7 P16 v1 v2 v3 v4 v5 v6 G → P16 v1 v2 v3 v4 v5 v6 G) → P16 v1 v2 v3 v4 v5 v6 G
def lb_X8_farOf_7 (post : Int32 → GH → Prop) (P7 : Int32 → Int32 → Int32 → Int32 → Int32 → GH → Prop) (v1 v2 v3 v4 v5 : Int32) (G : GH) : Prop :=
  ((v1 < v5 → (vp_in ((v4 * v1) + v2) 441 ∧ post (G 24 13 ((v4 * v1) + v2).toNatClampNeg) G)) ∧ (¬ v1 < v5 → lp_X8_farOf_16 post P7 v1 v2 v3 v4 v5 (0 : Int32) G))
def lp_X8_farOf_7 (post : Int32 → GH → Prop) (v1 v2 v3 v4 v5 : Int32) (G : GH) : Prop := ∀ P7 : Int32 → Int32 → Int32 → Int32 → Int32 → GH → Prop, (∀ (v1 v2 v3 v4 v5 : Int32) (G : GH), lb_X8_farOf_7 post P7 v1 v2 v3 v4 v5 G → P7 v1 v2 v3 v4 v5 G) → P7 v1 v2 v3 v4 v5 G
def wp_X8_farOf (post : Int32 → GH → Prop) (x1 x2 x3 : Int32) (G : GH) : Prop :=
  lp_X8_farOf_7 post x1 x2 x3 (21 : Int32) (0 : Int32) G
set_option maxRecDepth 100000 in
set_option maxHeartbeats 4000000 in
theorem kj_X8_farOf_156 {E : Ev} {X : Cx} {post : Int32 → GH → Prop} {P7 : Int32 → Int32 → Int32 → Int32 → Int32 → GH → Prop} {P16 : Int32 → Int32 → Int32 → Int32 → Int32 → Int32 → GH → Prop} {v1 v2 v3 v4 v5 v6 v7 : Int32} {G : GH} (F : Fx E X "MarkFieldModel" cX8_farOf 8) (T : RT E X 3 0 0 (some .int) (pI post)) (K7 : ∀ (v1 v2 v3 v4 v5 : Int32) (G : GH), P7 v1 v2 v3 v4 v5 G → AW E X 8 7 [(0, .ref (sdX X 24 0)), (1, .int v1), (2, .int v2), (3, .int v3), (4, .int v4), (5, .int v5)] [] G 0 0) (K16 : ∀ (v1 v2 v3 v4 v5 v6 : Int32) (G : GH), P16 v1 v2 v3 v4 v5 v6 G → AW E X 8 16 [(0, .ref (sdX X 24 0)), (1, .int v1), (2, .int v2), (3, .int v3), (4, .int v4), (5, .int v5), (6, .int v6)] [] G 0 0) (h : j_X8_farOf_156 post P7 P16 v1 v2 v3 v4 v5 v6 v7 G) : AW E X 8 156 [(0, .ref (sdX X 24 0)), (1, .int v1), (2, .int v2), (3, .int v3), (4, .int v4), (5, .int v5), (6, .int v6), (7, .int v7)] [] G 0 0 := by
  have hP := F.P
  refine aw_al_n F 0 dX8_farOf_156 rfl rfl ?_
  refine gr8_12 F (lo_s rfl) (hP _ rfl) rfl w_1172 (hP _ rfl) dX8_farOf_157 ?_
  refine aw_il F 4 dX8_farOf_160 rfl ?_
  refine aw_il F 5 dX8_farOf_162 rfl ?_
  refine aw_imul F dX8_farOf_164 ?_
  refine aw_il F 6 dX8_farOf_165 rfl ?_
  refine aw_iadd F dX8_farOf_167 ?_
  refine aw_il F 7 dX8_farOf_168 rfl ?_
  refine aw_iast F 24 13 (lo_s rfl) (hP _ rfl) rfl h.1 dX8_farOf_170 ?_
  refine aw_nG (fun G_7 eG_7 => ?_)
  replace h := h.2 G_7 eG_7
  refine aw_inc (lv1 := [(6, .int (v6 + (1 : Int32))), (0, .ref (sdX X 24 0)), (1, .int v1), (2, .int v2), (3, .int v3), (4, .int v4), (5, .int v5), (7, .int v7)]) F 6 dX8_farOf_171 rfl (in_1 _) (by decide) rfl ?_
  refine aw_go (tgt := 16) F dX8_farOf_174 (by decide) ?_
  refine aw_sub [1, 2, 3, 4, 5, 6, 0] rfl ?_
  exact K16 _ _ _ _ _ _ _ h
set_option maxRecDepth 100000 in
set_option maxHeartbeats 4000000 in
theorem kj_X8_farOf_98 {E : Ev} {X : Cx} {post : Int32 → GH → Prop} {P7 : Int32 → Int32 → Int32 → Int32 → Int32 → GH → Prop} {P16 : Int32 → Int32 → Int32 → Int32 → Int32 → Int32 → GH → Prop} {v1 v2 v3 v4 v5 v6 v7 : Int32} {G : GH} (F : Fx E X "MarkFieldModel" cX8_farOf 8) (T : RT E X 3 0 0 (some .int) (pI post)) (K7 : ∀ (v1 v2 v3 v4 v5 : Int32) (G : GH), P7 v1 v2 v3 v4 v5 G → AW E X 8 7 [(0, .ref (sdX X 24 0)), (1, .int v1), (2, .int v2), (3, .int v3), (4, .int v4), (5, .int v5)] [] G 0 0) (K16 : ∀ (v1 v2 v3 v4 v5 v6 : Int32) (G : GH), P16 v1 v2 v3 v4 v5 v6 G → AW E X 8 16 [(0, .ref (sdX X 24 0)), (1, .int v1), (2, .int v2), (3, .int v3), (4, .int v4), (5, .int v5), (6, .int v6)] [] G 0 0) (h : j_X8_farOf_98 post P7 P16 v1 v2 v3 v4 v5 v6 v7 G) : AW E X 8 98 [(0, .ref (sdX X 24 0)), (1, .int v1), (2, .int v2), (3, .int v3), (4, .int v4), (5, .int v5), (6, .int v6), (7, .int v7)] [] G 0 0 := by
  have hP := F.P
  refine aw_il F 5 dX8_farOf_98 rfl ?_
  refine aw_if_le (tgt := 156) F dX8_farOf_100 (by decide) (fun c_6 => ?_) (fun c_6 => ?_)
  · replace h := h.1 c_6
    exact kj_X8_farOf_156 F T K7 K16 h
  · replace h := h.2 c_6
    refine aw_il F 6 dX8_farOf_103 rfl ?_
    refine aw_if_le (tgt := 156) F dX8_farOf_105 (by decide) (fun c_8 => ?_) (fun c_8 => ?_)
    · replace h := h.1 c_8
      exact kj_X8_farOf_156 F T K7 K16 h
    · replace h := h.2 c_8
      refine aw_il F 7 dX8_farOf_108 rfl ?_
      refine aw_al_n F 0 dX8_farOf_110 rfl rfl ?_
      refine gr8_12 F (lo_s rfl) (hP _ rfl) rfl w_1172 (hP _ rfl) dX8_farOf_111 ?_
      refine aw_il F 4 dX8_farOf_114 rfl ?_
      refine aw_il F 5 dX8_farOf_116 rfl ?_
      refine aw_ic F dX8_farOf_118 ic_1 ?_
      refine aw_isub F dX8_farOf_119 ?_
      refine aw_imul F dX8_farOf_120 ?_
      refine aw_il F 6 dX8_farOf_121 rfl ?_
      refine aw_iadd F dX8_farOf_123 ?_
      refine aw_ic F dX8_farOf_124 ic_1 ?_
      refine aw_isub F dX8_farOf_125 ?_
      refine aw_iald F 24 13 (lo_s rfl) (hP _ rfl) rfl h.1 dX8_farOf_126 ?_
      replace h := h.2
      refine aw_al_n F 0 dX8_farOf_127 rfl rfl ?_
      refine aw_al_n F 0 dX8_farOf_128 rfl rfl ?_
      refine gr8_10 F (lo_s rfl) (hP _ rfl) rfl w_1170 (hP _ rfl) dX8_farOf_129 ?_
      refine aw_il F 5 dX8_farOf_132 rfl ?_
      refine aw_ic F dX8_farOf_134 ic_1 ?_
      refine aw_isub F dX8_farOf_135 ?_
      refine aw_iald F 24 11 (lo_s rfl) (hP _ rfl) rfl h.1 dX8_farOf_136 ?_
      replace h := h.2
      refine aw_al_n F 0 dX8_farOf_137 rfl rfl ?_
      refine gr8_11 F (lo_s rfl) (hP _ rfl) rfl w_1171 (hP _ rfl) dX8_farOf_138 ?_
      refine aw_il F 6 dX8_farOf_141 rfl ?_
      refine aw_ic F dX8_farOf_143 ic_1 ?_
      refine aw_isub F dX8_farOf_144 ?_
      refine aw_iald F 24 12 (lo_s rfl) (hP _ rfl) rfl h.1 dX8_farOf_145 ?_
      replace h := h.2
      refine aw_il_n F 3 dX8_farOf_146 rfl rfl ?_
      refine aw_cVi (stk := [.int (G 24 13 (((v4 * (v5 - (1 : Int32))) + v6) - (1 : Int32)).toNatClampNeg), .int v7]) F T.room [.int (G 24 11 (v5 - (1 : Int32)).toNatClampNeg), .int (G 24 12 (v6 - (1 : Int32)).toNatClampNeg), .int v3] (k_X8_changeOf hP h) mv_X8_changeOf w_1356 cf8 (lo_s rfl) (hP _ rfl) rfl (by decide) rfl rfl (Nat.le_of_ble_eq_true rfl) ⟨(Nat.le_of_ble_eq_true rfl), (Nat.le_of_ble_eq_true rfl)⟩ ⟨(Nat.le_of_ble_eq_true rfl), (Nat.le_of_ble_eq_true rfl)⟩ dX8_farOf_147 (fun r_10 G_9 h => ?_)
      refine aw_iadd F dX8_farOf_150 ?_
      refine aw_min F T.room w_1355 w_479 w_16 w_480 (Nat.le_of_ble_eq_true rfl) (Nat.le_of_ble_eq_true rfl) ⟨(Nat.le_of_ble_eq_true rfl), (Nat.le_of_ble_eq_true rfl)⟩ dX8_farOf_151 ?_
      refine aw_top (fun y_11 ey_11 => ?_)
      replace h := h y_11 ey_11
      refine aw_is (lv1 := [(7, .int y_11), (0, .ref (sdX X 24 0)), (1, .int v1), (2, .int v2), (3, .int v3), (4, .int v4), (5, .int v5), (6, .int v6)]) F dX8_farOf_154 (by decide) rfl ?_
      refine aw_sub [1, 2, 3, 4, 5, 6, 7, 0] rfl ?_
      exact kj_X8_farOf_156 F T K7 K16 h
set_option maxRecDepth 100000 in
set_option maxHeartbeats 4000000 in
theorem kj_X8_farOf_69 {E : Ev} {X : Cx} {post : Int32 → GH → Prop} {P7 : Int32 → Int32 → Int32 → Int32 → Int32 → GH → Prop} {P16 : Int32 → Int32 → Int32 → Int32 → Int32 → Int32 → GH → Prop} {v1 v2 v3 v4 v5 v6 v7 : Int32} {G : GH} (F : Fx E X "MarkFieldModel" cX8_farOf 8) (T : RT E X 3 0 0 (some .int) (pI post)) (K7 : ∀ (v1 v2 v3 v4 v5 : Int32) (G : GH), P7 v1 v2 v3 v4 v5 G → AW E X 8 7 [(0, .ref (sdX X 24 0)), (1, .int v1), (2, .int v2), (3, .int v3), (4, .int v4), (5, .int v5)] [] G 0 0) (K16 : ∀ (v1 v2 v3 v4 v5 v6 : Int32) (G : GH), P16 v1 v2 v3 v4 v5 v6 G → AW E X 8 16 [(0, .ref (sdX X 24 0)), (1, .int v1), (2, .int v2), (3, .int v3), (4, .int v4), (5, .int v5), (6, .int v6)] [] G 0 0) (h : j_X8_farOf_69 post P7 P16 v1 v2 v3 v4 v5 v6 v7 G) : AW E X 8 69 [(0, .ref (sdX X 24 0)), (1, .int v1), (2, .int v2), (3, .int v3), (4, .int v4), (5, .int v5), (6, .int v6), (7, .int v7)] [] G 0 0 := by
  have hP := F.P
  refine aw_il F 6 dX8_farOf_69 rfl ?_
  refine aw_if_le (tgt := 98) F dX8_farOf_71 (by decide) (fun c_5 => ?_) (fun c_5 => ?_)
  · replace h := h.1 c_5
    exact kj_X8_farOf_98 F T K7 K16 h
  · replace h := h.2 c_5
    refine aw_il F 7 dX8_farOf_74 rfl ?_
    refine aw_al_n F 0 dX8_farOf_76 rfl rfl ?_
    refine gr8_12 F (lo_s rfl) (hP _ rfl) rfl w_1172 (hP _ rfl) dX8_farOf_77 ?_
    refine aw_il F 4 dX8_farOf_80 rfl ?_
    refine aw_il F 5 dX8_farOf_82 rfl ?_
    refine aw_imul F dX8_farOf_84 ?_
    refine aw_il F 6 dX8_farOf_85 rfl ?_
    refine aw_iadd F dX8_farOf_87 ?_
    refine aw_ic F dX8_farOf_88 ic_1 ?_
    refine aw_isub F dX8_farOf_89 ?_
    refine aw_iald F 24 13 (lo_s rfl) (hP _ rfl) rfl h.1 dX8_farOf_90 ?_
    replace h := h.2
    refine aw_ic F dX8_farOf_91 ic_2 ?_
    refine aw_iadd F dX8_farOf_92 ?_
    refine aw_min F T.room w_1355 w_479 w_16 w_480 (Nat.le_of_ble_eq_true rfl) (Nat.le_of_ble_eq_true rfl) ⟨(Nat.le_of_ble_eq_true rfl), (Nat.le_of_ble_eq_true rfl)⟩ dX8_farOf_93 ?_
    refine aw_top (fun y_12 ey_12 => ?_)
    replace h := h y_12 ey_12
    refine aw_is (lv1 := [(7, .int y_12), (0, .ref (sdX X 24 0)), (1, .int v1), (2, .int v2), (3, .int v3), (4, .int v4), (5, .int v5), (6, .int v6)]) F dX8_farOf_96 (by decide) rfl ?_
    refine aw_sub [1, 2, 3, 4, 5, 6, 7, 0] rfl ?_
    exact kj_X8_farOf_98 F T K7 K16 h
set_option maxRecDepth 100000 in
set_option maxHeartbeats 4000000 in
theorem kj_X8_farOf_38 {E : Ev} {X : Cx} {post : Int32 → GH → Prop} {P7 : Int32 → Int32 → Int32 → Int32 → Int32 → GH → Prop} {P16 : Int32 → Int32 → Int32 → Int32 → Int32 → Int32 → GH → Prop} {v1 v2 v3 v4 v5 v6 s0 : Int32} {G : GH} (F : Fx E X "MarkFieldModel" cX8_farOf 8) (T : RT E X 3 0 0 (some .int) (pI post)) (K7 : ∀ (v1 v2 v3 v4 v5 : Int32) (G : GH), P7 v1 v2 v3 v4 v5 G → AW E X 8 7 [(0, .ref (sdX X 24 0)), (1, .int v1), (2, .int v2), (3, .int v3), (4, .int v4), (5, .int v5)] [] G 0 0) (K16 : ∀ (v1 v2 v3 v4 v5 v6 : Int32) (G : GH), P16 v1 v2 v3 v4 v5 v6 G → AW E X 8 16 [(0, .ref (sdX X 24 0)), (1, .int v1), (2, .int v2), (3, .int v3), (4, .int v4), (5, .int v5), (6, .int v6)] [] G 0 0) (h : j_X8_farOf_38 post P7 P16 v1 v2 v3 v4 v5 v6 s0 G) : AW E X 8 38 [(0, .ref (sdX X 24 0)), (1, .int v1), (2, .int v2), (3, .int v3), (4, .int v4), (5, .int v5), (6, .int v6)] [.int s0] G 0 0 := by
  have hP := F.P
  refine aw_is (lv1 := [(7, .int s0), (0, .ref (sdX X 24 0)), (1, .int v1), (2, .int v2), (3, .int v3), (4, .int v4), (5, .int v5), (6, .int v6)]) F dX8_farOf_38 (by decide) rfl ?_
  refine aw_il F 6 dX8_farOf_40 rfl ?_
  refine aw_if_le (tgt := 69) F dX8_farOf_42 (by decide) (fun c_4 => ?_) (fun c_4 => ?_)
  · replace h := h.1 c_4
    refine aw_sub [1, 2, 3, 4, 5, 6, 7, 0] rfl ?_
    exact kj_X8_farOf_69 F T K7 K16 h
  · replace h := h.2 c_4
    refine aw_il F 0 dX8_farOf_45 rfl ?_
    refine aw_al_n F 1 dX8_farOf_47 rfl rfl ?_
    refine gr8_12 F (lo_s rfl) (hP _ rfl) rfl w_1172 (hP _ rfl) dX8_farOf_48 ?_
    refine aw_il F 5 dX8_farOf_51 rfl ?_
    refine aw_il F 6 dX8_farOf_53 rfl ?_
    refine aw_ic F dX8_farOf_55 ic_1 ?_
    refine aw_isub F dX8_farOf_56 ?_
    refine aw_imul F dX8_farOf_57 ?_
    refine aw_il F 7 dX8_farOf_58 rfl ?_
    refine aw_iadd F dX8_farOf_60 ?_
    refine aw_iald F 24 13 (lo_s rfl) (hP _ rfl) rfl h.1 dX8_farOf_61 ?_
    replace h := h.2
    refine aw_ic F dX8_farOf_62 ic_2 ?_
    refine aw_iadd F dX8_farOf_63 ?_
    refine aw_min F T.room w_1355 w_479 w_16 w_480 (Nat.le_of_ble_eq_true rfl) (Nat.le_of_ble_eq_true rfl) ⟨(Nat.le_of_ble_eq_true rfl), (Nat.le_of_ble_eq_true rfl)⟩ dX8_farOf_64 ?_
    refine aw_top (fun y_13 ey_13 => ?_)
    replace h := h y_13 ey_13
    refine aw_is (lv1 := [(7, .int y_13), (0, .ref (sdX X 24 0)), (1, .int v1), (2, .int v2), (3, .int v3), (4, .int v4), (5, .int v5), (6, .int v6)]) F dX8_farOf_67 (by decide) rfl ?_
    refine aw_sub [1, 2, 3, 4, 5, 6, 7, 0] rfl ?_
    exact kj_X8_farOf_69 F T K7 K16 h
set_option maxRecDepth 100000 in
set_option maxHeartbeats 4000000 in
theorem kj_X8_farOf_36 {E : Ev} {X : Cx} {post : Int32 → GH → Prop} {P7 : Int32 → Int32 → Int32 → Int32 → Int32 → GH → Prop} {P16 : Int32 → Int32 → Int32 → Int32 → Int32 → Int32 → GH → Prop} {v1 v2 v3 v4 v5 v6 : Int32} {G : GH} (F : Fx E X "MarkFieldModel" cX8_farOf 8) (T : RT E X 3 0 0 (some .int) (pI post)) (K7 : ∀ (v1 v2 v3 v4 v5 : Int32) (G : GH), P7 v1 v2 v3 v4 v5 G → AW E X 8 7 [(0, .ref (sdX X 24 0)), (1, .int v1), (2, .int v2), (3, .int v3), (4, .int v4), (5, .int v5)] [] G 0 0) (K16 : ∀ (v1 v2 v3 v4 v5 v6 : Int32) (G : GH), P16 v1 v2 v3 v4 v5 v6 G → AW E X 8 16 [(0, .ref (sdX X 24 0)), (1, .int v1), (2, .int v2), (3, .int v3), (4, .int v4), (5, .int v5), (6, .int v6)] [] G 0 0) (h : j_X8_farOf_36 post P7 P16 v1 v2 v3 v4 v5 v6 G) : AW E X 8 36 [(0, .ref (sdX X 24 0)), (1, .int v1), (2, .int v2), (3, .int v3), (4, .int v4), (5, .int v5), (6, .int v6)] [] G 0 0 := by
  have hP := F.P
  refine aw_ldc F dX8_farOf_36 w_1354 ?_
  exact kj_X8_farOf_38 F T K7 K16 h
set_option maxRecDepth 100000 in
set_option maxHeartbeats 4000000 in
theorem kl_X8_farOf_16 {E : Ev} {X : Cx} {post : Int32 → GH → Prop} {P7 : Int32 → Int32 → Int32 → Int32 → Int32 → GH → Prop} {v1 v2 v3 v4 v5 v6 : Int32} {G : GH} (F : Fx E X "MarkFieldModel" cX8_farOf 8) (T : RT E X 3 0 0 (some .int) (pI post)) (K7 : ∀ (v1 v2 v3 v4 v5 : Int32) (G : GH), P7 v1 v2 v3 v4 v5 G → AW E X 8 7 [(0, .ref (sdX X 24 0)), (1, .int v1), (2, .int v2), (3, .int v3), (4, .int v4), (5, .int v5)] [] G 0 0) (h : lp_X8_farOf_16 post P7 v1 v2 v3 v4 v5 v6 G) : AW E X 8 16 [(0, .ref (sdX X 24 0)), (1, .int v1), (2, .int v2), (3, .int v3), (4, .int v4), (5, .int v5), (6, .int v6)] [] G 0 0 := by
  have hP := F.P
  have K16 : ∀ (v1 v2 v3 v4 v5 v6 : Int32) (G : GH), AW E X 8 16 [(0, .ref (sdX X 24 0)), (1, .int v1), (2, .int v2), (3, .int v3), (4, .int v4), (5, .int v5), (6, .int v6)] [] G 0 0 → AW E X 8 16 [(0, .ref (sdX X 24 0)), (1, .int v1), (2, .int v2), (3, .int v3), (4, .int v4), (5, .int v5), (6, .int v6)] [] G 0 0 := fun _ _ _ _ _ _ _ q => q
  refine h (fun (v1 v2 v3 v4 v5 v6 : Int32) (G : GH) => AW E X 8 16 [(0, .ref (sdX X 24 0)), (1, .int v1), (2, .int v2), (3, .int v3), (4, .int v4), (5, .int v5), (6, .int v6)] [] G 0 0) (fun (v1 v2 v3 v4 v5 v6 : Int32) (G : GH) h => ?_)
  refine aw_il F 6 dX8_farOf_16 rfl ?_
  refine aw_il_n F 2 dX8_farOf_18 rfl rfl ?_
  refine aw_icmp_gt (tgt := 177) F dX8_farOf_19 (by decide) (fun c_2 => ?_) (fun c_2 => ?_)
  · replace h := h.1 c_2
    refine aw_inc (lv1 := [(5, .int (v5 + (1 : Int32))), (0, .ref (sdX X 24 0)), (1, .int v1), (2, .int v2), (3, .int v3), (4, .int v4), (6, .int v6)]) F 5 dX8_farOf_177 rfl (in_1 _) (by decide) rfl ?_
    refine aw_go (tgt := 7) F dX8_farOf_180 (by decide) ?_
    refine aw_sub [1, 2, 3, 4, 5, 0] rfl ?_
    exact K7 _ _ _ _ _ _ h
  · replace h := h.2 c_2
    refine aw_il F 5 dX8_farOf_22 rfl ?_
    refine aw_if_ne (tgt := 36) F dX8_farOf_24 (by decide) (fun c_3 => ?_) (fun c_3 => ?_)
    · replace h := h.2 c_3
      exact kj_X8_farOf_36 F T K7 K16 h
    · replace h := h.1 c_3
      refine aw_il F 6 dX8_farOf_27 rfl ?_
      refine aw_if_ne (tgt := 36) F dX8_farOf_29 (by decide) (fun c_14 => ?_) (fun c_14 => ?_)
      · replace h := h.2 c_14
        exact kj_X8_farOf_36 F T K7 K16 h
      · replace h := h.1 c_14
        refine aw_ic F dX8_farOf_32 ic_0 ?_
        refine aw_go (tgt := 38) F dX8_farOf_33 (by decide) ?_
        exact kj_X8_farOf_38 F T K7 K16 h
set_option maxRecDepth 100000 in
set_option maxHeartbeats 4000000 in
theorem kl_X8_farOf_7 {E : Ev} {X : Cx} {post : Int32 → GH → Prop} {v1 v2 v3 v4 v5 : Int32} {G : GH} (F : Fx E X "MarkFieldModel" cX8_farOf 8) (T : RT E X 3 0 0 (some .int) (pI post)) (h : lp_X8_farOf_7 post v1 v2 v3 v4 v5 G) : AW E X 8 7 [(0, .ref (sdX X 24 0)), (1, .int v1), (2, .int v2), (3, .int v3), (4, .int v4), (5, .int v5)] [] G 0 0 := by
  have hP := F.P
  have K7 : ∀ (v1 v2 v3 v4 v5 : Int32) (G : GH), AW E X 8 7 [(0, .ref (sdX X 24 0)), (1, .int v1), (2, .int v2), (3, .int v3), (4, .int v4), (5, .int v5)] [] G 0 0 → AW E X 8 7 [(0, .ref (sdX X 24 0)), (1, .int v1), (2, .int v2), (3, .int v3), (4, .int v4), (5, .int v5)] [] G 0 0 := fun _ _ _ _ _ _ q => q
  refine h (fun (v1 v2 v3 v4 v5 : Int32) (G : GH) => AW E X 8 7 [(0, .ref (sdX X 24 0)), (1, .int v1), (2, .int v2), (3, .int v3), (4, .int v4), (5, .int v5)] [] G 0 0) (fun (v1 v2 v3 v4 v5 : Int32) (G : GH) h => ?_)
  refine aw_il F 5 dX8_farOf_7 rfl ?_
  refine aw_il_n F 1 dX8_farOf_9 rfl rfl ?_
  refine aw_icmp_gt (tgt := 183) F dX8_farOf_10 (by decide) (fun c_1 => ?_) (fun c_1 => ?_)
  · replace h := h.1 c_1
    refine aw_al_n F 0 dX8_farOf_183 rfl rfl ?_
    refine gr8_12 F (lo_s rfl) (hP _ rfl) rfl w_1172 (hP _ rfl) dX8_farOf_184 ?_
    refine aw_il F 4 dX8_farOf_187 rfl ?_
    refine aw_il_n F 1 dX8_farOf_189 rfl rfl ?_
    refine aw_imul F dX8_farOf_190 ?_
    refine aw_il_n F 2 dX8_farOf_191 rfl rfl ?_
    refine aw_iadd F dX8_farOf_192 ?_
    refine aw_iald F 24 13 (lo_s rfl) (hP _ rfl) rfl h.1 dX8_farOf_193 ?_
    replace h := h.2
    exact aw_iret F T (Nat.le_of_ble_eq_true rfl) (Nat.le_of_ble_eq_true rfl) ⟨_, rfl, h⟩ dX8_farOf_194
  · replace h := h.2 c_1
    refine aw_ic F dX8_farOf_13 ic_0 ?_
    refine aw_is (lv1 := [(6, .int (0 : Int32)), (0, .ref (sdX X 24 0)), (1, .int v1), (2, .int v2), (3, .int v3), (4, .int v4), (5, .int v5)]) F dX8_farOf_14 (by decide) rfl ?_
    refine aw_sub [1, 2, 3, 4, 5, 6, 0] rfl ?_
    exact kl_X8_farOf_16 F T K7 h
set_option maxRecDepth 100000 in
set_option maxHeartbeats 4000000 in
theorem k_X8_farOf {l : Launch} {E : Ev} {P : Nat → Prop} {sd : Nat → Nat → Nat} {G : GH} {post : Int32 → GH → Prop} {x1 x2 x3 : Int32} (hPP : ∀ o, stt o = true → P o) (h : wp_X8_farOf post x1 x2 x3 G) : Ct l yX8_farOf cX8_farOf 8 (some .int) 3 0 0 E P sd G [.ref (sd 24 0), .int x1, .int x2, .int x3] (pI post) := by
  refine ct_of (own := "MarkFieldModel") (by decide) rfl (Nat.le_of_ble_eq_true rfl) hPP (fun X F T el eP es => ?_)
  subst el; subst eP; subst es
  have hP := F.P
  change AW E X 8 0 [(0, .ref (sdX X 24 0)), (1, .int x1), (2, .int x2), (3, .int x3)] [] G 0 0
  refine aw_bi F dX8_farOf_0 bi_21 ?_
  refine aw_is (lv1 := [(4, .int (21 : Int32)), (0, .ref (sdX X 24 0)), (1, .int x1), (2, .int x2), (3, .int x3)]) F dX8_farOf_2 (by decide) rfl ?_
  refine aw_ic F dX8_farOf_4 ic_0 ?_
  refine aw_is (lv1 := [(5, .int (0 : Int32)), (4, .int (21 : Int32)), (0, .ref (sdX X 24 0)), (1, .int x1), (2, .int x2), (3, .int x3)]) F dX8_farOf_5 (by decide) rfl ?_
  refine aw_sub [2, 3, 4, 5, 1, 0] rfl ?_
  exact kl_X8_farOf_7 F T h
-- X8_likenessOf (height 4)
def wp_X8_likenessOf (post : Int32 → GH → Prop) (x1 x2 x3 : Int32) (G : GH) : Prop :=
  (∀ y_1 : Int32, y_1 = (imax x1 x2) → ((y_1 = 0 → post (100 : Int32) G) ∧ (¬ y_1 = 0 → wp_X8_farOf (fun (r_4 : Int32) (G_3 : GH) => (¬ y_1 = 0 ∧ post ((100 : Int32) - (((((50 : Int32) * r_4) + y_1) - (1 : Int32)) / y_1)) G_3)) x1 x2 x3 G)))
set_option maxRecDepth 100000 in
set_option maxHeartbeats 4000000 in
theorem k_X8_likenessOf {l : Launch} {E : Ev} {P : Nat → Prop} {sd : Nat → Nat → Nat} {G : GH} {post : Int32 → GH → Prop} {x1 x2 x3 : Int32} (hPP : ∀ o, stt o = true → P o) (h : wp_X8_likenessOf post x1 x2 x3 G) : Ct l yX8_likenessOf cX8_likenessOf 5 (some .int) 4 0 0 E P sd G [.ref (sd 24 0), .int x1, .int x2, .int x3] (pI post) := by
  refine ct_of (own := "MarkFieldModel") (by decide) rfl (Nat.le_of_ble_eq_true rfl) hPP (fun X F T el eP es => ?_)
  subst el; subst eP; subst es
  have hP := F.P
  change AW E X 5 0 [(0, .ref (sdX X 24 0)), (1, .int x1), (2, .int x2), (3, .int x3)] [] G 0 0
  refine aw_il_n F 1 dX8_likenessOf_0 rfl rfl ?_
  refine aw_il_n F 2 dX8_likenessOf_1 rfl rfl ?_
  refine aw_max F T.room w_1349 w_670 w_16 w_671 (Nat.le_of_ble_eq_true rfl) (Nat.le_of_ble_eq_true rfl) ⟨(Nat.le_of_ble_eq_true rfl), (Nat.le_of_ble_eq_true rfl)⟩ dX8_likenessOf_2 ?_
  refine aw_top (fun y_1 ey_1 => ?_)
  replace h := h y_1 ey_1
  refine aw_is (lv1 := [(4, .int y_1), (0, .ref (sdX X 24 0)), (1, .int x1), (2, .int x2), (3, .int x3)]) F dX8_likenessOf_5 (by decide) rfl ?_
  refine aw_il F 0 dX8_likenessOf_7 rfl ?_
  refine aw_if_ne (tgt := 17) F dX8_likenessOf_9 (by decide) (fun c_2 => ?_) (fun c_2 => ?_)
  · replace h := h.2 c_2
    refine aw_bi F dX8_likenessOf_17 bi_100 ?_
    refine aw_bi F dX8_likenessOf_19 bi_50 ?_
    refine aw_al_n F 1 dX8_likenessOf_21 rfl rfl ?_
    refine aw_il_n F 2 dX8_likenessOf_22 rfl rfl ?_
    refine aw_il_n F 3 dX8_likenessOf_23 rfl rfl ?_
    refine aw_il_n F 4 dX8_likenessOf_24 rfl rfl ?_
    refine aw_cVi (stk := [.int (50 : Int32), .int (100 : Int32)]) F T.room [.int x1, .int x2, .int x3] (k_X8_farOf hP h) mv_X8_farOf w_1350 cf8 (lo_s rfl) (hP _ rfl) rfl (by decide) rfl rfl (Nat.le_of_ble_eq_true rfl) ⟨(Nat.le_of_ble_eq_true rfl), (Nat.le_of_ble_eq_true rfl)⟩ ⟨(Nat.le_of_ble_eq_true rfl), (Nat.le_of_ble_eq_true rfl)⟩ dX8_likenessOf_25 (fun r_4 G_3 h => ?_)
    refine aw_imul F dX8_likenessOf_28 ?_
    refine aw_il F 0 dX8_likenessOf_29 rfl ?_
    refine aw_iadd F dX8_likenessOf_31 ?_
    refine aw_ic F dX8_likenessOf_32 ic_1 ?_
    refine aw_isub F dX8_likenessOf_33 ?_
    refine aw_il F 0 dX8_likenessOf_34 rfl ?_
    refine aw_idiv F dX8_likenessOf_36 h.1 ?_
    replace h := h.2
    refine aw_isub F dX8_likenessOf_37 ?_
    exact aw_iret F T (Nat.le_of_ble_eq_true rfl) (Nat.le_of_ble_eq_true rfl) ⟨_, rfl, h⟩ dX8_likenessOf_38
  · replace h := h.1 c_2
    refine aw_bi F dX8_likenessOf_12 bi_100 ?_
    refine aw_go (tgt := 38) F dX8_likenessOf_14 (by decide) ?_
    exact aw_iret F T (Nat.le_of_ble_eq_true rfl) (Nat.le_of_ble_eq_true rfl) ⟨_, rfl, h⟩ dX8_likenessOf_38
-- X8_byLetters (height 5)
def lb_X8_byLetters_2 (post : Int32 → GH → Prop) (P2 : Int32 → Int32 → Int32 → GH → Prop) (v1 v2 v3 : Int32) (G : GH) : Prop :=
  (((10 : Int32) ≤ v3 → wp_X8_of1 (fun (r_3 : Int32) (G_2 : GH) => wp_X8_of1 (fun (r_5 : Int32) (G_4 : GH) => wp_X8_likenessOf (fun (r_7 : Int32) (G_6 : GH) => post r_7 G_6) r_3 r_5 (0 : Int32) G_4) v2 (0 : Int32) G_2) v1 (0 : Int32) G) ∧ (¬ (10 : Int32) ≤ v3 → wp_X8_letterAt (fun (r_9 : Int32) (G_8 : GH) => (vp_in v3 20 ∧ (∀ G_10 : GH, G_10 = gs G_8 24 11 (upd (G_8 24 11) v3.toNatClampNeg r_9) → wp_X8_letterAt (fun (r_12 : Int32) (G_11 : GH) => (vp_in v3 20 ∧ (∀ G_13 : GH, G_13 = gs G_11 24 12 (upd (G_11 24 12) v3.toNatClampNeg r_12) → P2 v1 v2 (v3 + (1 : Int32)) G_13))) v2 v3 G_10))) v1 v3 G))
def lp_X8_byLetters_2 (post : Int32 → GH → Prop) (v1 v2 v3 : Int32) (G : GH) : Prop := ∀ P2 : Int32 → Int32 → Int32 → GH → Prop, (∀ (v1 v2 v3 : Int32) (G : GH), lb_X8_byLetters_2 post P2 v1 v2 v3 G → P2 v1 v2 v3 G) → P2 v1 v2 v3 G
def wp_X8_byLetters (post : Int32 → GH → Prop) (x1 x2 : Int32) (G : GH) : Prop :=
  lp_X8_byLetters_2 post x1 x2 (0 : Int32) G
set_option maxRecDepth 100000 in
set_option maxHeartbeats 4000000 in
theorem kl_X8_byLetters_2 {E : Ev} {X : Cx} {post : Int32 → GH → Prop} {v1 v2 v3 : Int32} {G : GH} (F : Fx E X "MarkFieldModel" cX8_byLetters 4) (T : RT E X 5 0 0 (some .int) (pI post)) (h : lp_X8_byLetters_2 post v1 v2 v3 G) : AW E X 4 2 [(0, .ref (sdX X 24 0)), (1, .int v1), (2, .int v2), (3, .int v3)] [] G 0 0 := by
  have hP := F.P
  have K2 : ∀ (v1 v2 v3 : Int32) (G : GH), AW E X 4 2 [(0, .ref (sdX X 24 0)), (1, .int v1), (2, .int v2), (3, .int v3)] [] G 0 0 → AW E X 4 2 [(0, .ref (sdX X 24 0)), (1, .int v1), (2, .int v2), (3, .int v3)] [] G 0 0 := fun _ _ _ _ q => q
  refine h (fun (v1 v2 v3 : Int32) (G : GH) => AW E X 4 2 [(0, .ref (sdX X 24 0)), (1, .int v1), (2, .int v2), (3, .int v3)] [] G 0 0) (fun (v1 v2 v3 : Int32) (G : GH) h => ?_)
  refine aw_il_n F 3 dX8_byLetters_2 rfl rfl ?_
  refine aw_bi F dX8_byLetters_3 bi_10 ?_
  refine aw_icmp_ge (tgt := 38) F dX8_byLetters_5 (by decide) (fun c_1 => ?_) (fun c_1 => ?_)
  · replace h := h.1 c_1
    refine aw_al_n F 0 dX8_byLetters_38 rfl rfl ?_
    refine aw_al_n F 0 dX8_byLetters_39 rfl rfl ?_
    refine aw_il_n F 1 dX8_byLetters_40 rfl rfl ?_
    refine aw_ic F dX8_byLetters_41 ic_0 ?_
    refine aw_cVi (stk := [.ref (sdX X 24 0)]) F T.room [.int v1, .int (0 : Int32)] (k_X8_of1 hP h) mv_X8_of1 w_1313 cf8 (lo_s rfl) (hP _ rfl) rfl (by decide) rfl rfl (Nat.le_of_ble_eq_true rfl) ⟨(Nat.le_of_ble_eq_true rfl), (Nat.le_of_ble_eq_true rfl)⟩ ⟨(Nat.le_of_ble_eq_true rfl), (Nat.le_of_ble_eq_true rfl)⟩ dX8_byLetters_42 (fun r_3 G_2 h => ?_)
    refine aw_al_n F 0 dX8_byLetters_45 rfl rfl ?_
    refine aw_il_n F 2 dX8_byLetters_46 rfl rfl ?_
    refine aw_ic F dX8_byLetters_47 ic_0 ?_
    refine aw_cVi (stk := [.int r_3, .ref (sdX X 24 0)]) F T.room [.int v2, .int (0 : Int32)] (k_X8_of1 hP h) mv_X8_of1 w_1313 cf8 (lo_s rfl) (hP _ rfl) rfl (by decide) rfl rfl (Nat.le_of_ble_eq_true rfl) ⟨(Nat.le_of_ble_eq_true rfl), (Nat.le_of_ble_eq_true rfl)⟩ ⟨(Nat.le_of_ble_eq_true rfl), (Nat.le_of_ble_eq_true rfl)⟩ dX8_byLetters_48 (fun r_5 G_4 h => ?_)
    refine aw_ic F dX8_byLetters_51 ic_0 ?_
    refine aw_cVi (stk := []) F T.room [.int r_3, .int r_5, .int (0 : Int32)] (k_X8_likenessOf hP h) mv_X8_likenessOf w_1345 cf8 (lo_s rfl) (hP _ rfl) rfl (by decide) rfl rfl (Nat.le_of_ble_eq_true rfl) ⟨(Nat.le_of_ble_eq_true rfl), (Nat.le_of_ble_eq_true rfl)⟩ ⟨(Nat.le_of_ble_eq_true rfl), (Nat.le_of_ble_eq_true rfl)⟩ dX8_byLetters_52 (fun r_7 G_6 h => ?_)
    exact aw_iret F T (Nat.le_of_ble_eq_true rfl) (Nat.le_of_ble_eq_true rfl) ⟨_, rfl, h⟩ dX8_byLetters_55
  · replace h := h.2 c_1
    refine aw_al_n F 0 dX8_byLetters_8 rfl rfl ?_
    refine gr8_10 F (lo_s rfl) (hP _ rfl) rfl w_1170 (hP _ rfl) dX8_byLetters_9 ?_
    refine aw_il_n F 3 dX8_byLetters_12 rfl rfl ?_
    refine aw_al_n F 0 dX8_byLetters_13 rfl rfl ?_
    refine aw_il_n F 1 dX8_byLetters_14 rfl rfl ?_
    refine aw_il_n F 3 dX8_byLetters_15 rfl rfl ?_
    refine aw_cVi (stk := [.int v3, .ref (sdX X 24 11)]) F T.room [.int v1, .int v3] (k_X8_letterAt hP h) mv_X8_letterAt w_1325 cf8 (lo_s rfl) (hP _ rfl) rfl (by decide) rfl rfl (Nat.le_of_ble_eq_true rfl) ⟨(Nat.le_of_ble_eq_true rfl), (Nat.le_of_ble_eq_true rfl)⟩ ⟨(Nat.le_of_ble_eq_true rfl), (Nat.le_of_ble_eq_true rfl)⟩ dX8_byLetters_16 (fun r_9 G_8 h => ?_)
    refine aw_iast F 24 11 (lo_s rfl) (hP _ rfl) rfl h.1 dX8_byLetters_19 ?_
    refine aw_nG (fun G_10 eG_10 => ?_)
    replace h := h.2 G_10 eG_10
    refine aw_al_n F 0 dX8_byLetters_20 rfl rfl ?_
    refine gr8_11 F (lo_s rfl) (hP _ rfl) rfl w_1171 (hP _ rfl) dX8_byLetters_21 ?_
    refine aw_il_n F 3 dX8_byLetters_24 rfl rfl ?_
    refine aw_al_n F 0 dX8_byLetters_25 rfl rfl ?_
    refine aw_il_n F 2 dX8_byLetters_26 rfl rfl ?_
    refine aw_il_n F 3 dX8_byLetters_27 rfl rfl ?_
    refine aw_cVi (stk := [.int v3, .ref (sdX X 24 12)]) F T.room [.int v2, .int v3] (k_X8_letterAt hP h) mv_X8_letterAt w_1325 cf8 (lo_s rfl) (hP _ rfl) rfl (by decide) rfl rfl (Nat.le_of_ble_eq_true rfl) ⟨(Nat.le_of_ble_eq_true rfl), (Nat.le_of_ble_eq_true rfl)⟩ ⟨(Nat.le_of_ble_eq_true rfl), (Nat.le_of_ble_eq_true rfl)⟩ dX8_byLetters_28 (fun r_12 G_11 h => ?_)
    refine aw_iast F 24 12 (lo_s rfl) (hP _ rfl) rfl h.1 dX8_byLetters_31 ?_
    refine aw_nG (fun G_13 eG_13 => ?_)
    replace h := h.2 G_13 eG_13
    refine aw_inc (lv1 := [(3, .int (v3 + (1 : Int32))), (0, .ref (sdX X 24 0)), (1, .int v1), (2, .int v2)]) F 3 dX8_byLetters_32 rfl (in_1 _) (by decide) rfl ?_
    refine aw_go (tgt := 2) F dX8_byLetters_35 (by decide) ?_
    refine aw_sub [1, 2, 3, 0] rfl ?_
    exact K2 _ _ _ _ h
set_option maxRecDepth 100000 in
set_option maxHeartbeats 4000000 in
theorem k_X8_byLetters {l : Launch} {E : Ev} {P : Nat → Prop} {sd : Nat → Nat → Nat} {G : GH} {post : Int32 → GH → Prop} {x1 x2 : Int32} (hPP : ∀ o, stt o = true → P o) (h : wp_X8_byLetters post x1 x2 G) : Ct l yX8_byLetters cX8_byLetters 4 (some .int) 5 0 0 E P sd G [.ref (sd 24 0), .int x1, .int x2] (pI post) := by
  refine ct_of (own := "MarkFieldModel") (by decide) rfl (Nat.le_of_ble_eq_true rfl) hPP (fun X F T el eP es => ?_)
  subst el; subst eP; subst es
  have hP := F.P
  change AW E X 4 0 [(0, .ref (sdX X 24 0)), (1, .int x1), (2, .int x2)] [] G 0 0
  refine aw_ic F dX8_byLetters_0 ic_0 ?_
  refine aw_is_n (lv1 := [(3, .int (0 : Int32)), (0, .ref (sdX X 24 0)), (1, .int x1), (2, .int x2)]) F dX8_byLetters_1 rfl (by decide) rfl ?_
  refine aw_sub [1, 2, 3, 0] rfl ?_
  exact kl_X8_byLetters_2 F T h
-- X8_bySounds (height 5)
def lb_X8_bySounds_2 (post : Int32 → GH → Prop) (P2 : Int32 → Int32 → Int32 → GH → Prop) (v1 v2 v3 : Int32) (G : GH) : Prop :=
  (((20 : Int32) ≤ v3 → (vp_in v1 13 ∧ (vp_in v2 13 ∧ wp_X8_likenessOf (fun (r_3 : Int32) (G_2 : GH) => post r_3 G_2) (G 24 10 v1.toNatClampNeg) (G 24 10 v2.toNatClampNeg) (1 : Int32) G))) ∧ (¬ (20 : Int32) ≤ v3 → (vp_in (((20 : Int32) * v1) + v3) 260 ∧ (vp_in v3 20 ∧ (∀ G_4 : GH, G_4 = gs G 24 11 (upd (G 24 11) v3.toNatClampNeg (G 24 9 (((20 : Int32) * v1) + v3).toNatClampNeg)) → (vp_in (((20 : Int32) * v2) + v3) 260 ∧ (vp_in v3 20 ∧ (∀ G_5 : GH, G_5 = gs G_4 24 12 (upd (G_4 24 12) v3.toNatClampNeg (G_4 24 9 (((20 : Int32) * v2) + v3).toNatClampNeg)) → P2 v1 v2 (v3 + (1 : Int32)) G_5))))))))
def lp_X8_bySounds_2 (post : Int32 → GH → Prop) (v1 v2 v3 : Int32) (G : GH) : Prop := ∀ P2 : Int32 → Int32 → Int32 → GH → Prop, (∀ (v1 v2 v3 : Int32) (G : GH), lb_X8_bySounds_2 post P2 v1 v2 v3 G → P2 v1 v2 v3 G) → P2 v1 v2 v3 G
def wp_X8_bySounds (post : Int32 → GH → Prop) (x1 x2 : Int32) (G : GH) : Prop :=
  lp_X8_bySounds_2 post x1 x2 (0 : Int32) G
set_option maxRecDepth 100000 in
set_option maxHeartbeats 4000000 in
theorem kl_X8_bySounds_2 {E : Ev} {X : Cx} {post : Int32 → GH → Prop} {v1 v2 v3 : Int32} {G : GH} (F : Fx E X "MarkFieldModel" cX8_bySounds 4) (T : RT E X 5 0 0 (some .int) (pI post)) (h : lp_X8_bySounds_2 post v1 v2 v3 G) : AW E X 4 2 [(0, .ref (sdX X 24 0)), (1, .int v1), (2, .int v2), (3, .int v3)] [] G 0 0 := by
  have hP := F.P
  have K2 : ∀ (v1 v2 v3 : Int32) (G : GH), AW E X 4 2 [(0, .ref (sdX X 24 0)), (1, .int v1), (2, .int v2), (3, .int v3)] [] G 0 0 → AW E X 4 2 [(0, .ref (sdX X 24 0)), (1, .int v1), (2, .int v2), (3, .int v3)] [] G 0 0 := fun _ _ _ _ q => q
  refine h (fun (v1 v2 v3 : Int32) (G : GH) => AW E X 4 2 [(0, .ref (sdX X 24 0)), (1, .int v1), (2, .int v2), (3, .int v3)] [] G 0 0) (fun (v1 v2 v3 : Int32) (G : GH) h => ?_)
  refine aw_il_n F 3 dX8_bySounds_2 rfl rfl ?_
  refine aw_bi F dX8_bySounds_3 bi_20 ?_
  refine aw_icmp_ge (tgt := 48) F dX8_bySounds_5 (by decide) (fun c_1 => ?_) (fun c_1 => ?_)
  · replace h := h.1 c_1
    refine aw_al_n F 0 dX8_bySounds_48 rfl rfl ?_
    refine aw_al_n F 0 dX8_bySounds_49 rfl rfl ?_
    refine gr8_9 F (lo_s rfl) (hP _ rfl) rfl w_1169 (hP _ rfl) dX8_bySounds_50 ?_
    refine aw_il_n F 1 dX8_bySounds_53 rfl rfl ?_
    refine aw_iald F 24 10 (lo_s rfl) (hP _ rfl) rfl h.1 dX8_bySounds_54 ?_
    replace h := h.2
    refine aw_al_n F 0 dX8_bySounds_55 rfl rfl ?_
    refine gr8_9 F (lo_s rfl) (hP _ rfl) rfl w_1169 (hP _ rfl) dX8_bySounds_56 ?_
    refine aw_il_n F 2 dX8_bySounds_59 rfl rfl ?_
    refine aw_iald F 24 10 (lo_s rfl) (hP _ rfl) rfl h.1 dX8_bySounds_60 ?_
    replace h := h.2
    refine aw_ic F dX8_bySounds_61 ic_1 ?_
    refine aw_cVi (stk := []) F T.room [.int (G 24 10 v1.toNatClampNeg), .int (G 24 10 v2.toNatClampNeg), .int (1 : Int32)] (k_X8_likenessOf hP h) mv_X8_likenessOf w_1345 cf8 (lo_s rfl) (hP _ rfl) rfl (by decide) rfl rfl (Nat.le_of_ble_eq_true rfl) ⟨(Nat.le_of_ble_eq_true rfl), (Nat.le_of_ble_eq_true rfl)⟩ ⟨(Nat.le_of_ble_eq_true rfl), (Nat.le_of_ble_eq_true rfl)⟩ dX8_bySounds_62 (fun r_3 G_2 h => ?_)
    exact aw_iret F T (Nat.le_of_ble_eq_true rfl) (Nat.le_of_ble_eq_true rfl) ⟨_, rfl, h⟩ dX8_bySounds_65
  · replace h := h.2 c_1
    refine aw_al_n F 0 dX8_bySounds_8 rfl rfl ?_
    refine gr8_10 F (lo_s rfl) (hP _ rfl) rfl w_1170 (hP _ rfl) dX8_bySounds_9 ?_
    refine aw_il_n F 3 dX8_bySounds_12 rfl rfl ?_
    refine aw_al_n F 0 dX8_bySounds_13 rfl rfl ?_
    refine gr8_8 F (lo_s rfl) (hP _ rfl) rfl w_1168 (hP _ rfl) dX8_bySounds_14 ?_
    refine aw_bi F dX8_bySounds_17 bi_20 ?_
    refine aw_il_n F 1 dX8_bySounds_19 rfl rfl ?_
    refine aw_imul F dX8_bySounds_20 ?_
    refine aw_il_n F 3 dX8_bySounds_21 rfl rfl ?_
    refine aw_iadd F dX8_bySounds_22 ?_
    refine aw_iald F 24 9 (lo_s rfl) (hP _ rfl) rfl h.1 dX8_bySounds_23 ?_
    replace h := h.2
    refine aw_iast F 24 11 (lo_s rfl) (hP _ rfl) rfl h.1 dX8_bySounds_24 ?_
    refine aw_nG (fun G_4 eG_4 => ?_)
    replace h := h.2 G_4 eG_4
    refine aw_al_n F 0 dX8_bySounds_25 rfl rfl ?_
    refine gr8_11 F (lo_s rfl) (hP _ rfl) rfl w_1171 (hP _ rfl) dX8_bySounds_26 ?_
    refine aw_il_n F 3 dX8_bySounds_29 rfl rfl ?_
    refine aw_al_n F 0 dX8_bySounds_30 rfl rfl ?_
    refine gr8_8 F (lo_s rfl) (hP _ rfl) rfl w_1168 (hP _ rfl) dX8_bySounds_31 ?_
    refine aw_bi F dX8_bySounds_34 bi_20 ?_
    refine aw_il_n F 2 dX8_bySounds_36 rfl rfl ?_
    refine aw_imul F dX8_bySounds_37 ?_
    refine aw_il_n F 3 dX8_bySounds_38 rfl rfl ?_
    refine aw_iadd F dX8_bySounds_39 ?_
    refine aw_iald F 24 9 (lo_s rfl) (hP _ rfl) rfl h.1 dX8_bySounds_40 ?_
    replace h := h.2
    refine aw_iast F 24 12 (lo_s rfl) (hP _ rfl) rfl h.1 dX8_bySounds_41 ?_
    refine aw_nG (fun G_5 eG_5 => ?_)
    replace h := h.2 G_5 eG_5
    refine aw_inc (lv1 := [(3, .int (v3 + (1 : Int32))), (0, .ref (sdX X 24 0)), (1, .int v1), (2, .int v2)]) F 3 dX8_bySounds_42 rfl (in_1 _) (by decide) rfl ?_
    refine aw_go (tgt := 2) F dX8_bySounds_45 (by decide) ?_
    refine aw_sub [1, 2, 3, 0] rfl ?_
    exact K2 _ _ _ _ h
set_option maxRecDepth 100000 in
set_option maxHeartbeats 4000000 in
theorem k_X8_bySounds {l : Launch} {E : Ev} {P : Nat → Prop} {sd : Nat → Nat → Nat} {G : GH} {post : Int32 → GH → Prop} {x1 x2 : Int32} (hPP : ∀ o, stt o = true → P o) (h : wp_X8_bySounds post x1 x2 G) : Ct l yX8_bySounds cX8_bySounds 4 (some .int) 5 0 0 E P sd G [.ref (sd 24 0), .int x1, .int x2] (pI post) := by
  refine ct_of (own := "MarkFieldModel") (by decide) rfl (Nat.le_of_ble_eq_true rfl) hPP (fun X F T el eP es => ?_)
  subst el; subst eP; subst es
  have hP := F.P
  change AW E X 4 0 [(0, .ref (sdX X 24 0)), (1, .int x1), (2, .int x2)] [] G 0 0
  refine aw_ic F dX8_bySounds_0 ic_0 ?_
  refine aw_is_n (lv1 := [(3, .int (0 : Int32)), (0, .ref (sdX X 24 0)), (1, .int x1), (2, .int x2)]) F dX8_bySounds_1 rfl (by decide) rfl ?_
  refine aw_sub [1, 2, 3, 0] rfl ?_
  exact kl_X8_bySounds_2 F T h
-- X8_layStepsFrom (height 1)
def lb_X8_layStepsFrom_97 (post : Int32 → GH → Prop) (P37 : Int32 → Int32 → GH → Prop) (P97 : Int32 → Int32 → Int32 → Int32 → GH → Prop) (v2 v3 v4 v5 : Int32) (G : GH) : Prop :=
  (((10 : Int32) ≤ v5 → (∀ y_6 : Int32, y_6 = (v2 ||| v4) → P37 y_6 (v3 + (1 : Int32)) G)) ∧ (¬ (10 : Int32) ≤ v5 → wp_X8_has (fun (b_8 : Bool) (G_7 : GH) => ((b_8 = false → P97 v2 v3 v4 (v5 + (1 : Int32)) G_7) ∧ (b_8 = true → (vp_in v5 10 ∧ (∀ G_10 : GH, G_10 = gs G_7 24 21 (upd (G_7 24 21) v5.toNatClampNeg v3) → P97 v2 v3 v4 (v5 + (1 : Int32)) G_10))))) v4 v5 G))
def lp_X8_layStepsFrom_97 (post : Int32 → GH → Prop) (P37 : Int32 → Int32 → GH → Prop) (v2 v3 v4 v5 : Int32) (G : GH) : Prop := ∀ P97 : Int32 → Int32 → Int32 → Int32 → GH → Prop, (∀ (v2 v3 v4 v5 : Int32) (G : GH), lb_X8_layStepsFrom_97 post P37 P97 v2 v3 v4 v5 G → P97 v2 v3 v4 v5 G) → P97 v2 v3 v4 v5 G
def lb_X8_layStepsFrom_49 (post : Int32 → GH → Prop) (P37 : Int32 → Int32 → GH → Prop) (P49 : Int32 → Int32 → Int32 → Int32 → GH → Prop) (v2 v3 v4 v5 : Int32) (G : GH) : Prop :=
  (((10 : Int32) ≤ v5 → (∀ y_4 : Int32, y_4 = (v4 &&& (v2 ^^^ (-1 : Int32))) → lp_X8_layStepsFrom_97 post P37 v2 v3 y_4 (0 : Int32) G)) ∧ (¬ (10 : Int32) ≤ v5 → wp_X8_has (fun (b_12 : Bool) (G_11 : GH) => ((b_12 = false → P49 v2 v3 v4 (v5 + (1 : Int32)) G_11) ∧ (b_12 = true → (vp_in ((8 : Int32) + v5) 681 ∧ (∀ y_14 : Int32, y_14 = (v4 ||| (G_11 24 1 ((8 : Int32) + v5).toNatClampNeg)) → P49 v2 v3 y_14 (v5 + (1 : Int32)) G_11))))) v2 v5 G))
def lp_X8_layStepsFrom_49 (post : Int32 → GH → Prop) (P37 : Int32 → Int32 → GH → Prop) (v2 v3 v4 v5 : Int32) (G : GH) : Prop := ∀ P49 : Int32 → Int32 → Int32 → Int32 → GH → Prop, (∀ (v2 v3 v4 v5 : Int32) (G : GH), lb_X8_layStepsFrom_49 post P37 P49 v2 v3 v4 v5 G → P49 v2 v3 v4 v5 G) → P49 v2 v3 v4 v5 G
def lb_X8_layStepsFrom_37 (post : Int32 → GH → Prop) (P37 : Int32 → Int32 → GH → Prop) (v2 v3 : Int32) (G : GH) : Prop :=
  (((10 : Int32) ≤ v3 → post v2 G) ∧ (¬ (10 : Int32) ≤ v3 → lp_X8_layStepsFrom_49 post P37 v2 v3 (0 : Int32) (0 : Int32) G))
def lp_X8_layStepsFrom_37 (post : Int32 → GH → Prop) (v2 v3 : Int32) (G : GH) : Prop := ∀ P37 : Int32 → Int32 → GH → Prop, (∀ (v2 v3 : Int32) (G : GH), lb_X8_layStepsFrom_37 post P37 v2 v3 G → P37 v2 v3 G) → P37 v2 v3 G
def j_X8_layStepsFrom_28 (post : Int32 → GH → Prop) (P4 : Int32 → Int32 → Int32 → GH → Prop) (v1 v2 v3 s1 s2 : Int32) (G : GH) : Prop :=
  (vp_in s1 10 ∧ (∀ G_18 : GH, G_18 = gs G 24 21 (upd (G 24 21) s1.toNatClampNeg s2) → P4 v1 v2 (v3 + (1 : Int32)) G_18))
def lb_X8_layStepsFrom_4 (post : Int32 → GH → Prop) (P4 : Int32 → Int32 → Int32 → GH → Prop) (v1 v2 v3 : Int32) (G : GH) : Prop :=
  (((10 : Int32) ≤ v3 → lp_X8_layStepsFrom_37 post v2 (1 : Int32) G) ∧ (¬ (10 : Int32) ≤ v3 → wp_X8_has (fun (b_16 : Bool) (G_15 : GH) => ((b_16 = false → j_X8_layStepsFrom_28 post P4 v1 v2 v3 v3 (-1 : Int32) G_15) ∧ (b_16 = true → j_X8_layStepsFrom_28 post P4 v1 v2 v3 v3 (0 : Int32) G_15))) v1 v3 G))
def lp_X8_layStepsFrom_4 (post : Int32 → GH → Prop) (v1 v2 v3 : Int32) (G : GH) : Prop := ∀ P4 : Int32 → Int32 → Int32 → GH → Prop, (∀ (v1 v2 v3 : Int32) (G : GH), lb_X8_layStepsFrom_4 post P4 v1 v2 v3 G → P4 v1 v2 v3 G) → P4 v1 v2 v3 G
def wp_X8_layStepsFrom (post : Int32 → GH → Prop) (x1 : Int32) (G : GH) : Prop :=
  lp_X8_layStepsFrom_4 post x1 x1 (0 : Int32) G
set_option maxRecDepth 100000 in
set_option maxHeartbeats 4000000 in
theorem kl_X8_layStepsFrom_97 {E : Ev} {X : Cx} {post : Int32 → GH → Prop} {P37 : Int32 → Int32 → GH → Prop} {v2 v3 v4 v5 : Int32} {G : GH} (F : Fx E X "MarkFieldModel" cX8_layStepsFrom 6) (T : RT E X 1 0 0 (some .int) (pI post)) (K37 : ∀ (v2 v3 : Int32) (G : GH), P37 v2 v3 G → AW E X 6 37 [(0, .ref (sdX X 24 0)), (2, .int v2), (3, .int v3)] [] G 0 0) (h : lp_X8_layStepsFrom_97 post P37 v2 v3 v4 v5 G) : AW E X 6 97 [(0, .ref (sdX X 24 0)), (2, .int v2), (3, .int v3), (4, .int v4), (5, .int v5)] [] G 0 0 := by
  have hP := F.P
  have K97 : ∀ (v2 v3 v4 v5 : Int32) (G : GH), AW E X 6 97 [(0, .ref (sdX X 24 0)), (2, .int v2), (3, .int v3), (4, .int v4), (5, .int v5)] [] G 0 0 → AW E X 6 97 [(0, .ref (sdX X 24 0)), (2, .int v2), (3, .int v3), (4, .int v4), (5, .int v5)] [] G 0 0 := fun _ _ _ _ _ q => q
  refine h (fun (v2 v3 v4 v5 : Int32) (G : GH) => AW E X 6 97 [(0, .ref (sdX X 24 0)), (2, .int v2), (3, .int v3), (4, .int v4), (5, .int v5)] [] G 0 0) (fun (v2 v3 v4 v5 : Int32) (G : GH) h => ?_)
  refine aw_il F 4 dX8_layStepsFrom_97 rfl ?_
  refine aw_bi F dX8_layStepsFrom_99 bi_10 ?_
  refine aw_icmp_ge (tgt := 128) F dX8_layStepsFrom_101 (by decide) (fun c_5 => ?_) (fun c_5 => ?_)
  · replace h := h.1 c_5
    refine aw_il_n F 1 dX8_layStepsFrom_128 rfl rfl ?_
    refine aw_il F 3 dX8_layStepsFrom_129 rfl ?_
    refine aw_ior F dX8_layStepsFrom_131 ?_
    refine aw_top (fun y_6 ey_6 => ?_)
    replace h := h y_6 ey_6
    refine aw_is_n (lv1 := [(2, .int y_6), (0, .ref (sdX X 24 0)), (3, .int v3), (4, .int v4), (5, .int v5)]) F dX8_layStepsFrom_132 rfl (by decide) rfl ?_
    refine aw_inc (lv1 := [(3, .int (v3 + (1 : Int32))), (2, .int y_6), (0, .ref (sdX X 24 0)), (4, .int v4), (5, .int v5)]) F 2 dX8_layStepsFrom_133 rfl (in_1 _) (by decide) rfl ?_
    refine aw_go (tgt := 37) F dX8_layStepsFrom_136 (by decide) ?_
    refine aw_sub [2, 1, 0] rfl ?_
    exact K37 _ _ _ h
  · replace h := h.2 c_5
    refine aw_il F 3 dX8_layStepsFrom_104 rfl ?_
    refine aw_il F 4 dX8_layStepsFrom_106 rfl ?_
    refine aw_cSb (stk := []) F T.room [.int v4, .int v5] (k_X8_has hP h) ms_X8_has w_1385 rfl rfl (Nat.le_of_ble_eq_true rfl) ⟨(Nat.le_of_ble_eq_true rfl), (Nat.le_of_ble_eq_true rfl)⟩ ⟨(Nat.le_of_ble_eq_true rfl), (Nat.le_of_ble_eq_true rfl)⟩ dX8_layStepsFrom_108 (fun b_8 G_7 h => ?_)
    refine aw_if_eq (tgt := 122) F dX8_layStepsFrom_111 (by decide) (fun c_9 => ?_) (fun c_9 => ?_)
    · replace h := h.1 (bI_2 c_9)
      refine aw_inc (lv1 := [(5, .int (v5 + (1 : Int32))), (0, .ref (sdX X 24 0)), (2, .int v2), (3, .int v3), (4, .int v4)]) F 4 dX8_layStepsFrom_122 rfl (in_1 _) (by decide) rfl ?_
      refine aw_go (tgt := 97) F dX8_layStepsFrom_125 (by decide) ?_
      refine aw_sub [1, 2, 3, 4, 0] rfl ?_
      exact K97 _ _ _ _ _ h
    · replace h := h.2 (bI_1 c_9)
      refine aw_al_n F 0 dX8_layStepsFrom_114 rfl rfl ?_
      refine gr8_20 F (lo_s rfl) (hP _ rfl) rfl w_1180 (hP _ rfl) dX8_layStepsFrom_115 ?_
      refine aw_il F 4 dX8_layStepsFrom_118 rfl ?_
      refine aw_il_n F 2 dX8_layStepsFrom_120 rfl rfl ?_
      refine aw_iast F 24 21 (lo_s rfl) (hP _ rfl) rfl h.1 dX8_layStepsFrom_121 ?_
      refine aw_nG (fun G_10 eG_10 => ?_)
      replace h := h.2 G_10 eG_10
      refine aw_inc (lv1 := [(5, .int (v5 + (1 : Int32))), (0, .ref (sdX X 24 0)), (2, .int v2), (3, .int v3), (4, .int v4)]) F 4 dX8_layStepsFrom_122 rfl (in_1 _) (by decide) rfl ?_
      refine aw_go (tgt := 97) F dX8_layStepsFrom_125 (by decide) ?_
      refine aw_sub [1, 2, 3, 4, 0] rfl ?_
      exact K97 _ _ _ _ _ h
set_option maxRecDepth 100000 in
set_option maxHeartbeats 4000000 in
theorem kl_X8_layStepsFrom_49 {E : Ev} {X : Cx} {post : Int32 → GH → Prop} {P37 : Int32 → Int32 → GH → Prop} {v2 v3 v4 v5 : Int32} {G : GH} (F : Fx E X "MarkFieldModel" cX8_layStepsFrom 6) (T : RT E X 1 0 0 (some .int) (pI post)) (K37 : ∀ (v2 v3 : Int32) (G : GH), P37 v2 v3 G → AW E X 6 37 [(0, .ref (sdX X 24 0)), (2, .int v2), (3, .int v3)] [] G 0 0) (h : lp_X8_layStepsFrom_49 post P37 v2 v3 v4 v5 G) : AW E X 6 49 [(0, .ref (sdX X 24 0)), (2, .int v2), (3, .int v3), (4, .int v4), (5, .int v5)] [] G 0 0 := by
  have hP := F.P
  have K49 : ∀ (v2 v3 v4 v5 : Int32) (G : GH), AW E X 6 49 [(0, .ref (sdX X 24 0)), (2, .int v2), (3, .int v3), (4, .int v4), (5, .int v5)] [] G 0 0 → AW E X 6 49 [(0, .ref (sdX X 24 0)), (2, .int v2), (3, .int v3), (4, .int v4), (5, .int v5)] [] G 0 0 := fun _ _ _ _ _ q => q
  refine h (fun (v2 v3 v4 v5 : Int32) (G : GH) => AW E X 6 49 [(0, .ref (sdX X 24 0)), (2, .int v2), (3, .int v3), (4, .int v4), (5, .int v5)] [] G 0 0) (fun (v2 v3 v4 v5 : Int32) (G : GH) h => ?_)
  refine aw_il F 4 dX8_layStepsFrom_49 rfl ?_
  refine aw_bi F dX8_layStepsFrom_51 bi_10 ?_
  refine aw_icmp_ge (tgt := 86) F dX8_layStepsFrom_53 (by decide) (fun c_3 => ?_) (fun c_3 => ?_)
  · replace h := h.1 c_3
    refine aw_il F 3 dX8_layStepsFrom_86 rfl ?_
    refine aw_il_n F 1 dX8_layStepsFrom_88 rfl rfl ?_
    refine aw_ic F dX8_layStepsFrom_89 ic_m1 ?_
    refine aw_ixor F dX8_layStepsFrom_90 ?_
    refine aw_iand F dX8_layStepsFrom_91 ?_
    refine aw_top (fun y_4 ey_4 => ?_)
    replace h := h y_4 ey_4
    refine aw_is (lv1 := [(4, .int y_4), (0, .ref (sdX X 24 0)), (2, .int v2), (3, .int v3), (5, .int v5)]) F dX8_layStepsFrom_92 (by decide) rfl ?_
    refine aw_ic F dX8_layStepsFrom_94 ic_0 ?_
    refine aw_is (lv1 := [(5, .int (0 : Int32)), (4, .int y_4), (0, .ref (sdX X 24 0)), (2, .int v2), (3, .int v3)]) F dX8_layStepsFrom_95 (by decide) rfl ?_
    refine aw_sub [2, 3, 4, 1, 0] rfl ?_
    exact kl_X8_layStepsFrom_97 F T K37 h
  · replace h := h.2 c_3
    refine aw_il_n F 1 dX8_layStepsFrom_56 rfl rfl ?_
    refine aw_il F 4 dX8_layStepsFrom_57 rfl ?_
    refine aw_cSb (stk := []) F T.room [.int v2, .int v5] (k_X8_has hP h) ms_X8_has w_1385 rfl rfl (Nat.le_of_ble_eq_true rfl) ⟨(Nat.le_of_ble_eq_true rfl), (Nat.le_of_ble_eq_true rfl)⟩ ⟨(Nat.le_of_ble_eq_true rfl), (Nat.le_of_ble_eq_true rfl)⟩ dX8_layStepsFrom_59 (fun b_12 G_11 h => ?_)
    refine aw_if_eq (tgt := 80) F dX8_layStepsFrom_62 (by decide) (fun c_13 => ?_) (fun c_13 => ?_)
    · replace h := h.1 (bI_2 c_13)
      refine aw_inc (lv1 := [(5, .int (v5 + (1 : Int32))), (0, .ref (sdX X 24 0)), (2, .int v2), (3, .int v3), (4, .int v4)]) F 4 dX8_layStepsFrom_80 rfl (in_1 _) (by decide) rfl ?_
      refine aw_go (tgt := 49) F dX8_layStepsFrom_83 (by decide) ?_
      refine aw_sub [1, 2, 3, 4, 0] rfl ?_
      exact K49 _ _ _ _ _ h
    · replace h := h.2 (bI_1 c_13)
      refine aw_il F 3 dX8_layStepsFrom_65 rfl ?_
      refine aw_al_n F 0 dX8_layStepsFrom_67 rfl rfl ?_
      refine gr8_0 F (lo_s rfl) (hP _ rfl) rfl w_1160 (hP _ rfl) dX8_layStepsFrom_68 ?_
      refine aw_bi F dX8_layStepsFrom_71 bi_8 ?_
      refine aw_il F 4 dX8_layStepsFrom_73 rfl ?_
      refine aw_iadd F dX8_layStepsFrom_75 ?_
      refine aw_iald F 24 1 (lo_s rfl) (hP _ rfl) rfl h.1 dX8_layStepsFrom_76 ?_
      replace h := h.2
      refine aw_ior F dX8_layStepsFrom_77 ?_
      refine aw_top (fun y_14 ey_14 => ?_)
      replace h := h y_14 ey_14
      refine aw_is (lv1 := [(4, .int y_14), (0, .ref (sdX X 24 0)), (2, .int v2), (3, .int v3), (5, .int v5)]) F dX8_layStepsFrom_78 (by decide) rfl ?_
      refine aw_inc (lv1 := [(5, .int (v5 + (1 : Int32))), (4, .int y_14), (0, .ref (sdX X 24 0)), (2, .int v2), (3, .int v3)]) F 4 dX8_layStepsFrom_80 rfl (in_1 _) (by decide) rfl ?_
      refine aw_go (tgt := 49) F dX8_layStepsFrom_83 (by decide) ?_
      refine aw_sub [2, 3, 4, 1, 0] rfl ?_
      exact K49 _ _ _ _ _ h
set_option maxRecDepth 100000 in
set_option maxHeartbeats 4000000 in
theorem kl_X8_layStepsFrom_37 {E : Ev} {X : Cx} {post : Int32 → GH → Prop} {v2 v3 : Int32} {G : GH} (F : Fx E X "MarkFieldModel" cX8_layStepsFrom 6) (T : RT E X 1 0 0 (some .int) (pI post)) (h : lp_X8_layStepsFrom_37 post v2 v3 G) : AW E X 6 37 [(0, .ref (sdX X 24 0)), (2, .int v2), (3, .int v3)] [] G 0 0 := by
  have hP := F.P
  have K37 : ∀ (v2 v3 : Int32) (G : GH), AW E X 6 37 [(0, .ref (sdX X 24 0)), (2, .int v2), (3, .int v3)] [] G 0 0 → AW E X 6 37 [(0, .ref (sdX X 24 0)), (2, .int v2), (3, .int v3)] [] G 0 0 := fun _ _ _ q => q
  refine h (fun (v2 v3 : Int32) (G : GH) => AW E X 6 37 [(0, .ref (sdX X 24 0)), (2, .int v2), (3, .int v3)] [] G 0 0) (fun (v2 v3 : Int32) (G : GH) h => ?_)
  refine aw_il_n F 2 dX8_layStepsFrom_37 rfl rfl ?_
  refine aw_bi F dX8_layStepsFrom_38 bi_10 ?_
  refine aw_icmp_ge (tgt := 139) F dX8_layStepsFrom_40 (by decide) (fun c_2 => ?_) (fun c_2 => ?_)
  · replace h := h.1 c_2
    refine aw_il_n F 1 dX8_layStepsFrom_139 rfl rfl ?_
    exact aw_iret F T (Nat.le_of_ble_eq_true rfl) (Nat.le_of_ble_eq_true rfl) ⟨_, rfl, h⟩ dX8_layStepsFrom_140
  · replace h := h.2 c_2
    refine aw_ic F dX8_layStepsFrom_43 ic_0 ?_
    refine aw_is (lv1 := [(4, .int (0 : Int32)), (0, .ref (sdX X 24 0)), (2, .int v2), (3, .int v3)]) F dX8_layStepsFrom_44 (by decide) rfl ?_
    refine aw_ic F dX8_layStepsFrom_46 ic_0 ?_
    refine aw_is (lv1 := [(5, .int (0 : Int32)), (4, .int (0 : Int32)), (0, .ref (sdX X 24 0)), (2, .int v2), (3, .int v3)]) F dX8_layStepsFrom_47 (by decide) rfl ?_
    refine aw_sub [2, 3, 4, 1, 0] rfl ?_
    exact kl_X8_layStepsFrom_49 F T K37 h
set_option maxRecDepth 100000 in
set_option maxHeartbeats 4000000 in
theorem kj_X8_layStepsFrom_28 {E : Ev} {X : Cx} {post : Int32 → GH → Prop} {P4 : Int32 → Int32 → Int32 → GH → Prop} {v1 v2 v3 s1 s2 : Int32} {G : GH} (F : Fx E X "MarkFieldModel" cX8_layStepsFrom 6) (T : RT E X 1 0 0 (some .int) (pI post)) (K4 : ∀ (v1 v2 v3 : Int32) (G : GH), P4 v1 v2 v3 G → AW E X 6 4 [(0, .ref (sdX X 24 0)), (1, .int v1), (2, .int v2), (3, .int v3)] [] G 0 0) (h : j_X8_layStepsFrom_28 post P4 v1 v2 v3 s1 s2 G) : AW E X 6 28 [(0, .ref (sdX X 24 0)), (1, .int v1), (2, .int v2), (3, .int v3)] [.int s2, .int s1, .ref (sdX X 24 21)] G 0 0 := by
  have hP := F.P
  refine aw_iast F 24 21 (lo_s rfl) (hP _ rfl) rfl h.1 dX8_layStepsFrom_28 ?_
  refine aw_nG (fun G_18 eG_18 => ?_)
  replace h := h.2 G_18 eG_18
  refine aw_inc (lv1 := [(3, .int (v3 + (1 : Int32))), (0, .ref (sdX X 24 0)), (1, .int v1), (2, .int v2)]) F 3 dX8_layStepsFrom_29 rfl (in_1 _) (by decide) rfl ?_
  refine aw_go (tgt := 4) F dX8_layStepsFrom_32 (by decide) ?_
  refine aw_sub [1, 2, 3, 0] rfl ?_
  exact K4 _ _ _ _ h
set_option maxRecDepth 100000 in
set_option maxHeartbeats 4000000 in
theorem kl_X8_layStepsFrom_4 {E : Ev} {X : Cx} {post : Int32 → GH → Prop} {v1 v2 v3 : Int32} {G : GH} (F : Fx E X "MarkFieldModel" cX8_layStepsFrom 6) (T : RT E X 1 0 0 (some .int) (pI post)) (h : lp_X8_layStepsFrom_4 post v1 v2 v3 G) : AW E X 6 4 [(0, .ref (sdX X 24 0)), (1, .int v1), (2, .int v2), (3, .int v3)] [] G 0 0 := by
  have hP := F.P
  have K4 : ∀ (v1 v2 v3 : Int32) (G : GH), AW E X 6 4 [(0, .ref (sdX X 24 0)), (1, .int v1), (2, .int v2), (3, .int v3)] [] G 0 0 → AW E X 6 4 [(0, .ref (sdX X 24 0)), (1, .int v1), (2, .int v2), (3, .int v3)] [] G 0 0 := fun _ _ _ _ q => q
  refine h (fun (v1 v2 v3 : Int32) (G : GH) => AW E X 6 4 [(0, .ref (sdX X 24 0)), (1, .int v1), (2, .int v2), (3, .int v3)] [] G 0 0) (fun (v1 v2 v3 : Int32) (G : GH) h => ?_)
  refine aw_il_n F 3 dX8_layStepsFrom_4 rfl rfl ?_
  refine aw_bi F dX8_layStepsFrom_5 bi_10 ?_
  refine aw_icmp_ge (tgt := 35) F dX8_layStepsFrom_7 (by decide) (fun c_1 => ?_) (fun c_1 => ?_)
  · replace h := h.1 c_1
    refine aw_ic F dX8_layStepsFrom_35 ic_1 ?_
    refine aw_is_n (lv1 := [(3, .int (1 : Int32)), (0, .ref (sdX X 24 0)), (1, .int v1), (2, .int v2)]) F dX8_layStepsFrom_36 rfl (by decide) rfl ?_
    refine aw_sub [1, 3, 0] rfl ?_
    exact kl_X8_layStepsFrom_37 F T h
  · replace h := h.2 c_1
    refine aw_al_n F 0 dX8_layStepsFrom_10 rfl rfl ?_
    refine gr8_20 F (lo_s rfl) (hP _ rfl) rfl w_1180 (hP _ rfl) dX8_layStepsFrom_11 ?_
    refine aw_il_n F 3 dX8_layStepsFrom_14 rfl rfl ?_
    refine aw_il_n F 1 dX8_layStepsFrom_15 rfl rfl ?_
    refine aw_il_n F 3 dX8_layStepsFrom_16 rfl rfl ?_
    refine aw_cSb (stk := [.int v3, .ref (sdX X 24 21)]) F T.room [.int v1, .int v3] (k_X8_has hP h) ms_X8_has w_1385 rfl rfl (Nat.le_of_ble_eq_true rfl) ⟨(Nat.le_of_ble_eq_true rfl), (Nat.le_of_ble_eq_true rfl)⟩ ⟨(Nat.le_of_ble_eq_true rfl), (Nat.le_of_ble_eq_true rfl)⟩ dX8_layStepsFrom_17 (fun b_16 G_15 h => ?_)
    refine aw_if_eq (tgt := 27) F dX8_layStepsFrom_20 (by decide) (fun c_17 => ?_) (fun c_17 => ?_)
    · replace h := h.1 (bI_2 c_17)
      refine aw_ic F dX8_layStepsFrom_27 ic_m1 ?_
      exact kj_X8_layStepsFrom_28 F T K4 h
    · replace h := h.2 (bI_1 c_17)
      refine aw_ic F dX8_layStepsFrom_23 ic_0 ?_
      refine aw_go (tgt := 28) F dX8_layStepsFrom_24 (by decide) ?_
      exact kj_X8_layStepsFrom_28 F T K4 h
set_option maxRecDepth 100000 in
set_option maxHeartbeats 4000000 in
theorem k_X8_layStepsFrom {l : Launch} {E : Ev} {P : Nat → Prop} {sd : Nat → Nat → Nat} {G : GH} {post : Int32 → GH → Prop} {x1 : Int32} (hPP : ∀ o, stt o = true → P o) (h : wp_X8_layStepsFrom post x1 G) : Ct l yX8_layStepsFrom cX8_layStepsFrom 6 (some .int) 1 0 0 E P sd G [.ref (sd 24 0), .int x1] (pI post) := by
  refine ct_of (own := "MarkFieldModel") (by decide) rfl (Nat.le_of_ble_eq_true rfl) hPP (fun X F T el eP es => ?_)
  subst el; subst eP; subst es
  have hP := F.P
  change AW E X 6 0 [(0, .ref (sdX X 24 0)), (1, .int x1)] [] G 0 0
  refine aw_il_n F 1 dX8_layStepsFrom_0 rfl rfl ?_
  refine aw_is_n (lv1 := [(2, .int x1), (0, .ref (sdX X 24 0)), (1, .int x1)]) F dX8_layStepsFrom_1 rfl (by decide) rfl ?_
  refine aw_ic F dX8_layStepsFrom_2 ic_0 ?_
  refine aw_is_n (lv1 := [(3, .int (0 : Int32)), (2, .int x1), (0, .ref (sdX X 24 0)), (1, .int x1)]) F dX8_layStepsFrom_3 rfl (by decide) rfl ?_
  refine aw_sub [2, 3, 1, 0] rfl ?_
  exact kl_X8_layStepsFrom_4 F T h
-- X8_stepsOf (height 2)
def j_X8_stepsOf_70 (post : Int32 → GH → Prop) (P18 : Int32 → Int32 → Int32 → Int32 → GH → Prop) (v2 v3 v5 : Int32) (G : GH) : Prop :=
  (vp_in v5 10 ∧ (∀ y_15 : Int32, y_15 = (G 24 21 v5.toNatClampNeg) → P18 v2 v3 y_15 (v5 + (1 : Int32)) G))
def lb_X8_stepsOf_18 (post : Int32 → GH → Prop) (P18 : Int32 → Int32 → Int32 → Int32 → GH → Prop) (v2 v3 v4 v5 : Int32) (G : GH) : Prop :=
  (((10 : Int32) ≤ v5 → post v4 G) ∧ (¬ (10 : Int32) ≤ v5 → wp_X8_of1 (fun (r_7 : Int32) (G_6 : GH) => wp_X8_has (fun (b_9 : Bool) (G_8 : GH) => ((b_9 = false → P18 v2 v3 v4 (v5 + (1 : Int32)) G_8) ∧ (b_9 = true → wp_X8_has (fun (b_12 : Bool) (G_11 : GH) => ((b_12 = false → P18 v2 v3 v4 (v5 + (1 : Int32)) G_11) ∧ (b_12 = true → ((v4 = (-1 : Int32) → j_X8_stepsOf_70 post P18 v2 v3 v5 G_11) ∧ (¬ v4 = (-1 : Int32) → (vp_in v5 10 ∧ ((v4 ≤ (G_11 24 21 v5.toNatClampNeg) → P18 v2 v3 v4 (v5 + (1 : Int32)) G_11) ∧ (¬ v4 ≤ (G_11 24 21 v5.toNatClampNeg) → j_X8_stepsOf_70 post P18 v2 v3 v5 G_11)))))))) v3 v5 G_8))) r_7 v5 G_6) v2 (11 : Int32) G))
def lp_X8_stepsOf_18 (post : Int32 → GH → Prop) (v2 v3 v4 v5 : Int32) (G : GH) : Prop := ∀ P18 : Int32 → Int32 → Int32 → Int32 → GH → Prop, (∀ (v2 v3 v4 v5 : Int32) (G : GH), lb_X8_stepsOf_18 post P18 v2 v3 v4 v5 G → P18 v2 v3 v4 v5 G) → P18 v2 v3 v4 v5 G
def wp_X8_stepsOf (post : Int32 → GH → Prop) (x1 x2 : Int32) (G : GH) : Prop :=
  wp_X8_of1 (fun (r_2 : Int32) (G_1 : GH) => wp_X8_layStepsFrom (fun (r_4 : Int32) (G_3 : GH) => lp_X8_stepsOf_18 post x2 r_4 (-1 : Int32) (0 : Int32) G_3) r_2 G_1) x1 (11 : Int32) G
set_option maxRecDepth 100000 in
set_option maxHeartbeats 4000000 in
theorem kj_X8_stepsOf_70 {E : Ev} {X : Cx} {post : Int32 → GH → Prop} {P18 : Int32 → Int32 → Int32 → Int32 → GH → Prop} {v2 v3 v5 : Int32} {G : GH} (F : Fx E X "MarkFieldModel" cX8_stepsOf 6) (T : RT E X 2 0 0 (some .int) (pI post)) (K18 : ∀ (v2 v3 v4 v5 : Int32) (G : GH), P18 v2 v3 v4 v5 G → AW E X 6 18 [(0, .ref (sdX X 24 0)), (2, .int v2), (3, .int v3), (4, .int v4), (5, .int v5)] [] G 0 0) (h : j_X8_stepsOf_70 post P18 v2 v3 v5 G) : AW E X 6 70 [(0, .ref (sdX X 24 0)), (2, .int v2), (3, .int v3), (5, .int v5)] [] G 0 0 := by
  have hP := F.P
  refine aw_al_n F 0 dX8_stepsOf_70 rfl rfl ?_
  refine gr8_20 F (lo_s rfl) (hP _ rfl) rfl w_1180 (hP _ rfl) dX8_stepsOf_71 ?_
  refine aw_il F 3 dX8_stepsOf_74 rfl ?_
  refine aw_iald F 24 21 (lo_s rfl) (hP _ rfl) rfl h.1 dX8_stepsOf_76 ?_
  replace h := h.2
  refine aw_top (fun y_15 ey_15 => ?_)
  replace h := h y_15 ey_15
  refine aw_is (lv1 := [(4, .int y_15), (0, .ref (sdX X 24 0)), (2, .int v2), (3, .int v3), (5, .int v5)]) F dX8_stepsOf_77 (by decide) rfl ?_
  refine aw_inc (lv1 := [(5, .int (v5 + (1 : Int32))), (4, .int y_15), (0, .ref (sdX X 24 0)), (2, .int v2), (3, .int v3)]) F 4 dX8_stepsOf_79 rfl (in_1 _) (by decide) rfl ?_
  refine aw_go (tgt := 18) F dX8_stepsOf_82 (by decide) ?_
  refine aw_sub [2, 3, 4, 1, 0] rfl ?_
  exact K18 _ _ _ _ _ h
set_option maxRecDepth 100000 in
set_option maxHeartbeats 4000000 in
theorem kl_X8_stepsOf_18 {E : Ev} {X : Cx} {post : Int32 → GH → Prop} {v2 v3 v4 v5 : Int32} {G : GH} (F : Fx E X "MarkFieldModel" cX8_stepsOf 6) (T : RT E X 2 0 0 (some .int) (pI post)) (h : lp_X8_stepsOf_18 post v2 v3 v4 v5 G) : AW E X 6 18 [(0, .ref (sdX X 24 0)), (2, .int v2), (3, .int v3), (4, .int v4), (5, .int v5)] [] G 0 0 := by
  have hP := F.P
  have K18 : ∀ (v2 v3 v4 v5 : Int32) (G : GH), AW E X 6 18 [(0, .ref (sdX X 24 0)), (2, .int v2), (3, .int v3), (4, .int v4), (5, .int v5)] [] G 0 0 → AW E X 6 18 [(0, .ref (sdX X 24 0)), (2, .int v2), (3, .int v3), (4, .int v4), (5, .int v5)] [] G 0 0 := fun _ _ _ _ _ q => q
  refine h (fun (v2 v3 v4 v5 : Int32) (G : GH) => AW E X 6 18 [(0, .ref (sdX X 24 0)), (2, .int v2), (3, .int v3), (4, .int v4), (5, .int v5)] [] G 0 0) (fun (v2 v3 v4 v5 : Int32) (G : GH) h => ?_)
  refine aw_il F 4 dX8_stepsOf_18 rfl ?_
  refine aw_bi F dX8_stepsOf_20 bi_10 ?_
  refine aw_icmp_ge (tgt := 85) F dX8_stepsOf_22 (by decide) (fun c_5 => ?_) (fun c_5 => ?_)
  · replace h := h.1 c_5
    refine aw_il F 3 dX8_stepsOf_85 rfl ?_
    exact aw_iret F T (Nat.le_of_ble_eq_true rfl) (Nat.le_of_ble_eq_true rfl) ⟨_, rfl, h⟩ dX8_stepsOf_87
  · replace h := h.2 c_5
    refine aw_al_n F 0 dX8_stepsOf_25 rfl rfl ?_
    refine aw_il_n F 1 dX8_stepsOf_26 rfl rfl ?_
    refine aw_bi F dX8_stepsOf_27 bi_11 ?_
    refine aw_cVi (stk := []) F T.room [.int v2, .int (11 : Int32)] (k_X8_of1 hP h) mv_X8_of1 w_1313 cf8 (lo_s rfl) (hP _ rfl) rfl (by decide) rfl rfl (Nat.le_of_ble_eq_true rfl) ⟨(Nat.le_of_ble_eq_true rfl), (Nat.le_of_ble_eq_true rfl)⟩ ⟨(Nat.le_of_ble_eq_true rfl), (Nat.le_of_ble_eq_true rfl)⟩ dX8_stepsOf_29 (fun r_7 G_6 h => ?_)
    refine aw_il F 4 dX8_stepsOf_32 rfl ?_
    refine aw_cSb (stk := []) F T.room [.int r_7, .int v5] (k_X8_has hP h) ms_X8_has w_1385 rfl rfl (Nat.le_of_ble_eq_true rfl) ⟨(Nat.le_of_ble_eq_true rfl), (Nat.le_of_ble_eq_true rfl)⟩ ⟨(Nat.le_of_ble_eq_true rfl), (Nat.le_of_ble_eq_true rfl)⟩ dX8_stepsOf_34 (fun b_9 G_8 h => ?_)
    refine aw_if_eq (tgt := 79) F dX8_stepsOf_37 (by decide) (fun c_10 => ?_) (fun c_10 => ?_)
    · replace h := h.1 (bI_2 c_10)
      refine aw_inc (lv1 := [(5, .int (v5 + (1 : Int32))), (0, .ref (sdX X 24 0)), (2, .int v2), (3, .int v3), (4, .int v4)]) F 4 dX8_stepsOf_79 rfl (in_1 _) (by decide) rfl ?_
      refine aw_go (tgt := 18) F dX8_stepsOf_82 (by decide) ?_
      refine aw_sub [1, 2, 3, 4, 0] rfl ?_
      exact K18 _ _ _ _ _ h
    · replace h := h.2 (bI_1 c_10)
      refine aw_il_n F 2 dX8_stepsOf_40 rfl rfl ?_
      refine aw_il F 4 dX8_stepsOf_41 rfl ?_
      refine aw_cSb (stk := []) F T.room [.int v3, .int v5] (k_X8_has hP h) ms_X8_has w_1385 rfl rfl (Nat.le_of_ble_eq_true rfl) ⟨(Nat.le_of_ble_eq_true rfl), (Nat.le_of_ble_eq_true rfl)⟩ ⟨(Nat.le_of_ble_eq_true rfl), (Nat.le_of_ble_eq_true rfl)⟩ dX8_stepsOf_43 (fun b_12 G_11 h => ?_)
      refine aw_if_ne (tgt := 52) F dX8_stepsOf_46 (by decide) (fun c_13 => ?_) (fun c_13 => ?_)
      · replace h := h.2 (bI_1 c_13)
        refine aw_il F 3 dX8_stepsOf_52 rfl ?_
        refine aw_ic F dX8_stepsOf_54 ic_m1 ?_
        refine aw_icmp_eq (tgt := 70) F dX8_stepsOf_55 (by decide) (fun c_14 => ?_) (fun c_14 => ?_)
        · replace h := h.1 c_14
          refine aw_sub [0, 1, 2, 4] rfl ?_
          exact kj_X8_stepsOf_70 F T K18 h
        · replace h := h.2 c_14
          refine aw_al_n F 0 dX8_stepsOf_58 rfl rfl ?_
          refine gr8_20 F (lo_s rfl) (hP _ rfl) rfl w_1180 (hP _ rfl) dX8_stepsOf_59 ?_
          refine aw_il F 4 dX8_stepsOf_62 rfl ?_
          refine aw_iald F 24 21 (lo_s rfl) (hP _ rfl) rfl h.1 dX8_stepsOf_64 ?_
          replace h := h.2
          refine aw_il F 3 dX8_stepsOf_65 rfl ?_
          refine aw_icmp_ge (tgt := 79) F dX8_stepsOf_67 (by decide) (fun c_16 => ?_) (fun c_16 => ?_)
          · replace h := h.1 c_16
            refine aw_inc (lv1 := [(5, .int (v5 + (1 : Int32))), (0, .ref (sdX X 24 0)), (2, .int v2), (3, .int v3), (4, .int v4)]) F 4 dX8_stepsOf_79 rfl (in_1 _) (by decide) rfl ?_
            refine aw_go (tgt := 18) F dX8_stepsOf_82 (by decide) ?_
            refine aw_sub [1, 2, 3, 4, 0] rfl ?_
            exact K18 _ _ _ _ _ h
          · replace h := h.2 c_16
            refine aw_sub [0, 1, 2, 4] rfl ?_
            exact kj_X8_stepsOf_70 F T K18 h
      · replace h := h.1 (bI_2 c_13)
        refine aw_go (tgt := 79) F dX8_stepsOf_49 (by decide) ?_
        refine aw_inc (lv1 := [(5, .int (v5 + (1 : Int32))), (0, .ref (sdX X 24 0)), (2, .int v2), (3, .int v3), (4, .int v4)]) F 4 dX8_stepsOf_79 rfl (in_1 _) (by decide) rfl ?_
        refine aw_go (tgt := 18) F dX8_stepsOf_82 (by decide) ?_
        refine aw_sub [1, 2, 3, 4, 0] rfl ?_
        exact K18 _ _ _ _ _ h
set_option maxRecDepth 100000 in
set_option maxHeartbeats 4000000 in
theorem k_X8_stepsOf {l : Launch} {E : Ev} {P : Nat → Prop} {sd : Nat → Nat → Nat} {G : GH} {post : Int32 → GH → Prop} {x1 x2 : Int32} (hPP : ∀ o, stt o = true → P o) (h : wp_X8_stepsOf post x1 x2 G) : Ct l yX8_stepsOf cX8_stepsOf 6 (some .int) 2 0 0 E P sd G [.ref (sd 24 0), .int x1, .int x2] (pI post) := by
  refine ct_of (own := "MarkFieldModel") (by decide) rfl (Nat.le_of_ble_eq_true rfl) hPP (fun X F T el eP es => ?_)
  subst el; subst eP; subst es
  have hP := F.P
  change AW E X 6 0 [(0, .ref (sdX X 24 0)), (1, .int x1), (2, .int x2)] [] G 0 0
  refine aw_al_n F 0 dX8_stepsOf_0 rfl rfl ?_
  refine aw_al_n F 0 dX8_stepsOf_1 rfl rfl ?_
  refine aw_il_n F 1 dX8_stepsOf_2 rfl rfl ?_
  refine aw_bi F dX8_stepsOf_3 bi_11 ?_
  refine aw_cVi (stk := [.ref (sdX X 24 0)]) F T.room [.int x1, .int (11 : Int32)] (k_X8_of1 hP h) mv_X8_of1 w_1313 cf8 (lo_s rfl) (hP _ rfl) rfl (by decide) rfl rfl (Nat.le_of_ble_eq_true rfl) ⟨(Nat.le_of_ble_eq_true rfl), (Nat.le_of_ble_eq_true rfl)⟩ ⟨(Nat.le_of_ble_eq_true rfl), (Nat.le_of_ble_eq_true rfl)⟩ dX8_stepsOf_5 (fun r_2 G_1 h => ?_)
  refine aw_cVi (stk := []) F T.room [.int r_2] (k_X8_layStepsFrom hP h) mv_X8_layStepsFrom w_1381 cf8 (lo_s rfl) (hP _ rfl) rfl (by decide) rfl rfl (Nat.le_of_ble_eq_true rfl) ⟨(Nat.le_of_ble_eq_true rfl), (Nat.le_of_ble_eq_true rfl)⟩ ⟨(Nat.le_of_ble_eq_true rfl), (Nat.le_of_ble_eq_true rfl)⟩ dX8_stepsOf_8 (fun r_4 G_3 h => ?_)
  refine aw_is_n (lv1 := [(3, .int r_4), (0, .ref (sdX X 24 0)), (1, .int x1), (2, .int x2)]) F dX8_stepsOf_11 rfl (by decide) rfl ?_
  refine aw_ic F dX8_stepsOf_12 ic_m1 ?_
  refine aw_is (lv1 := [(4, .int (-1 : Int32)), (3, .int r_4), (0, .ref (sdX X 24 0)), (1, .int x1), (2, .int x2)]) F dX8_stepsOf_13 (by decide) rfl ?_
  refine aw_ic F dX8_stepsOf_15 ic_0 ?_
  refine aw_is (lv1 := [(5, .int (0 : Int32)), (4, .int (-1 : Int32)), (3, .int r_4), (0, .ref (sdX X 24 0)), (1, .int x1), (2, .int x2)]) F dX8_stepsOf_16 (by decide) rfl ?_
  refine aw_sub [3, 5, 2, 1, 0] rfl ?_
  exact kl_X8_stepsOf_18 F T h
-- X8_areNear (height 1)
def wp_X8_areNear (post : Bool → GH → Prop) (x1 x2 : Int32) (G : GH) : Prop :=
  (vp_in (((13 : Int32) * x1) + x2) 169 ∧ (∀ y_1 : Int32, y_1 = (G 24 17 (((13 : Int32) * x1) + x2).toNatClampNeg) → ((y_1 = (-1 : Int32) → post false G) ∧ (¬ y_1 = (-1 : Int32) → wp_X8_ruleOf (fun (r_4 : Int32) (G_3 : GH) => ((r_4 < y_1 → post false G_3) ∧ (¬ r_4 < y_1 → post true G_3))) (3 : Int32) G))))
set_option maxRecDepth 100000 in
set_option maxHeartbeats 4000000 in
theorem k_X8_areNear {l : Launch} {E : Ev} {P : Nat → Prop} {sd : Nat → Nat → Nat} {G : GH} {post : Bool → GH → Prop} {x1 x2 : Int32} (hPP : ∀ o, stt o = true → P o) (h : wp_X8_areNear post x1 x2 G) : Ct l yX8_areNear cX8_areNear 4 (some .boolean) 1 0 0 E P sd G [.ref (sd 24 0), .int x1, .int x2] (pB post) := by
  refine ct_of (own := "MarkFieldModel") (by decide) rfl (Nat.le_of_ble_eq_true rfl) hPP (fun X F T el eP es => ?_)
  subst el; subst eP; subst es
  have hP := F.P
  change AW E X 4 0 [(0, .ref (sdX X 24 0)), (1, .int x1), (2, .int x2)] [] G 0 0
  refine aw_al_n F 0 dX8_areNear_0 rfl rfl ?_
  refine gr8_16 F (lo_s rfl) (hP _ rfl) rfl w_1176 (hP _ rfl) dX8_areNear_1 ?_
  refine aw_bi F dX8_areNear_4 bi_13 ?_
  refine aw_il_n F 1 dX8_areNear_6 rfl rfl ?_
  refine aw_imul F dX8_areNear_7 ?_
  refine aw_il_n F 2 dX8_areNear_8 rfl rfl ?_
  refine aw_iadd F dX8_areNear_9 ?_
  refine aw_iald F 24 17 (lo_s rfl) (hP _ rfl) rfl h.1 dX8_areNear_10 ?_
  replace h := h.2
  refine aw_top (fun y_1 ey_1 => ?_)
  replace h := h y_1 ey_1
  refine aw_is_n (lv1 := [(3, .int y_1), (0, .ref (sdX X 24 0)), (1, .int x1), (2, .int x2)]) F dX8_areNear_11 rfl (by decide) rfl ?_
  refine aw_il_n F 0 dX8_areNear_12 rfl rfl ?_
  refine aw_ic F dX8_areNear_13 ic_m1 ?_
  refine aw_icmp_eq (tgt := 30) F dX8_areNear_14 (by decide) (fun c_2 => ?_) (fun c_2 => ?_)
  · replace h := h.1 c_2
    refine aw_ic F dX8_areNear_30 ic_0 ?_
    exact aw_zret F T false rfl (Nat.le_of_ble_eq_true rfl) (Nat.le_of_ble_eq_true rfl) ⟨_, rfl, h⟩ dX8_areNear_31
  · replace h := h.2 c_2
    refine aw_il_n F 0 dX8_areNear_17 rfl rfl ?_
    refine aw_al_n F 1 dX8_areNear_18 rfl rfl ?_
    refine aw_ic F dX8_areNear_19 ic_3 ?_
    refine aw_cVi (stk := [.int y_1]) F T.room [.int (3 : Int32)] (k_X8_ruleOf hP h) mv_X8_ruleOf w_1373 cf8 (lo_s rfl) (hP _ rfl) rfl (by decide) rfl rfl (Nat.le_of_ble_eq_true rfl) ⟨(Nat.le_of_ble_eq_true rfl), (Nat.le_of_ble_eq_true rfl)⟩ ⟨(Nat.le_of_ble_eq_true rfl), (Nat.le_of_ble_eq_true rfl)⟩ dX8_areNear_20 (fun r_4 G_3 h => ?_)
    refine aw_icmp_gt (tgt := 30) F dX8_areNear_23 (by decide) (fun c_5 => ?_) (fun c_5 => ?_)
    · replace h := h.1 c_5
      refine aw_ic F dX8_areNear_30 ic_0 ?_
      exact aw_zret F T false rfl (Nat.le_of_ble_eq_true rfl) (Nat.le_of_ble_eq_true rfl) ⟨_, rfl, h⟩ dX8_areNear_31
    · replace h := h.2 c_5
      refine aw_ic F dX8_areNear_26 ic_1 ?_
      refine aw_go (tgt := 31) F dX8_areNear_27 (by decide) ?_
      exact aw_zret F T true rfl (Nat.le_of_ble_eq_true rfl) (Nat.le_of_ble_eq_true rfl) ⟨_, rfl, h⟩ dX8_areNear_31
-- X8_layCouple (height 6)
def wp_X8_layCouple (post : GH → Prop) (x1 x2 : Int32) (G : GH) : Prop :=
  (∀ y_1 : Int32, y_1 = (((13 : Int32) * x1) + x2) → wp_X8_byLetters (fun (r_3 : Int32) (G_2 : GH) => (vp_in y_1 169 ∧ (∀ G_4 : GH, G_4 = gs G_2 24 14 (upd (G_2 24 14) y_1.toNatClampNeg r_3) → wp_X8_bySounds (fun (r_6 : Int32) (G_5 : GH) => (vp_in y_1 169 ∧ (∀ G_7 : GH, G_7 = gs G_5 24 15 (upd (G_5 24 15) y_1.toNatClampNeg r_6) → wp_X8_ruleOf (fun (r_9 : Int32) (G_8 : GH) => (vp_in y_1 169 ∧ wp_X8_ruleOf (fun (r_11 : Int32) (G_10 : GH) => (vp_in y_1 169 ∧ (vp_in y_1 169 ∧ (∀ G_12 : GH, G_12 = gs G_10 24 16 (upd (G_10 24 16) y_1.toNatClampNeg (((r_9 * (G_8 24 15 y_1.toNatClampNeg)) + (((100 : Int32) - r_11) * (G_10 24 14 y_1.toNatClampNeg))) / (100 : Int32))) → wp_X8_stepsOf (fun (r_14 : Int32) (G_13 : GH) => (vp_in y_1 169 ∧ (∀ G_15 : GH, G_15 = gs G_13 24 17 (upd (G_13 24 17) y_1.toNatClampNeg r_14) → post G_15))) x1 x2 G_12)))) (5 : Int32) G_8)) (5 : Int32) G_7))) x1 x2 G_4))) x1 x2 G)
set_option maxRecDepth 100000 in
set_option maxHeartbeats 4000000 in
theorem k_X8_layCouple {l : Launch} {E : Ev} {P : Nat → Prop} {sd : Nat → Nat → Nat} {G : GH} {post : GH → Prop} {x1 x2 : Int32} (hPP : ∀ o, stt o = true → P o) (h : wp_X8_layCouple post x1 x2 G) : Ct l yX8_layCouple cX8_layCouple 4 none 6 0 0 E P sd G [.ref (sd 24 0), .int x1, .int x2] (pV post) := by
  refine ct_of (own := "MarkFieldModel") (by decide) rfl (Nat.le_of_ble_eq_true rfl) hPP (fun X F T el eP es => ?_)
  subst el; subst eP; subst es
  have hP := F.P
  change AW E X 4 0 [(0, .ref (sdX X 24 0)), (1, .int x1), (2, .int x2)] [] G 0 0
  refine aw_bi F dX8_layCouple_0 bi_13 ?_
  refine aw_il_n F 1 dX8_layCouple_2 rfl rfl ?_
  refine aw_imul F dX8_layCouple_3 ?_
  refine aw_il_n F 2 dX8_layCouple_4 rfl rfl ?_
  refine aw_iadd F dX8_layCouple_5 ?_
  refine aw_top (fun y_1 ey_1 => ?_)
  replace h := h y_1 ey_1
  refine aw_is_n (lv1 := [(3, .int y_1), (0, .ref (sdX X 24 0)), (1, .int x1), (2, .int x2)]) F dX8_layCouple_6 rfl (by decide) rfl ?_
  refine aw_al_n F 1 dX8_layCouple_7 rfl rfl ?_
  refine gr8_13 F (lo_s rfl) (hP _ rfl) rfl w_1173 (hP _ rfl) dX8_layCouple_8 ?_
  refine aw_il_n F 0 dX8_layCouple_11 rfl rfl ?_
  refine aw_al_n F 1 dX8_layCouple_12 rfl rfl ?_
  refine aw_il_n F 2 dX8_layCouple_13 rfl rfl ?_
  refine aw_il_n F 3 dX8_layCouple_14 rfl rfl ?_
  refine aw_cVi (stk := [.int y_1, .ref (sdX X 24 14)]) F T.room [.int x1, .int x2] (k_X8_byLetters hP h) mv_X8_byLetters w_1341 cf8 (lo_s rfl) (hP _ rfl) rfl (by decide) rfl rfl (Nat.le_of_ble_eq_true rfl) ⟨(Nat.le_of_ble_eq_true rfl), (Nat.le_of_ble_eq_true rfl)⟩ ⟨(Nat.le_of_ble_eq_true rfl), (Nat.le_of_ble_eq_true rfl)⟩ dX8_layCouple_15 (fun r_3 G_2 h => ?_)
  refine aw_iast F 24 14 (lo_s rfl) (hP _ rfl) rfl h.1 dX8_layCouple_18 ?_
  refine aw_nG (fun G_4 eG_4 => ?_)
  replace h := h.2 G_4 eG_4
  refine aw_al_n F 1 dX8_layCouple_19 rfl rfl ?_
  refine gr8_14 F (lo_s rfl) (hP _ rfl) rfl w_1174 (hP _ rfl) dX8_layCouple_20 ?_
  refine aw_il_n F 0 dX8_layCouple_23 rfl rfl ?_
  refine aw_al_n F 1 dX8_layCouple_24 rfl rfl ?_
  refine aw_il_n F 2 dX8_layCouple_25 rfl rfl ?_
  refine aw_il_n F 3 dX8_layCouple_26 rfl rfl ?_
  refine aw_cVi (stk := [.int y_1, .ref (sdX X 24 15)]) F T.room [.int x1, .int x2] (k_X8_bySounds hP h) mv_X8_bySounds w_1369 cf8 (lo_s rfl) (hP _ rfl) rfl (by decide) rfl rfl (Nat.le_of_ble_eq_true rfl) ⟨(Nat.le_of_ble_eq_true rfl), (Nat.le_of_ble_eq_true rfl)⟩ ⟨(Nat.le_of_ble_eq_true rfl), (Nat.le_of_ble_eq_true rfl)⟩ dX8_layCouple_27 (fun r_6 G_5 h => ?_)
  refine aw_iast F 24 15 (lo_s rfl) (hP _ rfl) rfl h.1 dX8_layCouple_30 ?_
  refine aw_nG (fun G_7 eG_7 => ?_)
  replace h := h.2 G_7 eG_7
  refine aw_al_n F 1 dX8_layCouple_31 rfl rfl ?_
  refine gr8_15 F (lo_s rfl) (hP _ rfl) rfl w_1175 (hP _ rfl) dX8_layCouple_32 ?_
  refine aw_il_n F 0 dX8_layCouple_35 rfl rfl ?_
  refine aw_al_n F 1 dX8_layCouple_36 rfl rfl ?_
  refine aw_ic F dX8_layCouple_37 ic_5 ?_
  refine aw_cVi (stk := [.int y_1, .ref (sdX X 24 16)]) F T.room [.int (5 : Int32)] (k_X8_ruleOf hP h) mv_X8_ruleOf w_1373 cf8 (lo_s rfl) (hP _ rfl) rfl (by decide) rfl rfl (Nat.le_of_ble_eq_true rfl) ⟨(Nat.le_of_ble_eq_true rfl), (Nat.le_of_ble_eq_true rfl)⟩ ⟨(Nat.le_of_ble_eq_true rfl), (Nat.le_of_ble_eq_true rfl)⟩ dX8_layCouple_38 (fun r_9 G_8 h => ?_)
  refine aw_al_n F 1 dX8_layCouple_41 rfl rfl ?_
  refine gr8_14 F (lo_s rfl) (hP _ rfl) rfl w_1174 (hP _ rfl) dX8_layCouple_42 ?_
  refine aw_il_n F 0 dX8_layCouple_45 rfl rfl ?_
  refine aw_iald F 24 15 (lo_s rfl) (hP _ rfl) rfl h.1 dX8_layCouple_46 ?_
  replace h := h.2
  refine aw_imul F dX8_layCouple_47 ?_
  refine aw_bi F dX8_layCouple_48 bi_100 ?_
  refine aw_al_n F 1 dX8_layCouple_50 rfl rfl ?_
  refine aw_ic F dX8_layCouple_51 ic_5 ?_
  refine aw_cVi (stk := [.int (100 : Int32), .int (r_9 * (G_8 24 15 y_1.toNatClampNeg)), .int y_1, .ref (sdX X 24 16)]) F T.room [.int (5 : Int32)] (k_X8_ruleOf hP h) mv_X8_ruleOf w_1373 cf8 (lo_s rfl) (hP _ rfl) rfl (by decide) rfl rfl (Nat.le_of_ble_eq_true rfl) ⟨(Nat.le_of_ble_eq_true rfl), (Nat.le_of_ble_eq_true rfl)⟩ ⟨(Nat.le_of_ble_eq_true rfl), (Nat.le_of_ble_eq_true rfl)⟩ dX8_layCouple_52 (fun r_11 G_10 h => ?_)
  refine aw_isub F dX8_layCouple_55 ?_
  refine aw_al_n F 1 dX8_layCouple_56 rfl rfl ?_
  refine gr8_13 F (lo_s rfl) (hP _ rfl) rfl w_1173 (hP _ rfl) dX8_layCouple_57 ?_
  refine aw_il_n F 0 dX8_layCouple_60 rfl rfl ?_
  refine aw_iald F 24 14 (lo_s rfl) (hP _ rfl) rfl h.1 dX8_layCouple_61 ?_
  replace h := h.2
  refine aw_imul F dX8_layCouple_62 ?_
  refine aw_iadd F dX8_layCouple_63 ?_
  refine aw_bi F dX8_layCouple_64 bi_100 ?_
  refine aw_idiv F dX8_layCouple_66 (by decide) ?_
  refine aw_iast F 24 16 (lo_s rfl) (hP _ rfl) rfl h.1 dX8_layCouple_67 ?_
  refine aw_nG (fun G_12 eG_12 => ?_)
  replace h := h.2 G_12 eG_12
  refine aw_al_n F 1 dX8_layCouple_68 rfl rfl ?_
  refine gr8_16 F (lo_s rfl) (hP _ rfl) rfl w_1176 (hP _ rfl) dX8_layCouple_69 ?_
  refine aw_il_n F 0 dX8_layCouple_72 rfl rfl ?_
  refine aw_al_n F 1 dX8_layCouple_73 rfl rfl ?_
  refine aw_il_n F 2 dX8_layCouple_74 rfl rfl ?_
  refine aw_il_n F 3 dX8_layCouple_75 rfl rfl ?_
  refine aw_cVi (stk := [.int y_1, .ref (sdX X 24 17)]) F T.room [.int x1, .int x2] (k_X8_stepsOf hP h) mv_X8_stepsOf w_1377 cf8 (lo_s rfl) (hP _ rfl) rfl (by decide) rfl rfl (Nat.le_of_ble_eq_true rfl) ⟨(Nat.le_of_ble_eq_true rfl), (Nat.le_of_ble_eq_true rfl)⟩ ⟨(Nat.le_of_ble_eq_true rfl), (Nat.le_of_ble_eq_true rfl)⟩ dX8_layCouple_76 (fun r_14 G_13 h => ?_)
  refine aw_iast F 24 17 (lo_s rfl) (hP _ rfl) rfl h.1 dX8_layCouple_79 ?_
  refine aw_nG (fun G_15 eG_15 => ?_)
  replace h := h.2 G_15 eG_15
  exact aw_vret F T (Nat.le_of_ble_eq_true rfl) (Nat.le_of_ble_eq_true rfl) ⟨rfl, h⟩ dX8_layCouple_80
-- X8_fieldOf (height 2)
def j_X8_fieldOf_50 (post : Int32 → GH → Prop) (P4 : Int32 → Int32 → Int32 → GH → Prop) (v1 v3 s0 : Int32) (G : GH) : Prop :=
  (∀ y_5 : Int32, y_5 = (s0 + (0 : Int32)) → P4 v1 y_5 (v3 + (1 : Int32)) G)
def lb_X8_fieldOf_4 (post : Int32 → GH → Prop) (P4 : Int32 → Int32 → Int32 → GH → Prop) (v1 v2 v3 : Int32) (G : GH) : Prop :=
  wp_X8_marks (fun (r_2 : Int32) (G_1 : GH) => ((r_2 ≤ v3 → post v2 G_1) ∧ (¬ r_2 ≤ v3 → ((v3 = v1 → j_X8_fieldOf_50 post P4 v1 v3 v2 G_1) ∧ (¬ v3 = v1 → wp_X8_areNear (fun (b_7 : Bool) (G_6 : GH) => ((b_7 = false → j_X8_fieldOf_50 post P4 v1 v3 v2 G_6) ∧ (b_7 = true → (vp_in (((13 : Int32) * v1) + v3) 169 ∧ wp_X8_ruleOf (fun (r_10 : Int32) (G_9 : GH) => (((G_6 24 16 (((13 : Int32) * v1) + v3).toNatClampNeg) < r_10 → j_X8_fieldOf_50 post P4 v1 v3 v2 G_9) ∧ (¬ (G_6 24 16 (((13 : Int32) * v1) + v3).toNatClampNeg) < r_10 → (∀ y_12 : Int32, y_12 = (v2 + (1 : Int32)) → P4 v1 y_12 (v3 + (1 : Int32)) G_9)))) (0 : Int32) G_6)))) v1 v3 G_1))))) G
def lp_X8_fieldOf_4 (post : Int32 → GH → Prop) (v1 v2 v3 : Int32) (G : GH) : Prop := ∀ P4 : Int32 → Int32 → Int32 → GH → Prop, (∀ (v1 v2 v3 : Int32) (G : GH), lb_X8_fieldOf_4 post P4 v1 v2 v3 G → P4 v1 v2 v3 G) → P4 v1 v2 v3 G
def wp_X8_fieldOf (post : Int32 → GH → Prop) (x1 : Int32) (G : GH) : Prop :=
  lp_X8_fieldOf_4 post x1 (0 : Int32) (0 : Int32) G
set_option maxRecDepth 100000 in
set_option maxHeartbeats 4000000 in
theorem kj_X8_fieldOf_50 {E : Ev} {X : Cx} {post : Int32 → GH → Prop} {P4 : Int32 → Int32 → Int32 → GH → Prop} {v1 v3 s0 : Int32} {G : GH} (F : Fx E X "MarkFieldModel" cX8_fieldOf 4) (T : RT E X 2 0 0 (some .int) (pI post)) (K4 : ∀ (v1 v2 v3 : Int32) (G : GH), P4 v1 v2 v3 G → AW E X 4 4 [(0, .ref (sdX X 24 0)), (1, .int v1), (2, .int v2), (3, .int v3)] [] G 0 0) (h : j_X8_fieldOf_50 post P4 v1 v3 s0 G) : AW E X 4 50 [(0, .ref (sdX X 24 0)), (1, .int v1), (3, .int v3)] [.int s0] G 0 0 := by
  have hP := F.P
  refine aw_ic F dX8_fieldOf_50 ic_0 ?_
  refine aw_iadd F dX8_fieldOf_51 ?_
  refine aw_top (fun y_5 ey_5 => ?_)
  replace h := h y_5 ey_5
  refine aw_is_n (lv1 := [(2, .int y_5), (0, .ref (sdX X 24 0)), (1, .int v1), (3, .int v3)]) F dX8_fieldOf_52 rfl (by decide) rfl ?_
  refine aw_inc (lv1 := [(3, .int (v3 + (1 : Int32))), (2, .int y_5), (0, .ref (sdX X 24 0)), (1, .int v1)]) F 3 dX8_fieldOf_53 rfl (in_1 _) (by decide) rfl ?_
  refine aw_go (tgt := 4) F dX8_fieldOf_56 (by decide) ?_
  refine aw_sub [2, 3, 1, 0] rfl ?_
  exact K4 _ _ _ _ h
set_option maxRecDepth 100000 in
set_option maxHeartbeats 4000000 in
theorem kl_X8_fieldOf_4 {E : Ev} {X : Cx} {post : Int32 → GH → Prop} {v1 v2 v3 : Int32} {G : GH} (F : Fx E X "MarkFieldModel" cX8_fieldOf 4) (T : RT E X 2 0 0 (some .int) (pI post)) (h : lp_X8_fieldOf_4 post v1 v2 v3 G) : AW E X 4 4 [(0, .ref (sdX X 24 0)), (1, .int v1), (2, .int v2), (3, .int v3)] [] G 0 0 := by
  have hP := F.P
  have K4 : ∀ (v1 v2 v3 : Int32) (G : GH), AW E X 4 4 [(0, .ref (sdX X 24 0)), (1, .int v1), (2, .int v2), (3, .int v3)] [] G 0 0 → AW E X 4 4 [(0, .ref (sdX X 24 0)), (1, .int v1), (2, .int v2), (3, .int v3)] [] G 0 0 := fun _ _ _ _ q => q
  refine h (fun (v1 v2 v3 : Int32) (G : GH) => AW E X 4 4 [(0, .ref (sdX X 24 0)), (1, .int v1), (2, .int v2), (3, .int v3)] [] G 0 0) (fun (v1 v2 v3 : Int32) (G : GH) h => ?_)
  refine aw_il_n F 3 dX8_fieldOf_4 rfl rfl ?_
  refine aw_al_n F 0 dX8_fieldOf_5 rfl rfl ?_
  refine aw_cVi (stk := [.int v3]) F T.room [] (k_X8_marks hP h) mv_X8_marks w_1305 cf8 (lo_s rfl) (hP _ rfl) rfl (by decide) rfl rfl (Nat.le_of_ble_eq_true rfl) ⟨(Nat.le_of_ble_eq_true rfl), (Nat.le_of_ble_eq_true rfl)⟩ ⟨(Nat.le_of_ble_eq_true rfl), (Nat.le_of_ble_eq_true rfl)⟩ dX8_fieldOf_6 (fun r_2 G_1 h => ?_)
  refine aw_icmp_ge (tgt := 59) F dX8_fieldOf_9 (by decide) (fun c_3 => ?_) (fun c_3 => ?_)
  · replace h := h.1 c_3
    refine aw_il_n F 2 dX8_fieldOf_59 rfl rfl ?_
    exact aw_iret F T (Nat.le_of_ble_eq_true rfl) (Nat.le_of_ble_eq_true rfl) ⟨_, rfl, h⟩ dX8_fieldOf_60
  · replace h := h.2 c_3
    refine aw_il_n F 2 dX8_fieldOf_12 rfl rfl ?_
    refine aw_il_n F 3 dX8_fieldOf_13 rfl rfl ?_
    refine aw_il_n F 1 dX8_fieldOf_14 rfl rfl ?_
    refine aw_icmp_eq (tgt := 50) F dX8_fieldOf_15 (by decide) (fun c_4 => ?_) (fun c_4 => ?_)
    · replace h := h.1 c_4
      refine aw_sub [0, 1, 3] rfl ?_
      exact kj_X8_fieldOf_50 F T K4 h
    · replace h := h.2 c_4
      refine aw_al_n F 0 dX8_fieldOf_18 rfl rfl ?_
      refine aw_il_n F 1 dX8_fieldOf_19 rfl rfl ?_
      refine aw_il_n F 3 dX8_fieldOf_20 rfl rfl ?_
      refine aw_cVb (stk := [.int v2]) F T.room [.int v1, .int v3] (k_X8_areNear hP h) mv_X8_areNear w_1392 cf8 (lo_s rfl) (hP _ rfl) rfl (by decide) rfl rfl (Nat.le_of_ble_eq_true rfl) ⟨(Nat.le_of_ble_eq_true rfl), (Nat.le_of_ble_eq_true rfl)⟩ ⟨(Nat.le_of_ble_eq_true rfl), (Nat.le_of_ble_eq_true rfl)⟩ dX8_fieldOf_21 (fun b_7 G_6 h => ?_)
      refine aw_if_eq (tgt := 50) F dX8_fieldOf_24 (by decide) (fun c_8 => ?_) (fun c_8 => ?_)
      · replace h := h.1 (bI_2 c_8)
        refine aw_sub [0, 1, 3] rfl ?_
        exact kj_X8_fieldOf_50 F T K4 h
      · replace h := h.2 (bI_1 c_8)
        refine aw_al_n F 0 dX8_fieldOf_27 rfl rfl ?_
        refine gr8_15 F (lo_s rfl) (hP _ rfl) rfl w_1175 (hP _ rfl) dX8_fieldOf_28 ?_
        refine aw_bi F dX8_fieldOf_31 bi_13 ?_
        refine aw_il_n F 1 dX8_fieldOf_33 rfl rfl ?_
        refine aw_imul F dX8_fieldOf_34 ?_
        refine aw_il_n F 3 dX8_fieldOf_35 rfl rfl ?_
        refine aw_iadd F dX8_fieldOf_36 ?_
        refine aw_iald F 24 16 (lo_s rfl) (hP _ rfl) rfl h.1 dX8_fieldOf_37 ?_
        replace h := h.2
        refine aw_al_n F 0 dX8_fieldOf_38 rfl rfl ?_
        refine aw_ic F dX8_fieldOf_39 ic_0 ?_
        refine aw_cVi (stk := [.int (G_6 24 16 (((13 : Int32) * v1) + v3).toNatClampNeg), .int v2]) F T.room [.int (0 : Int32)] (k_X8_ruleOf hP h) mv_X8_ruleOf w_1373 cf8 (lo_s rfl) (hP _ rfl) rfl (by decide) rfl rfl (Nat.le_of_ble_eq_true rfl) ⟨(Nat.le_of_ble_eq_true rfl), (Nat.le_of_ble_eq_true rfl)⟩ ⟨(Nat.le_of_ble_eq_true rfl), (Nat.le_of_ble_eq_true rfl)⟩ dX8_fieldOf_40 (fun r_10 G_9 h => ?_)
        refine aw_icmp_lt (tgt := 50) F dX8_fieldOf_43 (by decide) (fun c_11 => ?_) (fun c_11 => ?_)
        · replace h := h.1 c_11
          refine aw_sub [0, 1, 3] rfl ?_
          exact kj_X8_fieldOf_50 F T K4 h
        · replace h := h.2 c_11
          refine aw_ic F dX8_fieldOf_46 ic_1 ?_
          refine aw_go (tgt := 51) F dX8_fieldOf_47 (by decide) ?_
          refine aw_iadd F dX8_fieldOf_51 ?_
          refine aw_top (fun y_12 ey_12 => ?_)
          replace h := h y_12 ey_12
          refine aw_is_n (lv1 := [(2, .int y_12), (0, .ref (sdX X 24 0)), (1, .int v1), (3, .int v3)]) F dX8_fieldOf_52 rfl (by decide) rfl ?_
          refine aw_inc (lv1 := [(3, .int (v3 + (1 : Int32))), (2, .int y_12), (0, .ref (sdX X 24 0)), (1, .int v1)]) F 3 dX8_fieldOf_53 rfl (in_1 _) (by decide) rfl ?_
          refine aw_go (tgt := 4) F dX8_fieldOf_56 (by decide) ?_
          refine aw_sub [2, 3, 1, 0] rfl ?_
          exact K4 _ _ _ _ h
set_option maxRecDepth 100000 in
set_option maxHeartbeats 4000000 in
theorem k_X8_fieldOf {l : Launch} {E : Ev} {P : Nat → Prop} {sd : Nat → Nat → Nat} {G : GH} {post : Int32 → GH → Prop} {x1 : Int32} (hPP : ∀ o, stt o = true → P o) (h : wp_X8_fieldOf post x1 G) : Ct l yX8_fieldOf cX8_fieldOf 4 (some .int) 2 0 0 E P sd G [.ref (sd 24 0), .int x1] (pI post) := by
  refine ct_of (own := "MarkFieldModel") (by decide) rfl (Nat.le_of_ble_eq_true rfl) hPP (fun X F T el eP es => ?_)
  subst el; subst eP; subst es
  have hP := F.P
  change AW E X 4 0 [(0, .ref (sdX X 24 0)), (1, .int x1)] [] G 0 0
  refine aw_ic F dX8_fieldOf_0 ic_0 ?_
  refine aw_is_n (lv1 := [(2, .int (0 : Int32)), (0, .ref (sdX X 24 0)), (1, .int x1)]) F dX8_fieldOf_1 rfl (by decide) rfl ?_
  refine aw_ic F dX8_fieldOf_2 ic_0 ?_
  refine aw_is_n (lv1 := [(3, .int (0 : Int32)), (2, .int (0 : Int32)), (0, .ref (sdX X 24 0)), (1, .int x1)]) F dX8_fieldOf_3 rfl (by decide) rfl ?_
  refine aw_sub [2, 3, 1, 0] rfl ?_
  exact kl_X8_fieldOf_4 F T h
-- X8_areAlike (height 2)
def wp_X8_areAlike (post : Bool → GH → Prop) (x1 x2 : Int32) (G : GH) : Prop :=
  wp_X8_ruleOf (fun (r_2 : Int32) (G_1 : GH) => wp_X8_ruleOf (fun (r_4 : Int32) (G_3 : GH) => (vp_in x1 13 ∧ (vp_in x2 13 ∧ (∀ y_5 : Int32, y_5 = (imin (100 : Int32) (r_2 + (r_4 * (imax (G_3 24 19 x1.toNatClampNeg) (G_3 24 19 x2.toNatClampNeg))))) → ((x1 = x2 → post false G_3) ∧ (¬ x1 = x2 → wp_X8_areNear (fun (b_8 : Bool) (G_7 : GH) => ((b_8 = false → post false G_7) ∧ (b_8 = true → (vp_in (((13 : Int32) * x1) + x2) 169 ∧ (((G_7 24 16 (((13 : Int32) * x1) + x2).toNatClampNeg) < y_5 → post false G_7) ∧ (¬ (G_7 24 16 (((13 : Int32) * x1) + x2).toNatClampNeg) < y_5 → post true G_7)))))) x1 x2 G_3)))))) (1 : Int32) G_1) (0 : Int32) G
set_option maxRecDepth 100000 in
set_option maxHeartbeats 4000000 in
theorem k_X8_areAlike {l : Launch} {E : Ev} {P : Nat → Prop} {sd : Nat → Nat → Nat} {G : GH} {post : Bool → GH → Prop} {x1 x2 : Int32} (hPP : ∀ o, stt o = true → P o) (h : wp_X8_areAlike post x1 x2 G) : Ct l yX8_areAlike cX8_areAlike 4 (some .boolean) 2 0 0 E P sd G [.ref (sd 24 0), .int x1, .int x2] (pB post) := by
  refine ct_of (own := "MarkFieldModel") (by decide) rfl (Nat.le_of_ble_eq_true rfl) hPP (fun X F T el eP es => ?_)
  subst el; subst eP; subst es
  have hP := F.P
  change AW E X 4 0 [(0, .ref (sdX X 24 0)), (1, .int x1), (2, .int x2)] [] G 0 0
  refine aw_bi F dX8_areAlike_0 bi_100 ?_
  refine aw_al_n F 0 dX8_areAlike_2 rfl rfl ?_
  refine aw_ic F dX8_areAlike_3 ic_0 ?_
  refine aw_cVi (stk := [.int (100 : Int32)]) F T.room [.int (0 : Int32)] (k_X8_ruleOf hP h) mv_X8_ruleOf w_1373 cf8 (lo_s rfl) (hP _ rfl) rfl (by decide) rfl rfl (Nat.le_of_ble_eq_true rfl) ⟨(Nat.le_of_ble_eq_true rfl), (Nat.le_of_ble_eq_true rfl)⟩ ⟨(Nat.le_of_ble_eq_true rfl), (Nat.le_of_ble_eq_true rfl)⟩ dX8_areAlike_4 (fun r_2 G_1 h => ?_)
  refine aw_al_n F 0 dX8_areAlike_7 rfl rfl ?_
  refine aw_ic F dX8_areAlike_8 ic_1 ?_
  refine aw_cVi (stk := [.int r_2, .int (100 : Int32)]) F T.room [.int (1 : Int32)] (k_X8_ruleOf hP h) mv_X8_ruleOf w_1373 cf8 (lo_s rfl) (hP _ rfl) rfl (by decide) rfl rfl (Nat.le_of_ble_eq_true rfl) ⟨(Nat.le_of_ble_eq_true rfl), (Nat.le_of_ble_eq_true rfl)⟩ ⟨(Nat.le_of_ble_eq_true rfl), (Nat.le_of_ble_eq_true rfl)⟩ dX8_areAlike_9 (fun r_4 G_3 h => ?_)
  refine aw_al_n F 0 dX8_areAlike_12 rfl rfl ?_
  refine gr8_18 F (lo_s rfl) (hP _ rfl) rfl w_1178 (hP _ rfl) dX8_areAlike_13 ?_
  refine aw_il_n F 1 dX8_areAlike_16 rfl rfl ?_
  refine aw_iald F 24 19 (lo_s rfl) (hP _ rfl) rfl h.1 dX8_areAlike_17 ?_
  replace h := h.2
  refine aw_al_n F 0 dX8_areAlike_18 rfl rfl ?_
  refine gr8_18 F (lo_s rfl) (hP _ rfl) rfl w_1178 (hP _ rfl) dX8_areAlike_19 ?_
  refine aw_il_n F 2 dX8_areAlike_22 rfl rfl ?_
  refine aw_iald F 24 19 (lo_s rfl) (hP _ rfl) rfl h.1 dX8_areAlike_23 ?_
  replace h := h.2
  refine aw_max F T.room w_1349 w_670 w_16 w_671 (Nat.le_of_ble_eq_true rfl) (Nat.le_of_ble_eq_true rfl) ⟨(Nat.le_of_ble_eq_true rfl), (Nat.le_of_ble_eq_true rfl)⟩ dX8_areAlike_24 ?_
  refine aw_imul F dX8_areAlike_27 ?_
  refine aw_iadd F dX8_areAlike_28 ?_
  refine aw_min F T.room w_1355 w_479 w_16 w_480 (Nat.le_of_ble_eq_true rfl) (Nat.le_of_ble_eq_true rfl) ⟨(Nat.le_of_ble_eq_true rfl), (Nat.le_of_ble_eq_true rfl)⟩ dX8_areAlike_29 ?_
  refine aw_top (fun y_5 ey_5 => ?_)
  replace h := h y_5 ey_5
  refine aw_is_n (lv1 := [(3, .int y_5), (0, .ref (sdX X 24 0)), (1, .int x1), (2, .int x2)]) F dX8_areAlike_32 rfl (by decide) rfl ?_
  refine aw_il_n F 2 dX8_areAlike_33 rfl rfl ?_
  refine aw_il_n F 3 dX8_areAlike_34 rfl rfl ?_
  refine aw_icmp_eq (tgt := 66) F dX8_areAlike_35 (by decide) (fun c_6 => ?_) (fun c_6 => ?_)
  · replace h := h.1 c_6
    refine aw_ic F dX8_areAlike_66 ic_0 ?_
    exact aw_zret F T false rfl (Nat.le_of_ble_eq_true rfl) (Nat.le_of_ble_eq_true rfl) ⟨_, rfl, h⟩ dX8_areAlike_67
  · replace h := h.2 c_6
    refine aw_al_n F 1 dX8_areAlike_38 rfl rfl ?_
    refine aw_il_n F 2 dX8_areAlike_39 rfl rfl ?_
    refine aw_il_n F 3 dX8_areAlike_40 rfl rfl ?_
    refine aw_cVb (stk := []) F T.room [.int x1, .int x2] (k_X8_areNear hP h) mv_X8_areNear w_1392 cf8 (lo_s rfl) (hP _ rfl) rfl (by decide) rfl rfl (Nat.le_of_ble_eq_true rfl) ⟨(Nat.le_of_ble_eq_true rfl), (Nat.le_of_ble_eq_true rfl)⟩ ⟨(Nat.le_of_ble_eq_true rfl), (Nat.le_of_ble_eq_true rfl)⟩ dX8_areAlike_41 (fun b_8 G_7 h => ?_)
    refine aw_if_eq (tgt := 66) F dX8_areAlike_44 (by decide) (fun c_9 => ?_) (fun c_9 => ?_)
    · replace h := h.1 (bI_2 c_9)
      refine aw_ic F dX8_areAlike_66 ic_0 ?_
      exact aw_zret F T false rfl (Nat.le_of_ble_eq_true rfl) (Nat.le_of_ble_eq_true rfl) ⟨_, rfl, h⟩ dX8_areAlike_67
    · replace h := h.2 (bI_1 c_9)
      refine aw_al_n F 1 dX8_areAlike_47 rfl rfl ?_
      refine gr8_15 F (lo_s rfl) (hP _ rfl) rfl w_1175 (hP _ rfl) dX8_areAlike_48 ?_
      refine aw_bi F dX8_areAlike_51 bi_13 ?_
      refine aw_il_n F 2 dX8_areAlike_53 rfl rfl ?_
      refine aw_imul F dX8_areAlike_54 ?_
      refine aw_il_n F 3 dX8_areAlike_55 rfl rfl ?_
      refine aw_iadd F dX8_areAlike_56 ?_
      refine aw_iald F 24 16 (lo_s rfl) (hP _ rfl) rfl h.1 dX8_areAlike_57 ?_
      replace h := h.2
      refine aw_il_n F 0 dX8_areAlike_58 rfl rfl ?_
      refine aw_icmp_lt (tgt := 66) F dX8_areAlike_59 (by decide) (fun c_10 => ?_) (fun c_10 => ?_)
      · replace h := h.1 c_10
        refine aw_ic F dX8_areAlike_66 ic_0 ?_
        exact aw_zret F T false rfl (Nat.le_of_ble_eq_true rfl) (Nat.le_of_ble_eq_true rfl) ⟨_, rfl, h⟩ dX8_areAlike_67
      · replace h := h.2 c_10
        refine aw_ic F dX8_areAlike_62 ic_1 ?_
        refine aw_go (tgt := 67) F dX8_areAlike_63 (by decide) ?_
        exact aw_zret F T true rfl (Nat.le_of_ble_eq_true rfl) (Nat.le_of_ble_eq_true rfl) ⟨_, rfl, h⟩ dX8_areAlike_67
-- X8_lay (height 7)
def lb_X8_lay_140 (post : GH → Prop) (P123 : Int32 → GH → Prop) (P140 : Int32 → Int32 → GH → Prop) (v1 v2 : Int32) (G : GH) : Prop :=
  wp_X8_marks (fun (r_17 : Int32) (G_16 : GH) => ((r_17 ≤ v2 → P123 (v1 + (1 : Int32)) G_16) ∧ (¬ r_17 ≤ v2 → wp_X8_areAlike (fun (b_20 : Bool) (G_19 : GH) => ((b_20 = false → P140 v1 (v2 + (1 : Int32)) G_19) ∧ (b_20 = true → (vp_in v1 13 ∧ (vp_in v1 13 ∧ (∀ G_22 : GH, G_22 = gs G_19 24 20 (upd (G_19 24 20) v1.toNatClampNeg ((G_19 24 20 v1.toNatClampNeg) ||| ((1 : Int32) <<< (v2 &&& 31)))) → P140 v1 (v2 + (1 : Int32)) G_22)))))) v1 v2 G_16))) G
def lp_X8_lay_140 (post : GH → Prop) (P123 : Int32 → GH → Prop) (v1 v2 : Int32) (G : GH) : Prop := ∀ P140 : Int32 → Int32 → GH → Prop, (∀ (v1 v2 : Int32) (G : GH), lb_X8_lay_140 post P123 P140 v1 v2 G → P140 v1 v2 G) → P140 v1 v2 G
def lb_X8_lay_123 (post : GH → Prop) (P123 : Int32 → GH → Prop) (v1 : Int32) (G : GH) : Prop :=
  wp_X8_marks (fun (r_13 : Int32) (G_12 : GH) => ((r_13 ≤ v1 → post G_12) ∧ (¬ r_13 ≤ v1 → (vp_in v1 13 ∧ (∀ G_15 : GH, G_15 = gs G_12 24 20 (upd (G_12 24 20) v1.toNatClampNeg (0 : Int32)) → lp_X8_lay_140 post P123 v1 (0 : Int32) G_15))))) G
def lp_X8_lay_123 (post : GH → Prop) (v1 : Int32) (G : GH) : Prop := ∀ P123 : Int32 → GH → Prop, (∀ (v1 : Int32) (G : GH), lb_X8_lay_123 post P123 v1 G → P123 v1 G) → P123 v1 G
def lb_X8_lay_74 (post : GH → Prop) (P74 : Int32 → GH → Prop) (v1 : Int32) (G : GH) : Prop :=
  wp_X8_marks (fun (r_10 : Int32) (G_9 : GH) => ((r_10 ≤ v1 → lp_X8_lay_123 post (0 : Int32) G_9) ∧ (¬ r_10 ≤ v1 → wp_X8_fieldOf (fun (r_24 : Int32) (G_23 : GH) => (vp_in v1 13 ∧ (∀ G_25 : GH, G_25 = gs G_23 24 18 (upd (G_23 24 18) v1.toNatClampNeg r_24) → (vp_in v1 13 ∧ wp_X8_ruleOf (fun (r_27 : Int32) (G_26 : GH) => (vp_in v1 13 ∧ (∀ G_28 : GH, G_28 = gs G_26 24 19 (upd (G_26 24 19) v1.toNatClampNeg (imax (0 : Int32) ((G_25 24 18 v1.toNatClampNeg) - r_27))) → P74 (v1 + (1 : Int32)) G_28))) (2 : Int32) G_25)))) v1 G_9))) G
def lp_X8_lay_74 (post : GH → Prop) (v1 : Int32) (G : GH) : Prop := ∀ P74 : Int32 → GH → Prop, (∀ (v1 : Int32) (G : GH), lb_X8_lay_74 post P74 v1 G → P74 v1 G) → P74 v1 G
def lb_X8_lay_46 (post : GH → Prop) (P36 : Int32 → GH → Prop) (P46 : Int32 → Int32 → GH → Prop) (v1 v2 : Int32) (G : GH) : Prop :=
  wp_X8_marks (fun (r_30 : Int32) (G_29 : GH) => ((r_30 ≤ v2 → P36 (v1 + (1 : Int32)) G_29) ∧ (¬ r_30 ≤ v2 → wp_X8_layCouple (fun (G_32 : GH) => P46 v1 (v2 + (1 : Int32)) G_32) v1 v2 G_29))) G
def lp_X8_lay_46 (post : GH → Prop) (P36 : Int32 → GH → Prop) (v1 v2 : Int32) (G : GH) : Prop := ∀ P46 : Int32 → Int32 → GH → Prop, (∀ (v1 v2 : Int32) (G : GH), lb_X8_lay_46 post P36 P46 v1 v2 G → P46 v1 v2 G) → P46 v1 v2 G
def lb_X8_lay_36 (post : GH → Prop) (P36 : Int32 → GH → Prop) (v1 : Int32) (G : GH) : Prop :=
  wp_X8_marks (fun (r_7 : Int32) (G_6 : GH) => ((r_7 ≤ v1 → lp_X8_lay_74 post (0 : Int32) G_6) ∧ (¬ r_7 ≤ v1 → lp_X8_lay_46 post P36 v1 (0 : Int32) G_6))) G
def lp_X8_lay_36 (post : GH → Prop) (v1 : Int32) (G : GH) : Prop := ∀ P36 : Int32 → GH → Prop, (∀ (v1 : Int32) (G : GH), lb_X8_lay_36 post P36 v1 G → P36 v1 G) → P36 v1 G
def lb_X8_lay_15 (post : GH → Prop) (P15 : Int32 → GH → Prop) (v1 : Int32) (G : GH) : Prop :=
  wp_X8_marks (fun (r_4 : Int32) (G_3 : GH) => ((r_4 ≤ v1 → lp_X8_lay_36 post (0 : Int32) G_3) ∧ (¬ r_4 ≤ v1 → wp_X8_laySounds (fun (G_34 : GH) => P15 (v1 + (1 : Int32)) G_34) v1 G_3))) G
def lp_X8_lay_15 (post : GH → Prop) (v1 : Int32) (G : GH) : Prop := ∀ P15 : Int32 → GH → Prop, (∀ (v1 : Int32) (G : GH), lb_X8_lay_15 post P15 v1 G → P15 v1 G) → P15 v1 G
def wp_X8_lay (post : GH → Prop) (G : GH) : Prop :=
  (((G 24 0 7) = 0 → (∀ G_2 : GH, G_2 = gs G 24 0 (upd (G 24 0) 7 (1 : Int32)) → lp_X8_lay_15 post (0 : Int32) G_2)) ∧ (¬ (G 24 0 7) = 0 → post G))
set_option maxRecDepth 100000 in
set_option maxHeartbeats 4000000 in
theorem kl_X8_lay_140 {E : Ev} {X : Cx} {post : GH → Prop} {P123 : Int32 → GH → Prop} {v1 v2 : Int32} {G : GH} (F : Fx E X "MarkFieldModel" cX8_lay 3) (T : RT E X 7 0 0 none (pV post)) (K123 : ∀ (v1 : Int32) (G : GH), P123 v1 G → AW E X 3 123 [(0, .ref (sdX X 24 0)), (1, .int v1)] [] G 0 0) (h : lp_X8_lay_140 post P123 v1 v2 G) : AW E X 3 140 [(0, .ref (sdX X 24 0)), (1, .int v1), (2, .int v2)] [] G 0 0 := by
  have hP := F.P
  have K140 : ∀ (v1 v2 : Int32) (G : GH), AW E X 3 140 [(0, .ref (sdX X 24 0)), (1, .int v1), (2, .int v2)] [] G 0 0 → AW E X 3 140 [(0, .ref (sdX X 24 0)), (1, .int v1), (2, .int v2)] [] G 0 0 := fun _ _ _ q => q
  refine h (fun (v1 v2 : Int32) (G : GH) => AW E X 3 140 [(0, .ref (sdX X 24 0)), (1, .int v1), (2, .int v2)] [] G 0 0) (fun (v1 v2 : Int32) (G : GH) h => ?_)
  refine aw_il_n F 2 dX8_lay_140 rfl rfl ?_
  refine aw_al_n F 0 dX8_lay_141 rfl rfl ?_
  refine aw_cVi (stk := [.int v2]) F T.room [] (k_X8_marks hP h) mv_X8_marks w_1305 cf8 (lo_s rfl) (hP _ rfl) rfl (by decide) rfl rfl (Nat.le_of_ble_eq_true rfl) ⟨(Nat.le_of_ble_eq_true rfl), (Nat.le_of_ble_eq_true rfl)⟩ ⟨(Nat.le_of_ble_eq_true rfl), (Nat.le_of_ble_eq_true rfl)⟩ dX8_lay_142 (fun r_17 G_16 h => ?_)
  refine aw_icmp_ge (tgt := 175) F dX8_lay_145 (by decide) (fun c_18 => ?_) (fun c_18 => ?_)
  · replace h := h.1 c_18
    refine aw_inc (lv1 := [(1, .int (v1 + (1 : Int32))), (0, .ref (sdX X 24 0)), (2, .int v2)]) F 1 dX8_lay_175 rfl (in_1 _) (by decide) rfl ?_
    refine aw_go (tgt := 123) F dX8_lay_178 (by decide) ?_
    refine aw_sub [1, 0] rfl ?_
    exact K123 _ _ h
  · replace h := h.2 c_18
    refine aw_al_n F 0 dX8_lay_148 rfl rfl ?_
    refine aw_il_n F 1 dX8_lay_149 rfl rfl ?_
    refine aw_il_n F 2 dX8_lay_150 rfl rfl ?_
    refine aw_cVb (stk := []) F T.room [.int v1, .int v2] (k_X8_areAlike hP h) mv_X8_areAlike w_1396 cf8 (lo_s rfl) (hP _ rfl) rfl (by decide) rfl rfl (Nat.le_of_ble_eq_true rfl) ⟨(Nat.le_of_ble_eq_true rfl), (Nat.le_of_ble_eq_true rfl)⟩ ⟨(Nat.le_of_ble_eq_true rfl), (Nat.le_of_ble_eq_true rfl)⟩ dX8_lay_151 (fun b_20 G_19 h => ?_)
    refine aw_if_eq (tgt := 169) F dX8_lay_154 (by decide) (fun c_21 => ?_) (fun c_21 => ?_)
    · replace h := h.1 (bI_2 c_21)
      refine aw_inc (lv1 := [(2, .int (v2 + (1 : Int32))), (0, .ref (sdX X 24 0)), (1, .int v1)]) F 2 dX8_lay_169 rfl (in_1 _) (by decide) rfl ?_
      refine aw_go (tgt := 140) F dX8_lay_172 (by decide) ?_
      refine aw_sub [1, 2, 0] rfl ?_
      exact K140 _ _ _ h
    · replace h := h.2 (bI_1 c_21)
      refine aw_al_n F 0 dX8_lay_157 rfl rfl ?_
      refine gr8_19 F (lo_s rfl) (hP _ rfl) rfl w_1179 (hP _ rfl) dX8_lay_158 ?_
      refine aw_il_n F 1 dX8_lay_161 rfl rfl ?_
      refine aw_dup2 F dX8_lay_162 rfl rfl ?_
      refine aw_iald F 24 20 (lo_s rfl) (hP _ rfl) rfl h.1 dX8_lay_163 ?_
      replace h := h.2
      refine aw_ic F dX8_lay_164 ic_1 ?_
      refine aw_il_n F 2 dX8_lay_165 rfl rfl ?_
      refine aw_ishl F dX8_lay_166 ?_
      refine aw_ior F dX8_lay_167 ?_
      refine aw_iast F 24 20 (lo_s rfl) (hP _ rfl) rfl h.1 dX8_lay_168 ?_
      refine aw_nG (fun G_22 eG_22 => ?_)
      replace h := h.2 G_22 eG_22
      refine aw_inc (lv1 := [(2, .int (v2 + (1 : Int32))), (0, .ref (sdX X 24 0)), (1, .int v1)]) F 2 dX8_lay_169 rfl (in_1 _) (by decide) rfl ?_
      refine aw_go (tgt := 140) F dX8_lay_172 (by decide) ?_
      refine aw_sub [1, 2, 0] rfl ?_
      exact K140 _ _ _ h
set_option maxRecDepth 100000 in
set_option maxHeartbeats 4000000 in
theorem kl_X8_lay_123 {E : Ev} {X : Cx} {post : GH → Prop} {v1 : Int32} {G : GH} (F : Fx E X "MarkFieldModel" cX8_lay 3) (T : RT E X 7 0 0 none (pV post)) (h : lp_X8_lay_123 post v1 G) : AW E X 3 123 [(0, .ref (sdX X 24 0)), (1, .int v1)] [] G 0 0 := by
  have hP := F.P
  have K123 : ∀ (v1 : Int32) (G : GH), AW E X 3 123 [(0, .ref (sdX X 24 0)), (1, .int v1)] [] G 0 0 → AW E X 3 123 [(0, .ref (sdX X 24 0)), (1, .int v1)] [] G 0 0 := fun _ _ q => q
  refine h (fun (v1 : Int32) (G : GH) => AW E X 3 123 [(0, .ref (sdX X 24 0)), (1, .int v1)] [] G 0 0) (fun (v1 : Int32) (G : GH) h => ?_)
  refine aw_il_n F 1 dX8_lay_123 rfl rfl ?_
  refine aw_al_n F 0 dX8_lay_124 rfl rfl ?_
  refine aw_cVi (stk := [.int v1]) F T.room [] (k_X8_marks hP h) mv_X8_marks w_1305 cf8 (lo_s rfl) (hP _ rfl) rfl (by decide) rfl rfl (Nat.le_of_ble_eq_true rfl) ⟨(Nat.le_of_ble_eq_true rfl), (Nat.le_of_ble_eq_true rfl)⟩ ⟨(Nat.le_of_ble_eq_true rfl), (Nat.le_of_ble_eq_true rfl)⟩ dX8_lay_125 (fun r_13 G_12 h => ?_)
  refine aw_icmp_ge (tgt := 181) F dX8_lay_128 (by decide) (fun c_14 => ?_) (fun c_14 => ?_)
  · replace h := h.1 c_14
    exact aw_vret F T (Nat.le_of_ble_eq_true rfl) (Nat.le_of_ble_eq_true rfl) ⟨rfl, h⟩ dX8_lay_181
  · replace h := h.2 c_14
    refine aw_al_n F 0 dX8_lay_131 rfl rfl ?_
    refine gr8_19 F (lo_s rfl) (hP _ rfl) rfl w_1179 (hP _ rfl) dX8_lay_132 ?_
    refine aw_il_n F 1 dX8_lay_135 rfl rfl ?_
    refine aw_ic F dX8_lay_136 ic_0 ?_
    refine aw_iast F 24 20 (lo_s rfl) (hP _ rfl) rfl h.1 dX8_lay_137 ?_
    refine aw_nG (fun G_15 eG_15 => ?_)
    replace h := h.2 G_15 eG_15
    refine aw_ic F dX8_lay_138 ic_0 ?_
    refine aw_is_n (lv1 := [(2, .int (0 : Int32)), (0, .ref (sdX X 24 0)), (1, .int v1)]) F dX8_lay_139 rfl (by decide) rfl ?_
    refine aw_sub [1, 2, 0] rfl ?_
    exact kl_X8_lay_140 F T K123 h
set_option maxRecDepth 100000 in
set_option maxHeartbeats 4000000 in
theorem kl_X8_lay_74 {E : Ev} {X : Cx} {post : GH → Prop} {v1 : Int32} {G : GH} (F : Fx E X "MarkFieldModel" cX8_lay 3) (T : RT E X 7 0 0 none (pV post)) (h : lp_X8_lay_74 post v1 G) : AW E X 3 74 [(0, .ref (sdX X 24 0)), (1, .int v1)] [] G 0 0 := by
  have hP := F.P
  have K74 : ∀ (v1 : Int32) (G : GH), AW E X 3 74 [(0, .ref (sdX X 24 0)), (1, .int v1)] [] G 0 0 → AW E X 3 74 [(0, .ref (sdX X 24 0)), (1, .int v1)] [] G 0 0 := fun _ _ q => q
  refine h (fun (v1 : Int32) (G : GH) => AW E X 3 74 [(0, .ref (sdX X 24 0)), (1, .int v1)] [] G 0 0) (fun (v1 : Int32) (G : GH) h => ?_)
  refine aw_il_n F 1 dX8_lay_74 rfl rfl ?_
  refine aw_al_n F 0 dX8_lay_75 rfl rfl ?_
  refine aw_cVi (stk := [.int v1]) F T.room [] (k_X8_marks hP h) mv_X8_marks w_1305 cf8 (lo_s rfl) (hP _ rfl) rfl (by decide) rfl rfl (Nat.le_of_ble_eq_true rfl) ⟨(Nat.le_of_ble_eq_true rfl), (Nat.le_of_ble_eq_true rfl)⟩ ⟨(Nat.le_of_ble_eq_true rfl), (Nat.le_of_ble_eq_true rfl)⟩ dX8_lay_76 (fun r_10 G_9 h => ?_)
  refine aw_icmp_ge (tgt := 121) F dX8_lay_79 (by decide) (fun c_11 => ?_) (fun c_11 => ?_)
  · replace h := h.1 c_11
    refine aw_ic F dX8_lay_121 ic_0 ?_
    refine aw_is_n (lv1 := [(1, .int (0 : Int32)), (0, .ref (sdX X 24 0))]) F dX8_lay_122 rfl (by decide) rfl ?_
    refine aw_sub [1, 0] rfl ?_
    exact kl_X8_lay_123 F T h
  · replace h := h.2 c_11
    refine aw_al_n F 0 dX8_lay_82 rfl rfl ?_
    refine gr8_17 F (lo_s rfl) (hP _ rfl) rfl w_1177 (hP _ rfl) dX8_lay_83 ?_
    refine aw_il_n F 1 dX8_lay_86 rfl rfl ?_
    refine aw_al_n F 0 dX8_lay_87 rfl rfl ?_
    refine aw_il_n F 1 dX8_lay_88 rfl rfl ?_
    refine aw_cVi (stk := [.int v1, .ref (sdX X 24 18)]) F T.room [.int v1] (k_X8_fieldOf hP h) mv_X8_fieldOf w_1388 cf8 (lo_s rfl) (hP _ rfl) rfl (by decide) rfl rfl (Nat.le_of_ble_eq_true rfl) ⟨(Nat.le_of_ble_eq_true rfl), (Nat.le_of_ble_eq_true rfl)⟩ ⟨(Nat.le_of_ble_eq_true rfl), (Nat.le_of_ble_eq_true rfl)⟩ dX8_lay_89 (fun r_24 G_23 h => ?_)
    refine aw_iast F 24 18 (lo_s rfl) (hP _ rfl) rfl h.1 dX8_lay_92 ?_
    refine aw_nG (fun G_25 eG_25 => ?_)
    replace h := h.2 G_25 eG_25
    refine aw_al_n F 0 dX8_lay_93 rfl rfl ?_
    refine gr8_18 F (lo_s rfl) (hP _ rfl) rfl w_1178 (hP _ rfl) dX8_lay_94 ?_
    refine aw_il_n F 1 dX8_lay_97 rfl rfl ?_
    refine aw_ic F dX8_lay_98 ic_0 ?_
    refine aw_al_n F 0 dX8_lay_99 rfl rfl ?_
    refine gr8_17 F (lo_s rfl) (hP _ rfl) rfl w_1177 (hP _ rfl) dX8_lay_100 ?_
    refine aw_il_n F 1 dX8_lay_103 rfl rfl ?_
    refine aw_iald F 24 18 (lo_s rfl) (hP _ rfl) rfl h.1 dX8_lay_104 ?_
    replace h := h.2
    refine aw_al_n F 0 dX8_lay_105 rfl rfl ?_
    refine aw_ic F dX8_lay_106 ic_2 ?_
    refine aw_cVi (stk := [.int (G_25 24 18 v1.toNatClampNeg), .int (0 : Int32), .int v1, .ref (sdX X 24 19)]) F T.room [.int (2 : Int32)] (k_X8_ruleOf hP h) mv_X8_ruleOf w_1373 cf8 (lo_s rfl) (hP _ rfl) rfl (by decide) rfl rfl (Nat.le_of_ble_eq_true rfl) ⟨(Nat.le_of_ble_eq_true rfl), (Nat.le_of_ble_eq_true rfl)⟩ ⟨(Nat.le_of_ble_eq_true rfl), (Nat.le_of_ble_eq_true rfl)⟩ dX8_lay_107 (fun r_27 G_26 h => ?_)
    refine aw_isub F dX8_lay_110 ?_
    refine aw_max F T.room w_1349 w_670 w_16 w_671 (Nat.le_of_ble_eq_true rfl) (Nat.le_of_ble_eq_true rfl) ⟨(Nat.le_of_ble_eq_true rfl), (Nat.le_of_ble_eq_true rfl)⟩ dX8_lay_111 ?_
    refine aw_iast F 24 19 (lo_s rfl) (hP _ rfl) rfl h.1 dX8_lay_114 ?_
    refine aw_nG (fun G_28 eG_28 => ?_)
    replace h := h.2 G_28 eG_28
    refine aw_inc (lv1 := [(1, .int (v1 + (1 : Int32))), (0, .ref (sdX X 24 0))]) F 1 dX8_lay_115 rfl (in_1 _) (by decide) rfl ?_
    refine aw_go (tgt := 74) F dX8_lay_118 (by decide) ?_
    refine aw_sub [1, 0] rfl ?_
    exact K74 _ _ h
set_option maxRecDepth 100000 in
set_option maxHeartbeats 4000000 in
theorem kl_X8_lay_46 {E : Ev} {X : Cx} {post : GH → Prop} {P36 : Int32 → GH → Prop} {v1 v2 : Int32} {G : GH} (F : Fx E X "MarkFieldModel" cX8_lay 3) (T : RT E X 7 0 0 none (pV post)) (K36 : ∀ (v1 : Int32) (G : GH), P36 v1 G → AW E X 3 36 [(0, .ref (sdX X 24 0)), (1, .int v1)] [] G 0 0) (h : lp_X8_lay_46 post P36 v1 v2 G) : AW E X 3 46 [(0, .ref (sdX X 24 0)), (1, .int v1), (2, .int v2)] [] G 0 0 := by
  have hP := F.P
  have K46 : ∀ (v1 v2 : Int32) (G : GH), AW E X 3 46 [(0, .ref (sdX X 24 0)), (1, .int v1), (2, .int v2)] [] G 0 0 → AW E X 3 46 [(0, .ref (sdX X 24 0)), (1, .int v1), (2, .int v2)] [] G 0 0 := fun _ _ _ q => q
  refine h (fun (v1 v2 : Int32) (G : GH) => AW E X 3 46 [(0, .ref (sdX X 24 0)), (1, .int v1), (2, .int v2)] [] G 0 0) (fun (v1 v2 : Int32) (G : GH) h => ?_)
  refine aw_il_n F 2 dX8_lay_46 rfl rfl ?_
  refine aw_al_n F 0 dX8_lay_47 rfl rfl ?_
  refine aw_cVi (stk := [.int v2]) F T.room [] (k_X8_marks hP h) mv_X8_marks w_1305 cf8 (lo_s rfl) (hP _ rfl) rfl (by decide) rfl rfl (Nat.le_of_ble_eq_true rfl) ⟨(Nat.le_of_ble_eq_true rfl), (Nat.le_of_ble_eq_true rfl)⟩ ⟨(Nat.le_of_ble_eq_true rfl), (Nat.le_of_ble_eq_true rfl)⟩ dX8_lay_48 (fun r_30 G_29 h => ?_)
  refine aw_icmp_ge (tgt := 66) F dX8_lay_51 (by decide) (fun c_31 => ?_) (fun c_31 => ?_)
  · replace h := h.1 c_31
    refine aw_inc (lv1 := [(1, .int (v1 + (1 : Int32))), (0, .ref (sdX X 24 0)), (2, .int v2)]) F 1 dX8_lay_66 rfl (in_1 _) (by decide) rfl ?_
    refine aw_go (tgt := 36) F dX8_lay_69 (by decide) ?_
    refine aw_sub [1, 0] rfl ?_
    exact K36 _ _ h
  · replace h := h.2 c_31
    refine aw_al_n F 0 dX8_lay_54 rfl rfl ?_
    refine aw_il_n F 1 dX8_lay_55 rfl rfl ?_
    refine aw_il_n F 2 dX8_lay_56 rfl rfl ?_
    refine aw_cVv (stk := []) F T.room [.int v1, .int v2] (k_X8_layCouple hP h) mv_X8_layCouple w_1337 cf8 (lo_s rfl) (hP _ rfl) rfl (by decide) rfl rfl (Nat.le_of_ble_eq_true rfl) ⟨(Nat.le_of_ble_eq_true rfl), (Nat.le_of_ble_eq_true rfl)⟩ ⟨(Nat.le_of_ble_eq_true rfl), (Nat.le_of_ble_eq_true rfl)⟩ dX8_lay_57 (fun G_32 h => ?_)
    refine aw_inc (lv1 := [(2, .int (v2 + (1 : Int32))), (0, .ref (sdX X 24 0)), (1, .int v1)]) F 2 dX8_lay_60 rfl (in_1 _) (by decide) rfl ?_
    refine aw_go (tgt := 46) F dX8_lay_63 (by decide) ?_
    refine aw_sub [1, 2, 0] rfl ?_
    exact K46 _ _ _ h
set_option maxRecDepth 100000 in
set_option maxHeartbeats 4000000 in
theorem kl_X8_lay_36 {E : Ev} {X : Cx} {post : GH → Prop} {v1 : Int32} {G : GH} (F : Fx E X "MarkFieldModel" cX8_lay 3) (T : RT E X 7 0 0 none (pV post)) (h : lp_X8_lay_36 post v1 G) : AW E X 3 36 [(0, .ref (sdX X 24 0)), (1, .int v1)] [] G 0 0 := by
  have hP := F.P
  have K36 : ∀ (v1 : Int32) (G : GH), AW E X 3 36 [(0, .ref (sdX X 24 0)), (1, .int v1)] [] G 0 0 → AW E X 3 36 [(0, .ref (sdX X 24 0)), (1, .int v1)] [] G 0 0 := fun _ _ q => q
  refine h (fun (v1 : Int32) (G : GH) => AW E X 3 36 [(0, .ref (sdX X 24 0)), (1, .int v1)] [] G 0 0) (fun (v1 : Int32) (G : GH) h => ?_)
  refine aw_il_n F 1 dX8_lay_36 rfl rfl ?_
  refine aw_al_n F 0 dX8_lay_37 rfl rfl ?_
  refine aw_cVi (stk := [.int v1]) F T.room [] (k_X8_marks hP h) mv_X8_marks w_1305 cf8 (lo_s rfl) (hP _ rfl) rfl (by decide) rfl rfl (Nat.le_of_ble_eq_true rfl) ⟨(Nat.le_of_ble_eq_true rfl), (Nat.le_of_ble_eq_true rfl)⟩ ⟨(Nat.le_of_ble_eq_true rfl), (Nat.le_of_ble_eq_true rfl)⟩ dX8_lay_38 (fun r_7 G_6 h => ?_)
  refine aw_icmp_ge (tgt := 72) F dX8_lay_41 (by decide) (fun c_8 => ?_) (fun c_8 => ?_)
  · replace h := h.1 c_8
    refine aw_ic F dX8_lay_72 ic_0 ?_
    refine aw_is_n (lv1 := [(1, .int (0 : Int32)), (0, .ref (sdX X 24 0))]) F dX8_lay_73 rfl (by decide) rfl ?_
    refine aw_sub [1, 0] rfl ?_
    exact kl_X8_lay_74 F T h
  · replace h := h.2 c_8
    refine aw_ic F dX8_lay_44 ic_0 ?_
    refine aw_is_n (lv1 := [(2, .int (0 : Int32)), (0, .ref (sdX X 24 0)), (1, .int v1)]) F dX8_lay_45 rfl (by decide) rfl ?_
    refine aw_sub [1, 2, 0] rfl ?_
    exact kl_X8_lay_46 F T K36 h
set_option maxRecDepth 100000 in
set_option maxHeartbeats 4000000 in
theorem kl_X8_lay_15 {E : Ev} {X : Cx} {post : GH → Prop} {v1 : Int32} {G : GH} (F : Fx E X "MarkFieldModel" cX8_lay 3) (T : RT E X 7 0 0 none (pV post)) (h : lp_X8_lay_15 post v1 G) : AW E X 3 15 [(0, .ref (sdX X 24 0)), (1, .int v1)] [] G 0 0 := by
  have hP := F.P
  have K15 : ∀ (v1 : Int32) (G : GH), AW E X 3 15 [(0, .ref (sdX X 24 0)), (1, .int v1)] [] G 0 0 → AW E X 3 15 [(0, .ref (sdX X 24 0)), (1, .int v1)] [] G 0 0 := fun _ _ q => q
  refine h (fun (v1 : Int32) (G : GH) => AW E X 3 15 [(0, .ref (sdX X 24 0)), (1, .int v1)] [] G 0 0) (fun (v1 : Int32) (G : GH) h => ?_)
  refine aw_il_n F 1 dX8_lay_15 rfl rfl ?_
  refine aw_al_n F 0 dX8_lay_16 rfl rfl ?_
  refine aw_cVi (stk := [.int v1]) F T.room [] (k_X8_marks hP h) mv_X8_marks w_1305 cf8 (lo_s rfl) (hP _ rfl) rfl (by decide) rfl rfl (Nat.le_of_ble_eq_true rfl) ⟨(Nat.le_of_ble_eq_true rfl), (Nat.le_of_ble_eq_true rfl)⟩ ⟨(Nat.le_of_ble_eq_true rfl), (Nat.le_of_ble_eq_true rfl)⟩ dX8_lay_17 (fun r_4 G_3 h => ?_)
  refine aw_icmp_ge (tgt := 34) F dX8_lay_20 (by decide) (fun c_5 => ?_) (fun c_5 => ?_)
  · replace h := h.1 c_5
    refine aw_ic F dX8_lay_34 ic_0 ?_
    refine aw_is_n (lv1 := [(1, .int (0 : Int32)), (0, .ref (sdX X 24 0))]) F dX8_lay_35 rfl (by decide) rfl ?_
    refine aw_sub [1, 0] rfl ?_
    exact kl_X8_lay_36 F T h
  · replace h := h.2 c_5
    refine aw_al_n F 0 dX8_lay_23 rfl rfl ?_
    refine aw_il_n F 1 dX8_lay_24 rfl rfl ?_
    refine aw_cVv (stk := []) F T.room [.int v1] (k_X8_laySounds hP h) mv_X8_laySounds w_1309 cf8 (lo_s rfl) (hP _ rfl) rfl (by decide) rfl rfl (Nat.le_of_ble_eq_true rfl) ⟨(Nat.le_of_ble_eq_true rfl), (Nat.le_of_ble_eq_true rfl)⟩ ⟨(Nat.le_of_ble_eq_true rfl), (Nat.le_of_ble_eq_true rfl)⟩ dX8_lay_25 (fun G_34 h => ?_)
    refine aw_inc (lv1 := [(1, .int (v1 + (1 : Int32))), (0, .ref (sdX X 24 0))]) F 1 dX8_lay_28 rfl (in_1 _) (by decide) rfl ?_
    refine aw_go (tgt := 15) F dX8_lay_31 (by decide) ?_
    refine aw_sub [1, 0] rfl ?_
    exact K15 _ _ h
set_option maxRecDepth 100000 in
set_option maxHeartbeats 4000000 in
theorem k_X8_lay {l : Launch} {E : Ev} {P : Nat → Prop} {sd : Nat → Nat → Nat} {G : GH} {post : GH → Prop} (hPP : ∀ o, stt o = true → P o) (h : wp_X8_lay post G) : Ct l yX8_lay cX8_lay 3 none 7 0 0 E P sd G [.ref (sd 24 0)] (pV post) := by
  refine ct_of (own := "MarkFieldModel") (by decide) rfl (Nat.le_of_ble_eq_true rfl) hPP (fun X F T el eP es => ?_)
  subst el; subst eP; subst es
  have hP := F.P
  change AW E X 3 0 [(0, .ref (sdX X 24 0))] [] G 0 0
  refine aw_al_n F 0 dX8_lay_0 rfl rfl ?_
  refine gf8_7 F (lo_s rfl) (hP _ rfl) rfl w_1167 dX8_lay_1 ?_
  refine aw_if_eq (tgt := 8) F dX8_lay_4 (by decide) (fun c_1 => ?_) (fun c_1 => ?_)
  · replace h := h.1 c_1
    refine aw_al_n F 0 dX8_lay_8 rfl rfl ?_
    refine aw_ic F dX8_lay_9 ic_1 ?_
    refine pf8_7 F (lo_s rfl) (hP _ rfl) rfl w_1167 (Or.inr rfl) dX8_lay_10 (fun G_2 eG_2 => ?_)
    replace h := h G_2 eG_2
    refine aw_ic F dX8_lay_13 ic_0 ?_
    refine aw_is_n (lv1 := [(1, .int (0 : Int32)), (0, .ref (sdX X 24 0))]) F dX8_lay_14 rfl (by decide) rfl ?_
    refine aw_sub [1, 0] rfl ?_
    exact kl_X8_lay_15 F T h
  · replace h := h.2 c_1
    exact aw_vret F T (Nat.le_of_ble_eq_true rfl) (Nat.le_of_ble_eq_true rfl) ⟨rfl, h⟩ dX8_lay_7
-- X8_isLive (height 1)
def wp_X8_isLive (post : Bool → GH → Prop) (x1 x2 x3 : Int32) (G : GH) : Prop :=
  (∀ y_1 : Int32, y_1 = ((14 : Int32) + ((3 : Int32) * x2)) → wp_X8_of1 (fun (r_3 : Int32) (G_2 : GH) => ((x3 < r_3 → post false G_2) ∧ (¬ x3 < r_3 → wp_X8_of1 (fun (r_6 : Int32) (G_5 : GH) => wp_X8_ruleOf (fun (r_8 : Int32) (G_7 : GH) => (((r_6 + r_8) < x3 → post false G_7) ∧ (¬ (r_6 + r_8) < x3 → post true G_7))) (4 : Int32) G_5) x1 (y_1 + (2 : Int32)) G_2))) x1 (y_1 + (1 : Int32)) G)
set_option maxRecDepth 100000 in
set_option maxHeartbeats 4000000 in
theorem k_X8_isLive {l : Launch} {E : Ev} {P : Nat → Prop} {sd : Nat → Nat → Nat} {G : GH} {post : Bool → GH → Prop} {x1 x2 x3 : Int32} (hPP : ∀ o, stt o = true → P o) (h : wp_X8_isLive post x1 x2 x3 G) : Ct l yX8_isLive cX8_isLive 5 (some .boolean) 1 0 0 E P sd G [.ref (sd 24 0), .int x1, .int x2, .int x3] (pB post) := by
  refine ct_of (own := "MarkFieldModel") (by decide) rfl (Nat.le_of_ble_eq_true rfl) hPP (fun X F T el eP es => ?_)
  subst el; subst eP; subst es
  have hP := F.P
  change AW E X 5 0 [(0, .ref (sdX X 24 0)), (1, .int x1), (2, .int x2), (3, .int x3)] [] G 0 0
  refine aw_bi F dX8_isLive_0 bi_14 ?_
  refine aw_ic F dX8_isLive_2 ic_3 ?_
  refine aw_il_n F 2 dX8_isLive_3 rfl rfl ?_
  refine aw_imul F dX8_isLive_4 ?_
  refine aw_iadd F dX8_isLive_5 ?_
  refine aw_top (fun y_1 ey_1 => ?_)
  replace h := h y_1 ey_1
  refine aw_is (lv1 := [(4, .int y_1), (0, .ref (sdX X 24 0)), (1, .int x1), (2, .int x2), (3, .int x3)]) F dX8_isLive_6 (by decide) rfl ?_
  refine aw_al_n F 1 dX8_isLive_8 rfl rfl ?_
  refine aw_il_n F 2 dX8_isLive_9 rfl rfl ?_
  refine aw_il F 0 dX8_isLive_10 rfl ?_
  refine aw_ic F dX8_isLive_12 ic_1 ?_
  refine aw_iadd F dX8_isLive_13 ?_
  refine aw_cVi (stk := []) F T.room [.int x1, .int (y_1 + (1 : Int32))] (k_X8_of1 hP h) mv_X8_of1 w_1313 cf8 (lo_s rfl) (hP _ rfl) rfl (by decide) rfl rfl (Nat.le_of_ble_eq_true rfl) ⟨(Nat.le_of_ble_eq_true rfl), (Nat.le_of_ble_eq_true rfl)⟩ ⟨(Nat.le_of_ble_eq_true rfl), (Nat.le_of_ble_eq_true rfl)⟩ dX8_isLive_14 (fun r_3 G_2 h => ?_)
  refine aw_il_n F 4 dX8_isLive_17 rfl rfl ?_
  refine aw_icmp_gt (tgt := 44) F dX8_isLive_18 (by decide) (fun c_4 => ?_) (fun c_4 => ?_)
  · replace h := h.1 c_4
    refine aw_ic F dX8_isLive_44 ic_0 ?_
    exact aw_zret F T false rfl (Nat.le_of_ble_eq_true rfl) (Nat.le_of_ble_eq_true rfl) ⟨_, rfl, h⟩ dX8_isLive_45
  · replace h := h.2 c_4
    refine aw_il_n F 4 dX8_isLive_21 rfl rfl ?_
    refine aw_al_n F 1 dX8_isLive_22 rfl rfl ?_
    refine aw_il_n F 2 dX8_isLive_23 rfl rfl ?_
    refine aw_il F 0 dX8_isLive_24 rfl ?_
    refine aw_ic F dX8_isLive_26 ic_2 ?_
    refine aw_iadd F dX8_isLive_27 ?_
    refine aw_cVi (stk := [.int x3]) F T.room [.int x1, .int (y_1 + (2 : Int32))] (k_X8_of1 hP h) mv_X8_of1 w_1313 cf8 (lo_s rfl) (hP _ rfl) rfl (by decide) rfl rfl (Nat.le_of_ble_eq_true rfl) ⟨(Nat.le_of_ble_eq_true rfl), (Nat.le_of_ble_eq_true rfl)⟩ ⟨(Nat.le_of_ble_eq_true rfl), (Nat.le_of_ble_eq_true rfl)⟩ dX8_isLive_28 (fun r_6 G_5 h => ?_)
    refine aw_al_n F 1 dX8_isLive_31 rfl rfl ?_
    refine aw_ic F dX8_isLive_32 ic_4 ?_
    refine aw_cVi (stk := [.int r_6, .int x3]) F T.room [.int (4 : Int32)] (k_X8_ruleOf hP h) mv_X8_ruleOf w_1373 cf8 (lo_s rfl) (hP _ rfl) rfl (by decide) rfl rfl (Nat.le_of_ble_eq_true rfl) ⟨(Nat.le_of_ble_eq_true rfl), (Nat.le_of_ble_eq_true rfl)⟩ ⟨(Nat.le_of_ble_eq_true rfl), (Nat.le_of_ble_eq_true rfl)⟩ dX8_isLive_33 (fun r_8 G_7 h => ?_)
    refine aw_iadd F dX8_isLive_36 ?_
    refine aw_icmp_gt (tgt := 44) F dX8_isLive_37 (by decide) (fun c_9 => ?_) (fun c_9 => ?_)
    · replace h := h.1 c_9
      refine aw_ic F dX8_isLive_44 ic_0 ?_
      exact aw_zret F T false rfl (Nat.le_of_ble_eq_true rfl) (Nat.le_of_ble_eq_true rfl) ⟨_, rfl, h⟩ dX8_isLive_45
    · replace h := h.2 c_9
      refine aw_ic F dX8_isLive_40 ic_1 ?_
      refine aw_go (tgt := 45) F dX8_isLive_41 (by decide) ?_
      exact aw_zret F T true rfl (Nat.le_of_ble_eq_true rfl) (Nat.le_of_ble_eq_true rfl) ⟨_, rfl, h⟩ dX8_isLive_45
-- X8_sinceOf (height 2)
def j_X8_sinceOf_92 (post : Int32 → GH → Prop) (P9 : Int32 → Int32 → Int32 → Int32 → Int32 → GH → Prop) (P20 : Int32 → Int32 → Int32 → Int32 → Int32 → Int32 → GH → Prop) (v1 v2 v5 v7 v8 : Int32) (G : GH) : Prop :=
  P20 v1 v2 v8 v5 (1 : Int32) (v7 + (1 : Int32)) G
def lb_X8_sinceOf_20 (post : Int32 → GH → Prop) (P9 : Int32 → Int32 → Int32 → Int32 → Int32 → GH → Prop) (P20 : Int32 → Int32 → Int32 → Int32 → Int32 → Int32 → GH → Prop) (v1 v2 v4 v5 v6 v7 : Int32) (G : GH) : Prop :=
  wp_X8_of1 (fun (r_3 : Int32) (G_2 : GH) => ((r_3 ≤ v7 → (∀ y_5 : Int32, y_5 = (v4 - (1 : Int32)) → P9 v1 v2 v4 y_5 v6 G_2)) ∧ (¬ r_3 ≤ v7 → wp_X8_of1 (fun (r_7 : Int32) (G_6 : GH) => wp_X8_of1 (fun (r_9 : Int32) (G_8 : GH) => ((r_9 = v2 → wp_X8_isLive (fun (b_12 : Bool) (G_11 : GH) => ((b_12 = false → P20 v1 v2 v4 v5 v6 (v7 + (1 : Int32)) G_11) ∧ (b_12 = true → ((v4 = (-1 : Int32) → j_X8_sinceOf_92 post P9 P20 v1 v2 v5 v7 r_7 G_11) ∧ (¬ v4 = (-1 : Int32) → ((r_7 < v4 → j_X8_sinceOf_92 post P9 P20 v1 v2 v5 v7 r_7 G_11) ∧ (¬ r_7 < v4 → P20 v1 v2 v4 v5 v6 (v7 + (1 : Int32)) G_11))))))) v1 v7 v5 G_8) ∧ (¬ r_9 = v2 → P20 v1 v2 v4 v5 v6 (v7 + (1 : Int32)) G_8))) v1 ((14 : Int32) + ((3 : Int32) * v7)) G_6) v1 (((14 : Int32) + ((3 : Int32) * v7)) + (1 : Int32)) G_2))) v1 (13 : Int32) G
def lp_X8_sinceOf_20 (post : Int32 → GH → Prop) (P9 : Int32 → Int32 → Int32 → Int32 → Int32 → GH → Prop) (v1 v2 v4 v5 v6 v7 : Int32) (G : GH) : Prop := ∀ P20 : Int32 → Int32 → Int32 → Int32 → Int32 → Int32 → GH → Prop, (∀ (v1 v2 v4 v5 v6 v7 : Int32) (G : GH), lb_X8_sinceOf_20 post P9 P20 v1 v2 v4 v5 v6 v7 G → P20 v1 v2 v4 v5 v6 v7 G) → P20 v1 v2 v4 v5 v6 v7 G
def lb_X8_sinceOf_9 (post : Int32 → GH → Prop) (P9 : Int32 → Int32 → Int32 → Int32 → Int32 → GH → Prop) (v1 v2 v4 v5 v6 : Int32) (G : GH) : Prop :=
  ((v6 = 0 → post v4 G) ∧ (¬ v6 = 0 → lp_X8_sinceOf_20 post P9 v1 v2 v4 v5 (0 : Int32) (0 : Int32) G))
def lp_X8_sinceOf_9 (post : Int32 → GH → Prop) (v1 v2 v4 v5 v6 : Int32) (G : GH) : Prop := ∀ P9 : Int32 → Int32 → Int32 → Int32 → Int32 → GH → Prop, (∀ (v1 v2 v4 v5 v6 : Int32) (G : GH), lb_X8_sinceOf_9 post P9 v1 v2 v4 v5 v6 G → P9 v1 v2 v4 v5 v6 G) → P9 v1 v2 v4 v5 v6 G
def wp_X8_sinceOf (post : Int32 → GH → Prop) (x1 x2 x3 : Int32) (G : GH) : Prop :=
  lp_X8_sinceOf_9 post x1 x2 (-1 : Int32) x3 (1 : Int32) G
set_option maxRecDepth 100000 in
set_option maxHeartbeats 4000000 in
theorem kj_X8_sinceOf_92 {E : Ev} {X : Cx} {post : Int32 → GH → Prop} {P9 : Int32 → Int32 → Int32 → Int32 → Int32 → GH → Prop} {P20 : Int32 → Int32 → Int32 → Int32 → Int32 → Int32 → GH → Prop} {v1 v2 v5 v7 v8 : Int32} {G : GH} (F : Fx E X "MarkFieldModel" cX8_sinceOf 9) (T : RT E X 2 0 0 (some .int) (pI post)) (K9 : ∀ (v1 v2 v4 v5 v6 : Int32) (G : GH), P9 v1 v2 v4 v5 v6 G → AW E X 9 9 [(0, .ref (sdX X 24 0)), (1, .int v1), (2, .int v2), (4, .int v4), (5, .int v5), (6, .int v6)] [] G 0 0) (K20 : ∀ (v1 v2 v4 v5 v6 v7 : Int32) (G : GH), P20 v1 v2 v4 v5 v6 v7 G → AW E X 9 20 [(0, .ref (sdX X 24 0)), (1, .int v1), (2, .int v2), (4, .int v4), (5, .int v5), (6, .int v6), (7, .int v7)] [] G 0 0) (h : j_X8_sinceOf_92 post P9 P20 v1 v2 v5 v7 v8 G) : AW E X 9 92 [(0, .ref (sdX X 24 0)), (1, .int v1), (2, .int v2), (5, .int v5), (7, .int v7), (8, .int v8)] [] G 0 0 := by
  have hP := F.P
  refine aw_il F 5 dX8_sinceOf_92 rfl ?_
  refine aw_is (lv1 := [(4, .int v8), (0, .ref (sdX X 24 0)), (1, .int v1), (2, .int v2), (5, .int v5), (7, .int v7), (8, .int v8)]) F dX8_sinceOf_94 (by decide) rfl ?_
  refine aw_ic F dX8_sinceOf_96 ic_1 ?_
  refine aw_is (lv1 := [(6, .int (1 : Int32)), (4, .int v8), (0, .ref (sdX X 24 0)), (1, .int v1), (2, .int v2), (5, .int v5), (7, .int v7), (8, .int v8)]) F dX8_sinceOf_97 (by decide) rfl ?_
  refine aw_inc (lv1 := [(7, .int (v7 + (1 : Int32))), (6, .int (1 : Int32)), (4, .int v8), (0, .ref (sdX X 24 0)), (1, .int v1), (2, .int v2), (5, .int v5), (8, .int v8)]) F 6 dX8_sinceOf_99 rfl (in_1 _) (by decide) rfl ?_
  refine aw_go (tgt := 20) F dX8_sinceOf_102 (by decide) ?_
  refine aw_sub [3, 4, 5, 2, 6, 1, 0] rfl ?_
  exact K20 _ _ _ _ _ _ _ h
set_option maxRecDepth 100000 in
set_option maxHeartbeats 4000000 in
theorem kl_X8_sinceOf_20 {E : Ev} {X : Cx} {post : Int32 → GH → Prop} {P9 : Int32 → Int32 → Int32 → Int32 → Int32 → GH → Prop} {v1 v2 v4 v5 v6 v7 : Int32} {G : GH} (F : Fx E X "MarkFieldModel" cX8_sinceOf 9) (T : RT E X 2 0 0 (some .int) (pI post)) (K9 : ∀ (v1 v2 v4 v5 v6 : Int32) (G : GH), P9 v1 v2 v4 v5 v6 G → AW E X 9 9 [(0, .ref (sdX X 24 0)), (1, .int v1), (2, .int v2), (4, .int v4), (5, .int v5), (6, .int v6)] [] G 0 0) (h : lp_X8_sinceOf_20 post P9 v1 v2 v4 v5 v6 v7 G) : AW E X 9 20 [(0, .ref (sdX X 24 0)), (1, .int v1), (2, .int v2), (4, .int v4), (5, .int v5), (6, .int v6), (7, .int v7)] [] G 0 0 := by
  have hP := F.P
  have K20 : ∀ (v1 v2 v4 v5 v6 v7 : Int32) (G : GH), AW E X 9 20 [(0, .ref (sdX X 24 0)), (1, .int v1), (2, .int v2), (4, .int v4), (5, .int v5), (6, .int v6), (7, .int v7)] [] G 0 0 → AW E X 9 20 [(0, .ref (sdX X 24 0)), (1, .int v1), (2, .int v2), (4, .int v4), (5, .int v5), (6, .int v6), (7, .int v7)] [] G 0 0 := fun _ _ _ _ _ _ _ q => q
  refine h (fun (v1 v2 v4 v5 v6 v7 : Int32) (G : GH) => AW E X 9 20 [(0, .ref (sdX X 24 0)), (1, .int v1), (2, .int v2), (4, .int v4), (5, .int v5), (6, .int v6), (7, .int v7)] [] G 0 0) (fun (v1 v2 v4 v5 v6 v7 : Int32) (G : GH) h => ?_)
  refine aw_il F 6 dX8_sinceOf_20 rfl ?_
  refine aw_al_n F 0 dX8_sinceOf_22 rfl rfl ?_
  refine aw_il_n F 1 dX8_sinceOf_23 rfl rfl ?_
  refine aw_bi F dX8_sinceOf_24 bi_13 ?_
  refine aw_cVi (stk := [.int v7]) F T.room [.int v1, .int (13 : Int32)] (k_X8_of1 hP h) mv_X8_of1 w_1313 cf8 (lo_s rfl) (hP _ rfl) rfl (by decide) rfl rfl (Nat.le_of_ble_eq_true rfl) ⟨(Nat.le_of_ble_eq_true rfl), (Nat.le_of_ble_eq_true rfl)⟩ ⟨(Nat.le_of_ble_eq_true rfl), (Nat.le_of_ble_eq_true rfl)⟩ dX8_sinceOf_26 (fun r_3 G_2 h => ?_)
  refine aw_icmp_ge (tgt := 105) F dX8_sinceOf_29 (by decide) (fun c_4 => ?_) (fun c_4 => ?_)
  · replace h := h.1 c_4
    refine aw_il F 3 dX8_sinceOf_105 rfl ?_
    refine aw_ic F dX8_sinceOf_107 ic_1 ?_
    refine aw_isub F dX8_sinceOf_108 ?_
    refine aw_top (fun y_5 ey_5 => ?_)
    replace h := h y_5 ey_5
    refine aw_is (lv1 := [(5, .int y_5), (0, .ref (sdX X 24 0)), (1, .int v1), (2, .int v2), (4, .int v4), (6, .int v6), (7, .int v7)]) F dX8_sinceOf_109 (by decide) rfl ?_
    refine aw_go (tgt := 9) F dX8_sinceOf_111 (by decide) ?_
    refine aw_sub [1, 2, 3, 4, 0, 5] rfl ?_
    exact K9 _ _ _ _ _ _ h
  · replace h := h.2 c_4
    refine aw_al_n F 0 dX8_sinceOf_32 rfl rfl ?_
    refine aw_il_n F 1 dX8_sinceOf_33 rfl rfl ?_
    refine aw_bi F dX8_sinceOf_34 bi_14 ?_
    refine aw_ic F dX8_sinceOf_36 ic_3 ?_
    refine aw_il F 6 dX8_sinceOf_37 rfl ?_
    refine aw_imul F dX8_sinceOf_39 ?_
    refine aw_iadd F dX8_sinceOf_40 ?_
    refine aw_ic F dX8_sinceOf_41 ic_1 ?_
    refine aw_iadd F dX8_sinceOf_42 ?_
    refine aw_cVi (stk := []) F T.room [.int v1, .int (((14 : Int32) + ((3 : Int32) * v7)) + (1 : Int32))] (k_X8_of1 hP h) mv_X8_of1 w_1313 cf8 (lo_s rfl) (hP _ rfl) rfl (by decide) rfl rfl (Nat.le_of_ble_eq_true rfl) ⟨(Nat.le_of_ble_eq_true rfl), (Nat.le_of_ble_eq_true rfl)⟩ ⟨(Nat.le_of_ble_eq_true rfl), (Nat.le_of_ble_eq_true rfl)⟩ dX8_sinceOf_43 (fun r_7 G_6 h => ?_)
    refine aw_is (lv1 := [(8, .int r_7), (0, .ref (sdX X 24 0)), (1, .int v1), (2, .int v2), (4, .int v4), (5, .int v5), (6, .int v6), (7, .int v7)]) F dX8_sinceOf_46 (by decide) rfl ?_
    refine aw_al_n F 1 dX8_sinceOf_48 rfl rfl ?_
    refine aw_il_n F 2 dX8_sinceOf_49 rfl rfl ?_
    refine aw_bi F dX8_sinceOf_50 bi_14 ?_
    refine aw_ic F dX8_sinceOf_52 ic_3 ?_
    refine aw_il F 7 dX8_sinceOf_53 rfl ?_
    refine aw_imul F dX8_sinceOf_55 ?_
    refine aw_iadd F dX8_sinceOf_56 ?_
    refine aw_cVi (stk := []) F T.room [.int v1, .int ((14 : Int32) + ((3 : Int32) * v7))] (k_X8_of1 hP h) mv_X8_of1 w_1313 cf8 (lo_s rfl) (hP _ rfl) rfl (by decide) rfl rfl (Nat.le_of_ble_eq_true rfl) ⟨(Nat.le_of_ble_eq_true rfl), (Nat.le_of_ble_eq_true rfl)⟩ ⟨(Nat.le_of_ble_eq_true rfl), (Nat.le_of_ble_eq_true rfl)⟩ dX8_sinceOf_57 (fun r_9 G_8 h => ?_)
    refine aw_il_n F 3 dX8_sinceOf_60 rfl rfl ?_
    refine aw_icmp_ne (tgt := 99) F dX8_sinceOf_61 (by decide) (fun c_10 => ?_) (fun c_10 => ?_)
    · replace h := h.2 c_10
      refine aw_inc (lv1 := [(7, .int (v7 + (1 : Int32))), (8, .int r_7), (0, .ref (sdX X 24 0)), (1, .int v1), (2, .int v2), (4, .int v4), (5, .int v5), (6, .int v6)]) F 7 dX8_sinceOf_99 rfl (in_1 _) (by decide) rfl ?_
      refine aw_go (tgt := 20) F dX8_sinceOf_102 (by decide) ?_
      refine aw_sub [2, 3, 4, 5, 6, 7, 0] rfl ?_
      exact K20 _ _ _ _ _ _ _ h
    · replace h := h.1 c_10
      refine aw_al_n F 1 dX8_sinceOf_64 rfl rfl ?_
      refine aw_il_n F 2 dX8_sinceOf_65 rfl rfl ?_
      refine aw_il F 7 dX8_sinceOf_66 rfl ?_
      refine aw_il F 5 dX8_sinceOf_68 rfl ?_
      refine aw_cVb (stk := []) F T.room [.int v1, .int v7, .int v5] (k_X8_isLive hP h) mv_X8_isLive w_1468 cf8 (lo_s rfl) (hP _ rfl) rfl (by decide) rfl rfl (Nat.le_of_ble_eq_true rfl) ⟨(Nat.le_of_ble_eq_true rfl), (Nat.le_of_ble_eq_true rfl)⟩ ⟨(Nat.le_of_ble_eq_true rfl), (Nat.le_of_ble_eq_true rfl)⟩ dX8_sinceOf_70 (fun b_12 G_11 h => ?_)
      refine aw_if_eq (tgt := 99) F dX8_sinceOf_73 (by decide) (fun c_13 => ?_) (fun c_13 => ?_)
      · replace h := h.1 (bI_2 c_13)
        refine aw_inc (lv1 := [(7, .int (v7 + (1 : Int32))), (8, .int r_7), (0, .ref (sdX X 24 0)), (1, .int v1), (2, .int v2), (4, .int v4), (5, .int v5), (6, .int v6)]) F 7 dX8_sinceOf_99 rfl (in_1 _) (by decide) rfl ?_
        refine aw_go (tgt := 20) F dX8_sinceOf_102 (by decide) ?_
        refine aw_sub [2, 3, 4, 5, 6, 7, 0] rfl ?_
        exact K20 _ _ _ _ _ _ _ h
      · replace h := h.2 (bI_1 c_13)
        refine aw_il F 4 dX8_sinceOf_76 rfl ?_
        refine aw_ic F dX8_sinceOf_78 ic_m1 ?_
        refine aw_icmp_eq (tgt := 92) F dX8_sinceOf_79 (by decide) (fun c_14 => ?_) (fun c_14 => ?_)
        · replace h := h.1 c_14
          refine aw_sub [1, 2, 3, 5, 7, 0] rfl ?_
          exact kj_X8_sinceOf_92 F T K9 K20 h
        · replace h := h.2 c_14
          refine aw_il F 0 dX8_sinceOf_82 rfl ?_
          refine aw_il F 4 dX8_sinceOf_84 rfl ?_
          refine aw_icmp_lt (tgt := 92) F dX8_sinceOf_86 (by decide) (fun c_15 => ?_) (fun c_15 => ?_)
          · replace h := h.1 c_15
            refine aw_sub [1, 2, 3, 5, 7, 0] rfl ?_
            exact kj_X8_sinceOf_92 F T K9 K20 h
          · replace h := h.2 c_15
            refine aw_go (tgt := 99) F dX8_sinceOf_89 (by decide) ?_
            refine aw_inc (lv1 := [(7, .int (v7 + (1 : Int32))), (8, .int r_7), (0, .ref (sdX X 24 0)), (1, .int v1), (2, .int v2), (4, .int v4), (5, .int v5), (6, .int v6)]) F 7 dX8_sinceOf_99 rfl (in_1 _) (by decide) rfl ?_
            refine aw_go (tgt := 20) F dX8_sinceOf_102 (by decide) ?_
            refine aw_sub [2, 3, 4, 5, 6, 7, 0] rfl ?_
            exact K20 _ _ _ _ _ _ _ h
set_option maxRecDepth 100000 in
set_option maxHeartbeats 4000000 in
theorem kl_X8_sinceOf_9 {E : Ev} {X : Cx} {post : Int32 → GH → Prop} {v1 v2 v4 v5 v6 : Int32} {G : GH} (F : Fx E X "MarkFieldModel" cX8_sinceOf 9) (T : RT E X 2 0 0 (some .int) (pI post)) (h : lp_X8_sinceOf_9 post v1 v2 v4 v5 v6 G) : AW E X 9 9 [(0, .ref (sdX X 24 0)), (1, .int v1), (2, .int v2), (4, .int v4), (5, .int v5), (6, .int v6)] [] G 0 0 := by
  have hP := F.P
  have K9 : ∀ (v1 v2 v4 v5 v6 : Int32) (G : GH), AW E X 9 9 [(0, .ref (sdX X 24 0)), (1, .int v1), (2, .int v2), (4, .int v4), (5, .int v5), (6, .int v6)] [] G 0 0 → AW E X 9 9 [(0, .ref (sdX X 24 0)), (1, .int v1), (2, .int v2), (4, .int v4), (5, .int v5), (6, .int v6)] [] G 0 0 := fun _ _ _ _ _ _ q => q
  refine h (fun (v1 v2 v4 v5 v6 : Int32) (G : GH) => AW E X 9 9 [(0, .ref (sdX X 24 0)), (1, .int v1), (2, .int v2), (4, .int v4), (5, .int v5), (6, .int v6)] [] G 0 0) (fun (v1 v2 v4 v5 v6 : Int32) (G : GH) h => ?_)
  refine aw_il F 5 dX8_sinceOf_9 rfl ?_
  refine aw_if_eq (tgt := 114) F dX8_sinceOf_11 (by decide) (fun c_1 => ?_) (fun c_1 => ?_)
  · replace h := h.1 c_1
    refine aw_il F 3 dX8_sinceOf_114 rfl ?_
    exact aw_iret F T (Nat.le_of_ble_eq_true rfl) (Nat.le_of_ble_eq_true rfl) ⟨_, rfl, h⟩ dX8_sinceOf_116
  · replace h := h.2 c_1
    refine aw_ic F dX8_sinceOf_14 ic_0 ?_
    refine aw_is (lv1 := [(6, .int (0 : Int32)), (0, .ref (sdX X 24 0)), (1, .int v1), (2, .int v2), (4, .int v4), (5, .int v5)]) F dX8_sinceOf_15 (by decide) rfl ?_
    refine aw_ic F dX8_sinceOf_17 ic_0 ?_
    refine aw_is (lv1 := [(7, .int (0 : Int32)), (6, .int (0 : Int32)), (0, .ref (sdX X 24 0)), (1, .int v1), (2, .int v2), (4, .int v4), (5, .int v5)]) F dX8_sinceOf_18 (by decide) rfl ?_
    refine aw_sub [2, 3, 4, 5, 6, 1, 0] rfl ?_
    exact kl_X8_sinceOf_20 F T K9 h
set_option maxRecDepth 100000 in
set_option maxHeartbeats 4000000 in
theorem k_X8_sinceOf {l : Launch} {E : Ev} {P : Nat → Prop} {sd : Nat → Nat → Nat} {G : GH} {post : Int32 → GH → Prop} {x1 x2 x3 : Int32} (hPP : ∀ o, stt o = true → P o) (h : wp_X8_sinceOf post x1 x2 x3 G) : Ct l yX8_sinceOf cX8_sinceOf 9 (some .int) 2 0 0 E P sd G [.ref (sd 24 0), .int x1, .int x2, .int x3] (pI post) := by
  refine ct_of (own := "MarkFieldModel") (by decide) rfl (Nat.le_of_ble_eq_true rfl) hPP (fun X F T el eP es => ?_)
  subst el; subst eP; subst es
  have hP := F.P
  change AW E X 9 0 [(0, .ref (sdX X 24 0)), (1, .int x1), (2, .int x2), (3, .int x3)] [] G 0 0
  refine aw_ic F dX8_sinceOf_0 ic_m1 ?_
  refine aw_is (lv1 := [(4, .int (-1 : Int32)), (0, .ref (sdX X 24 0)), (1, .int x1), (2, .int x2), (3, .int x3)]) F dX8_sinceOf_1 (by decide) rfl ?_
  refine aw_il_n F 4 dX8_sinceOf_3 rfl rfl ?_
  refine aw_is (lv1 := [(5, .int x3), (4, .int (-1 : Int32)), (0, .ref (sdX X 24 0)), (1, .int x1), (2, .int x2), (3, .int x3)]) F dX8_sinceOf_4 (by decide) rfl ?_
  refine aw_ic F dX8_sinceOf_6 ic_1 ?_
  refine aw_is (lv1 := [(6, .int (1 : Int32)), (5, .int x3), (4, .int (-1 : Int32)), (0, .ref (sdX X 24 0)), (1, .int x1), (2, .int x2), (3, .int x3)]) F dX8_sinceOf_7 (by decide) rfl ?_
  refine aw_sub [3, 4, 5, 2, 1, 0] rfl ?_
  exact kl_X8_sinceOf_9 F T h
-- X8_priorityOf (height 3)
def wp_X8_priorityOf (post : Int32 → GH → Prop) (x1 x2 x3 : Int32) (G : GH) : Prop :=
  wp_X8_sinceOf (fun (r_2 : Int32) (G_1 : GH) => wp_X8_of1 (fun (r_4 : Int32) (G_3 : GH) => ((r_4 ≤ x3 → ((r_2 = (-1 : Int32) → post r_4 G_3) ∧ (¬ r_2 = (-1 : Int32) → post (imin r_2 r_4) G_3))) ∧ (¬ r_4 ≤ x3 → post r_2 G_3))) x1 (12 : Int32) G_1) x1 x2 x3 G
set_option maxRecDepth 100000 in
set_option maxHeartbeats 4000000 in
theorem k_X8_priorityOf {l : Launch} {E : Ev} {P : Nat → Prop} {sd : Nat → Nat → Nat} {G : GH} {post : Int32 → GH → Prop} {x1 x2 x3 : Int32} (hPP : ∀ o, stt o = true → P o) (h : wp_X8_priorityOf post x1 x2 x3 G) : Ct l yX8_priorityOf cX8_priorityOf 6 (some .int) 3 0 0 E P sd G [.ref (sd 24 0), .int x1, .int x2, .int x3] (pI post) := by
  refine ct_of (own := "MarkFieldModel") (by decide) rfl (Nat.le_of_ble_eq_true rfl) hPP (fun X F T el eP es => ?_)
  subst el; subst eP; subst es
  have hP := F.P
  change AW E X 6 0 [(0, .ref (sdX X 24 0)), (1, .int x1), (2, .int x2), (3, .int x3)] [] G 0 0
  refine aw_al_n F 0 dX8_priorityOf_0 rfl rfl ?_
  refine aw_il_n F 1 dX8_priorityOf_1 rfl rfl ?_
  refine aw_il_n F 2 dX8_priorityOf_2 rfl rfl ?_
  refine aw_il_n F 3 dX8_priorityOf_3 rfl rfl ?_
  refine aw_cVi (stk := []) F T.room [.int x1, .int x2, .int x3] (k_X8_sinceOf hP h) mv_X8_sinceOf w_1464 cf8 (lo_s rfl) (hP _ rfl) rfl (by decide) rfl rfl (Nat.le_of_ble_eq_true rfl) ⟨(Nat.le_of_ble_eq_true rfl), (Nat.le_of_ble_eq_true rfl)⟩ ⟨(Nat.le_of_ble_eq_true rfl), (Nat.le_of_ble_eq_true rfl)⟩ dX8_priorityOf_4 (fun r_2 G_1 h => ?_)
  refine aw_is (lv1 := [(4, .int r_2), (0, .ref (sdX X 24 0)), (1, .int x1), (2, .int x2), (3, .int x3)]) F dX8_priorityOf_7 (by decide) rfl ?_
  refine aw_al_n F 1 dX8_priorityOf_9 rfl rfl ?_
  refine aw_il_n F 2 dX8_priorityOf_10 rfl rfl ?_
  refine aw_bi F dX8_priorityOf_11 bi_12 ?_
  refine aw_cVi (stk := []) F T.room [.int x1, .int (12 : Int32)] (k_X8_of1 hP h) mv_X8_of1 w_1313 cf8 (lo_s rfl) (hP _ rfl) rfl (by decide) rfl rfl (Nat.le_of_ble_eq_true rfl) ⟨(Nat.le_of_ble_eq_true rfl), (Nat.le_of_ble_eq_true rfl)⟩ ⟨(Nat.le_of_ble_eq_true rfl), (Nat.le_of_ble_eq_true rfl)⟩ dX8_priorityOf_13 (fun r_4 G_3 h => ?_)
  refine aw_is (lv1 := [(5, .int r_4), (4, .int r_2), (0, .ref (sdX X 24 0)), (1, .int x1), (2, .int x2), (3, .int x3)]) F dX8_priorityOf_16 (by decide) rfl ?_
  refine aw_il F 0 dX8_priorityOf_18 rfl ?_
  refine aw_il_n F 5 dX8_priorityOf_20 rfl rfl ?_
  refine aw_icmp_le (tgt := 27) F dX8_priorityOf_21 (by decide) (fun c_5 => ?_) (fun c_5 => ?_)
  · replace h := h.1 c_5
    refine aw_il F 1 dX8_priorityOf_27 rfl ?_
    refine aw_ic F dX8_priorityOf_29 ic_m1 ?_
    refine aw_icmp_ne (tgt := 38) F dX8_priorityOf_30 (by decide) (fun c_6 => ?_) (fun c_6 => ?_)
    · replace h := h.2 c_6
      refine aw_il F 1 dX8_priorityOf_38 rfl ?_
      refine aw_il F 0 dX8_priorityOf_40 rfl ?_
      refine aw_min F T.room w_1355 w_479 w_16 w_480 (Nat.le_of_ble_eq_true rfl) (Nat.le_of_ble_eq_true rfl) ⟨(Nat.le_of_ble_eq_true rfl), (Nat.le_of_ble_eq_true rfl)⟩ dX8_priorityOf_42 ?_
      exact aw_iret F T (Nat.le_of_ble_eq_true rfl) (Nat.le_of_ble_eq_true rfl) ⟨_, rfl, h⟩ dX8_priorityOf_45
    · replace h := h.1 c_6
      refine aw_il F 0 dX8_priorityOf_33 rfl ?_
      refine aw_go (tgt := 45) F dX8_priorityOf_35 (by decide) ?_
      exact aw_iret F T (Nat.le_of_ble_eq_true rfl) (Nat.le_of_ble_eq_true rfl) ⟨_, rfl, h⟩ dX8_priorityOf_45
  · replace h := h.2 c_5
    refine aw_il F 1 dX8_priorityOf_24 rfl ?_
    exact aw_iret F T (Nat.le_of_ble_eq_true rfl) (Nat.le_of_ble_eq_true rfl) ⟨_, rfl, h⟩ dX8_priorityOf_26
-- X8_isSenior (height 0)
def j_X8_isSenior_35 (post : Bool → GH → Prop) (G : GH) : Prop :=
  post true G
def wp_X8_isSenior (post : Bool → GH → Prop) (x1 x2 : Int32) (G : GH) : Prop :=
  (vp_in x1 13 ∧ (vp_in x2 13 ∧ (((G 24 22 x1.toNatClampNeg) < (G 24 22 x2.toNatClampNeg) → j_X8_isSenior_35 post G) ∧ (¬ (G 24 22 x1.toNatClampNeg) < (G 24 22 x2.toNatClampNeg) → (vp_in x1 13 ∧ (vp_in x2 13 ∧ (((G 24 22 x1.toNatClampNeg) = (G 24 22 x2.toNatClampNeg) → ((x2 ≤ x1 → post false G) ∧ (¬ x2 ≤ x1 → j_X8_isSenior_35 post G))) ∧ (¬ (G 24 22 x1.toNatClampNeg) = (G 24 22 x2.toNatClampNeg) → post false G))))))))
set_option maxRecDepth 100000 in
set_option maxHeartbeats 4000000 in
theorem kj_X8_isSenior_35 {E : Ev} {X : Cx} {post : Bool → GH → Prop} {G : GH} (F : Fx E X "MarkFieldModel" cX8_isSenior 3) (T : RT E X 0 0 0 (some .boolean) (pB post)) (h : j_X8_isSenior_35 post G) : AW E X 3 35 [] [] G 0 0 := by
  have hP := F.P
  refine aw_ic F dX8_isSenior_35 ic_1 ?_
  refine aw_go (tgt := 40) F dX8_isSenior_36 (by decide) ?_
  exact aw_zret F T true rfl (Nat.le_of_ble_eq_true rfl) (Nat.le_of_ble_eq_true rfl) ⟨_, rfl, h⟩ dX8_isSenior_40
set_option maxRecDepth 100000 in
set_option maxHeartbeats 4000000 in
theorem k_X8_isSenior {l : Launch} {E : Ev} {P : Nat → Prop} {sd : Nat → Nat → Nat} {G : GH} {post : Bool → GH → Prop} {x1 x2 : Int32} (hPP : ∀ o, stt o = true → P o) (h : wp_X8_isSenior post x1 x2 G) : Ct l yX8_isSenior cX8_isSenior 3 (some .boolean) 0 0 0 E P sd G [.ref (sd 24 0), .int x1, .int x2] (pB post) := by
  refine ct_of (own := "MarkFieldModel") (by decide) rfl (Nat.le_of_ble_eq_true rfl) hPP (fun X F T el eP es => ?_)
  subst el; subst eP; subst es
  have hP := F.P
  change AW E X 3 0 [(0, .ref (sdX X 24 0)), (1, .int x1), (2, .int x2)] [] G 0 0
  refine aw_al_n F 0 dX8_isSenior_0 rfl rfl ?_
  refine gr8_21 F (lo_s rfl) (hP _ rfl) rfl w_1181 (hP _ rfl) dX8_isSenior_1 ?_
  refine aw_il_n F 1 dX8_isSenior_4 rfl rfl ?_
  refine aw_iald F 24 22 (lo_s rfl) (hP _ rfl) rfl h.1 dX8_isSenior_5 ?_
  replace h := h.2
  refine aw_al_n F 0 dX8_isSenior_6 rfl rfl ?_
  refine gr8_21 F (lo_s rfl) (hP _ rfl) rfl w_1181 (hP _ rfl) dX8_isSenior_7 ?_
  refine aw_il_n F 2 dX8_isSenior_10 rfl rfl ?_
  refine aw_iald F 24 22 (lo_s rfl) (hP _ rfl) rfl h.1 dX8_isSenior_11 ?_
  replace h := h.2
  refine aw_icmp_lt (tgt := 35) F dX8_isSenior_12 (by decide) (fun c_1 => ?_) (fun c_1 => ?_)
  · replace h := h.1 c_1
    refine aw_sub [] rfl ?_
    exact kj_X8_isSenior_35 F T h
  · replace h := h.2 c_1
    refine aw_al_n F 0 dX8_isSenior_15 rfl rfl ?_
    refine gr8_21 F (lo_s rfl) (hP _ rfl) rfl w_1181 (hP _ rfl) dX8_isSenior_16 ?_
    refine aw_il_n F 1 dX8_isSenior_19 rfl rfl ?_
    refine aw_iald F 24 22 (lo_s rfl) (hP _ rfl) rfl h.1 dX8_isSenior_20 ?_
    replace h := h.2
    refine aw_al_n F 0 dX8_isSenior_21 rfl rfl ?_
    refine gr8_21 F (lo_s rfl) (hP _ rfl) rfl w_1181 (hP _ rfl) dX8_isSenior_22 ?_
    refine aw_il_n F 2 dX8_isSenior_25 rfl rfl ?_
    refine aw_iald F 24 22 (lo_s rfl) (hP _ rfl) rfl h.1 dX8_isSenior_26 ?_
    replace h := h.2
    refine aw_icmp_ne (tgt := 39) F dX8_isSenior_27 (by decide) (fun c_2 => ?_) (fun c_2 => ?_)
    · replace h := h.2 c_2
      refine aw_ic F dX8_isSenior_39 ic_0 ?_
      exact aw_zret F T false rfl (Nat.le_of_ble_eq_true rfl) (Nat.le_of_ble_eq_true rfl) ⟨_, rfl, h⟩ dX8_isSenior_40
    · replace h := h.1 c_2
      refine aw_il_n F 1 dX8_isSenior_30 rfl rfl ?_
      refine aw_il_n F 2 dX8_isSenior_31 rfl rfl ?_
      refine aw_icmp_ge (tgt := 39) F dX8_isSenior_32 (by decide) (fun c_3 => ?_) (fun c_3 => ?_)
      · replace h := h.1 c_3
        refine aw_ic F dX8_isSenior_39 ic_0 ?_
        exact aw_zret F T false rfl (Nat.le_of_ble_eq_true rfl) (Nat.le_of_ble_eq_true rfl) ⟨_, rfl, h⟩ dX8_isSenior_40
      · replace h := h.2 c_3
        refine aw_sub [] rfl ?_
        exact kj_X8_isSenior_35 F T h
