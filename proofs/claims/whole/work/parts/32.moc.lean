theorem si_999 : (Int16.ofInt (999)).toInt32 = (999 : Int32) := by decide
theorem si_255 : (Int16.ofInt (255)).toInt32 = (255 : Int32) := by decide
theorem bi_m10 : (Int8.ofInt (-10)).toInt32 = (-10 : Int32) := by decide
theorem w_1608 : (Jvm.Cond.code ({ cls := "MarkFieldModel", name := "consents", desc := "([IIIZ)V" } : Jvm.MethodName) prog_10_method_81_code (7 : Nat) (Option.none : Option Jvm.ClassFile.FieldType)) ∈ tb := tb_of (List.mem_of_getElem? (i := 1608) (by decide +kernel)) rfl
theorem w_1607 : (Jvm.Cond.instanceMethod ({ cls := "MarkFieldModel", name := "consents", desc := "([IIIZ)V" } : Jvm.MethodName)) ∈ tb := tb_of (List.mem_of_getElem? (i := 1607) (by decide +kernel)) rfl
theorem ws_87 : (Jvm.Cond.selects "MarkFieldModel" ({ cls := "MarkFieldModel", name := "consents", desc := "([IIIZ)V" } : Jvm.MethodName) ({ cls := "MarkFieldModel", name := "consents", desc := "([IIIZ)V" } : Jvm.MethodName)) ∈ tb := tb_sel (List.mem_of_getElem? (i := 87) (by decide +kernel)) rfl
theorem w_1605 : (Jvm.Cond.methodLink "MarkFieldModel" (308 : Nat) ({ cls := "MarkFieldModel", name := "consents", desc := "([IIIZ)V" } : Jvm.MethodName)) ∈ tb := tb_of (List.mem_of_getElem? (i := 1605) (by decide +kernel)) rfl
theorem w_1619 : (Jvm.Cond.code ({ cls := "MarkFieldModel", name := "mostOf", desc := "(I)I" } : Jvm.MethodName) prog_10_method_84_code (1 : Nat) (Option.some Jvm.ClassFile.FieldType.int)) ∈ tb := tb_of (List.mem_of_getElem? (i := 1619) (by decide +kernel)) rfl
theorem w_1618 : (Jvm.Cond.static ({ cls := "MarkFieldModel", name := "mostOf", desc := "(I)I" } : Jvm.MethodName)) ∈ tb := tb_of (List.mem_of_getElem? (i := 1618) (by decide +kernel)) rfl
theorem w_1617 : (Jvm.Cond.methodLink "MarkFieldModel" (312 : Nat) ({ cls := "MarkFieldModel", name := "mostOf", desc := "(I)I" } : Jvm.MethodName)) ∈ tb := tb_of (List.mem_of_getElem? (i := 1617) (by decide +kernel)) rfl
theorem w_1626 : (Jvm.Cond.code ({ cls := "MarkFieldModel", name := "joins", desc := "([IIIZ)V" } : Jvm.MethodName) prog_10_method_86_code (4 : Nat) (Option.none : Option Jvm.ClassFile.FieldType)) ∈ tb := tb_of (List.mem_of_getElem? (i := 1626) (by decide +kernel)) rfl
theorem w_1625 : (Jvm.Cond.static ({ cls := "MarkFieldModel", name := "joins", desc := "([IIIZ)V" } : Jvm.MethodName)) ∈ tb := tb_of (List.mem_of_getElem? (i := 1625) (by decide +kernel)) rfl
theorem w_1624 : (Jvm.Cond.methodLink "MarkFieldModel" (315 : Nat) ({ cls := "MarkFieldModel", name := "joins", desc := "([IIIZ)V" } : Jvm.MethodName)) ∈ tb := tb_of (List.mem_of_getElem? (i := 1624) (by decide +kernel)) rfl
theorem w_1166 : (Jvm.Cond.fieldLink "MarkFieldModel" (318 : Nat) "MarkFieldModel" "isKept" "Z") ∈ tb := tb_of (List.mem_of_getElem? (i := 1166) (by decide +kernel)) rfl
theorem w_1162 : (Jvm.Cond.fieldLink "MarkFieldModel" (16 : Nat) "MarkFieldModel" "kept" "[I") ∈ tb := tb_of (List.mem_of_getElem? (i := 1162) (by decide +kernel)) rfl
theorem w_1200 : (Jvm.Cond.fieldLink "MarkFieldModel" (79 : Nat) "MarkFieldModel" "faultPlace" "I") ∈ tb := tb_of (List.mem_of_getElem? (i := 1200) (by decide +kernel)) rfl
theorem w_1193 : (Jvm.Cond.fieldLink "MarkFieldModel" (321 : Nat) "MarkFieldModel" "size" "I") ∈ tb := tb_of (List.mem_of_getElem? (i := 1193) (by decide +kernel)) rfl
theorem w_1194 : (Jvm.Cond.fieldLink "MarkFieldModel" (324 : Nat) "MarkFieldModel" "look" "I") ∈ tb := tb_of (List.mem_of_getElem? (i := 1194) (by decide +kernel)) rfl
theorem w_1658 : (Jvm.Cond.code ({ cls := "MarkFieldModel", name := "byteAt", desc := "(I)I" } : Jvm.MethodName) prog_10_method_92_code (2 : Nat) (Option.some Jvm.ClassFile.FieldType.int)) ∈ tb := tb_of (List.mem_of_getElem? (i := 1658) (by decide +kernel)) rfl
theorem w_1657 : (Jvm.Cond.instanceMethod ({ cls := "MarkFieldModel", name := "byteAt", desc := "(I)I" } : Jvm.MethodName)) ∈ tb := tb_of (List.mem_of_getElem? (i := 1657) (by decide +kernel)) rfl
theorem ws_90 : (Jvm.Cond.selects "MarkFieldModel" ({ cls := "MarkFieldModel", name := "byteAt", desc := "(I)I" } : Jvm.MethodName) ({ cls := "MarkFieldModel", name := "byteAt", desc := "(I)I" } : Jvm.MethodName)) ∈ tb := tb_sel (List.mem_of_getElem? (i := 90) (by decide +kernel)) rfl
theorem w_1655 : (Jvm.Cond.methodLink "MarkFieldModel" (327 : Nat) ({ cls := "MarkFieldModel", name := "byteAt", desc := "(I)I" } : Jvm.MethodName)) ∈ tb := tb_of (List.mem_of_getElem? (i := 1655) (by decide +kernel)) rfl
theorem w_1196 : (Jvm.Cond.fieldLink "MarkFieldModel" (330 : Nat) "MarkFieldModel" "from1" "I") ∈ tb := tb_of (List.mem_of_getElem? (i := 1196) (by decide +kernel)) rfl
theorem w_1661 : (Jvm.Cond.code ({ cls := "MarkFieldModel", name := "isSmall", desc := "(I)Z" } : Jvm.MethodName) prog_10_method_93_code (1 : Nat) (Option.some Jvm.ClassFile.FieldType.boolean)) ∈ tb := tb_of (List.mem_of_getElem? (i := 1661) (by decide +kernel)) rfl
theorem w_1660 : (Jvm.Cond.static ({ cls := "MarkFieldModel", name := "isSmall", desc := "(I)Z" } : Jvm.MethodName)) ∈ tb := tb_of (List.mem_of_getElem? (i := 1660) (by decide +kernel)) rfl
theorem w_1659 : (Jvm.Cond.methodLink "MarkFieldModel" (336 : Nat) ({ cls := "MarkFieldModel", name := "isSmall", desc := "(I)Z" } : Jvm.MethodName)) ∈ tb := tb_of (List.mem_of_getElem? (i := 1659) (by decide +kernel)) rfl
theorem w_1664 : (Jvm.Cond.code ({ cls := "MarkFieldModel", name := "isFigure", desc := "(I)Z" } : Jvm.MethodName) prog_10_method_94_code (1 : Nat) (Option.some Jvm.ClassFile.FieldType.boolean)) ∈ tb := tb_of (List.mem_of_getElem? (i := 1664) (by decide +kernel)) rfl
theorem w_1663 : (Jvm.Cond.static ({ cls := "MarkFieldModel", name := "isFigure", desc := "(I)Z" } : Jvm.MethodName)) ∈ tb := tb_of (List.mem_of_getElem? (i := 1663) (by decide +kernel)) rfl
theorem w_1662 : (Jvm.Cond.methodLink "MarkFieldModel" (339 : Nat) ({ cls := "MarkFieldModel", name := "isFigure", desc := "(I)Z" } : Jvm.MethodName)) ∈ tb := tb_of (List.mem_of_getElem? (i := 1662) (by decide +kernel)) rfl
theorem w_1195 : (Jvm.Cond.fieldLink "MarkFieldModel" (333 : Nat) "MarkFieldModel" "token" "I") ∈ tb := tb_of (List.mem_of_getElem? (i := 1195) (by decide +kernel)) rfl
theorem w_1197 : (Jvm.Cond.fieldLink "MarkFieldModel" (342 : Nat) "MarkFieldModel" "stops" "I") ∈ tb := tb_of (List.mem_of_getElem? (i := 1197) (by decide +kernel)) rfl
theorem w_1198 : (Jvm.Cond.fieldLink "MarkFieldModel" (345 : Nat) "MarkFieldModel" "bad" "I") ∈ tb := tb_of (List.mem_of_getElem? (i := 1198) (by decide +kernel)) rfl
theorem w_1201 : (Jvm.Cond.fieldLink "MarkFieldModel" (348 : Nat) "MarkFieldModel" "open" "I") ∈ tb := tb_of (List.mem_of_getElem? (i := 1201) (by decide +kernel)) rfl
theorem w_1654 : (Jvm.Cond.code ({ cls := "MarkFieldModel", name := "step", desc := "()V" } : Jvm.MethodName) prog_10_method_95_code (2 : Nat) (Option.none : Option Jvm.ClassFile.FieldType)) ∈ tb := tb_of (List.mem_of_getElem? (i := 1654) (by decide +kernel)) rfl
theorem w_1653 : (Jvm.Cond.instanceMethod ({ cls := "MarkFieldModel", name := "step", desc := "()V" } : Jvm.MethodName)) ∈ tb := tb_of (List.mem_of_getElem? (i := 1653) (by decide +kernel)) rfl
theorem ws_89 : (Jvm.Cond.selects "MarkFieldModel" ({ cls := "MarkFieldModel", name := "step", desc := "()V" } : Jvm.MethodName) ({ cls := "MarkFieldModel", name := "step", desc := "()V" } : Jvm.MethodName)) ∈ tb := tb_sel (List.mem_of_getElem? (i := 89) (by decide +kernel)) rfl
theorem w_1651 : (Jvm.Cond.methodLink "MarkFieldModel" (351 : Nat) ({ cls := "MarkFieldModel", name := "step", desc := "()V" } : Jvm.MethodName)) ∈ tb := tb_of (List.mem_of_getElem? (i := 1651) (by decide +kernel)) rfl
theorem w_1199 : (Jvm.Cond.fieldLink "MarkFieldModel" (354 : Nat) "MarkFieldModel" "badPlace" "I") ∈ tb := tb_of (List.mem_of_getElem? (i := 1199) (by decide +kernel)) rfl
theorem w_1670 : (Jvm.Cond.methodLink "MarkFieldModel" (357 : Nat) ({ cls := "java/lang/String", name := "length", desc := "()I" } : Jvm.MethodName)) ∈ tb := tb_of (List.mem_of_getElem? (i := 1670) (by decide +kernel)) rfl
theorem w_1671 : (Jvm.Cond.methodLink "MarkFieldModel" (362 : Nat) ({ cls := "java/lang/String", name := "charAt", desc := "(I)C" } : Jvm.MethodName)) ∈ tb := tb_of (List.mem_of_getElem? (i := 1671) (by decide +kernel)) rfl
theorem w_1699 : (Jvm.Cond.code ({ cls := "MarkFieldModel", name := "isSign", desc := "(I)Z" } : Jvm.MethodName) prog_10_method_99_code (2 : Nat) (Option.some Jvm.ClassFile.FieldType.boolean)) ∈ tb := tb_of (List.mem_of_getElem? (i := 1699) (by decide +kernel)) rfl
theorem w_1698 : (Jvm.Cond.instanceMethod ({ cls := "MarkFieldModel", name := "isSign", desc := "(I)Z" } : Jvm.MethodName)) ∈ tb := tb_of (List.mem_of_getElem? (i := 1698) (by decide +kernel)) rfl
theorem ws_98 : (Jvm.Cond.selects "MarkFieldModel" ({ cls := "MarkFieldModel", name := "isSign", desc := "(I)Z" } : Jvm.MethodName) ({ cls := "MarkFieldModel", name := "isSign", desc := "(I)Z" } : Jvm.MethodName)) ∈ tb := tb_sel (List.mem_of_getElem? (i := 98) (by decide +kernel)) rfl
theorem w_1696 : (Jvm.Cond.methodLink "MarkFieldModel" (366 : Nat) ({ cls := "MarkFieldModel", name := "isSign", desc := "(I)Z" } : Jvm.MethodName)) ∈ tb := tb_of (List.mem_of_getElem? (i := 1696) (by decide +kernel)) rfl
theorem w_1679 : (Jvm.Cond.code ({ cls := "MarkFieldModel", name := "pass", desc := "()V" } : Jvm.MethodName) prog_10_method_98_code (1 : Nat) (Option.none : Option Jvm.ClassFile.FieldType)) ∈ tb := tb_of (List.mem_of_getElem? (i := 1679) (by decide +kernel)) rfl
theorem w_1678 : (Jvm.Cond.instanceMethod ({ cls := "MarkFieldModel", name := "pass", desc := "()V" } : Jvm.MethodName)) ∈ tb := tb_of (List.mem_of_getElem? (i := 1678) (by decide +kernel)) rfl
theorem ws_93 : (Jvm.Cond.selects "MarkFieldModel" ({ cls := "MarkFieldModel", name := "pass", desc := "()V" } : Jvm.MethodName) ({ cls := "MarkFieldModel", name := "pass", desc := "()V" } : Jvm.MethodName)) ∈ tb := tb_sel (List.mem_of_getElem? (i := 93) (by decide +kernel)) rfl
theorem w_1676 : (Jvm.Cond.methodLink "MarkFieldModel" (372 : Nat) ({ cls := "MarkFieldModel", name := "pass", desc := "()V" } : Jvm.MethodName)) ∈ tb := tb_of (List.mem_of_getElem? (i := 1676) (by decide +kernel)) rfl
theorem w_1675 : (Jvm.Cond.code ({ cls := "MarkFieldModel", name := "wrong", desc := "(I)V" } : Jvm.MethodName) prog_10_method_97_code (2 : Nat) (Option.none : Option Jvm.ClassFile.FieldType)) ∈ tb := tb_of (List.mem_of_getElem? (i := 1675) (by decide +kernel)) rfl
theorem w_1674 : (Jvm.Cond.instanceMethod ({ cls := "MarkFieldModel", name := "wrong", desc := "(I)V" } : Jvm.MethodName)) ∈ tb := tb_of (List.mem_of_getElem? (i := 1674) (by decide +kernel)) rfl
theorem ws_92 : (Jvm.Cond.selects "MarkFieldModel" ({ cls := "MarkFieldModel", name := "wrong", desc := "(I)V" } : Jvm.MethodName) ({ cls := "MarkFieldModel", name := "wrong", desc := "(I)V" } : Jvm.MethodName)) ∈ tb := tb_sel (List.mem_of_getElem? (i := 92) (by decide +kernel)) rfl
theorem w_1672 : (Jvm.Cond.methodLink "MarkFieldModel" (369 : Nat) ({ cls := "MarkFieldModel", name := "wrong", desc := "(I)V" } : Jvm.MethodName)) ∈ tb := tb_of (List.mem_of_getElem? (i := 1672) (by decide +kernel)) rfl
theorem w_1687 : (Jvm.Cond.code ({ cls := "MarkFieldModel", name := "isNumber", desc := "()Z" } : Jvm.MethodName) prog_10_method_101_code (1 : Nat) (Option.some Jvm.ClassFile.FieldType.boolean)) ∈ tb := tb_of (List.mem_of_getElem? (i := 1687) (by decide +kernel)) rfl
theorem w_1686 : (Jvm.Cond.instanceMethod ({ cls := "MarkFieldModel", name := "isNumber", desc := "()Z" } : Jvm.MethodName)) ∈ tb := tb_of (List.mem_of_getElem? (i := 1686) (by decide +kernel)) rfl
theorem ws_95 : (Jvm.Cond.selects "MarkFieldModel" ({ cls := "MarkFieldModel", name := "isNumber", desc := "()Z" } : Jvm.MethodName) ({ cls := "MarkFieldModel", name := "isNumber", desc := "()Z" } : Jvm.MethodName)) ∈ tb := tb_sel (List.mem_of_getElem? (i := 95) (by decide +kernel)) rfl
theorem w_1684 : (Jvm.Cond.methodLink "MarkFieldModel" (375 : Nat) ({ cls := "MarkFieldModel", name := "isNumber", desc := "()Z" } : Jvm.MethodName)) ∈ tb := tb_of (List.mem_of_getElem? (i := 1684) (by decide +kernel)) rfl
theorem w_1691 : (Jvm.Cond.code ({ cls := "MarkFieldModel", name := "numberHere", desc := "()I" } : Jvm.MethodName) prog_10_method_103_code (3 : Nat) (Option.some Jvm.ClassFile.FieldType.int)) ∈ tb := tb_of (List.mem_of_getElem? (i := 1691) (by decide +kernel)) rfl
theorem w_1690 : (Jvm.Cond.instanceMethod ({ cls := "MarkFieldModel", name := "numberHere", desc := "()I" } : Jvm.MethodName)) ∈ tb := tb_of (List.mem_of_getElem? (i := 1690) (by decide +kernel)) rfl
theorem ws_96 : (Jvm.Cond.selects "MarkFieldModel" ({ cls := "MarkFieldModel", name := "numberHere", desc := "()I" } : Jvm.MethodName) ({ cls := "MarkFieldModel", name := "numberHere", desc := "()I" } : Jvm.MethodName)) ∈ tb := tb_sel (List.mem_of_getElem? (i := 96) (by decide +kernel)) rfl
theorem w_1688 : (Jvm.Cond.methodLink "MarkFieldModel" (379 : Nat) ({ cls := "MarkFieldModel", name := "numberHere", desc := "()I" } : Jvm.MethodName)) ∈ tb := tb_of (List.mem_of_getElem? (i := 1688) (by decide +kernel)) rfl
theorem w_1683 : (Jvm.Cond.code ({ cls := "MarkFieldModel", name := "number", desc := "(II)I" } : Jvm.MethodName) prog_10_method_104_code (4 : Nat) (Option.some Jvm.ClassFile.FieldType.int)) ∈ tb := tb_of (List.mem_of_getElem? (i := 1683) (by decide +kernel)) rfl
theorem w_1682 : (Jvm.Cond.instanceMethod ({ cls := "MarkFieldModel", name := "number", desc := "(II)I" } : Jvm.MethodName)) ∈ tb := tb_of (List.mem_of_getElem? (i := 1682) (by decide +kernel)) rfl
theorem ws_94 : (Jvm.Cond.selects "MarkFieldModel" ({ cls := "MarkFieldModel", name := "number", desc := "(II)I" } : Jvm.MethodName) ({ cls := "MarkFieldModel", name := "number", desc := "(II)I" } : Jvm.MethodName)) ∈ tb := tb_sel (List.mem_of_getElem? (i := 94) (by decide +kernel)) rfl
theorem w_1680 : (Jvm.Cond.methodLink "MarkFieldModel" (382 : Nat) ({ cls := "MarkFieldModel", name := "number", desc := "(II)I" } : Jvm.MethodName)) ∈ tb := tb_of (List.mem_of_getElem? (i := 1680) (by decide +kernel)) rfl
theorem w_1712 : (Jvm.Cond.code ({ cls := "MarkFieldModel", name := "otherNumber", desc := "(II)I" } : Jvm.MethodName) prog_10_method_105_code (3 : Nat) (Option.some Jvm.ClassFile.FieldType.int)) ∈ tb := tb_of (List.mem_of_getElem? (i := 1712) (by decide +kernel)) rfl
theorem w_1711 : (Jvm.Cond.instanceMethod ({ cls := "MarkFieldModel", name := "otherNumber", desc := "(II)I" } : Jvm.MethodName)) ∈ tb := tb_of (List.mem_of_getElem? (i := 1711) (by decide +kernel)) rfl
theorem ws_101 : (Jvm.Cond.selects "MarkFieldModel" ({ cls := "MarkFieldModel", name := "otherNumber", desc := "(II)I" } : Jvm.MethodName) ({ cls := "MarkFieldModel", name := "otherNumber", desc := "(II)I" } : Jvm.MethodName)) ∈ tb := tb_sel (List.mem_of_getElem? (i := 101) (by decide +kernel)) rfl
theorem w_1709 : (Jvm.Cond.methodLink "MarkFieldModel" (385 : Nat) ({ cls := "MarkFieldModel", name := "otherNumber", desc := "(II)I" } : Jvm.MethodName)) ∈ tb := tb_of (List.mem_of_getElem? (i := 1709) (by decide +kernel)) rfl
theorem w_1161 : (Jvm.Cond.fieldLink "MarkFieldModel" (13 : Nat) "MarkFieldModel" "read" "[I") ∈ tb := tb_of (List.mem_of_getElem? (i := 1161) (by decide +kernel)) rfl
theorem w_1721 : (Jvm.Cond.code ({ cls := "MarkFieldModel", name := "readName", desc := "(I)V" } : Jvm.MethodName) prog_10_method_108_code (3 : Nat) (Option.none : Option Jvm.ClassFile.FieldType)) ∈ tb := tb_of (List.mem_of_getElem? (i := 1721) (by decide +kernel)) rfl
theorem w_1720 : (Jvm.Cond.instanceMethod ({ cls := "MarkFieldModel", name := "readName", desc := "(I)V" } : Jvm.MethodName)) ∈ tb := tb_of (List.mem_of_getElem? (i := 1720) (by decide +kernel)) rfl
theorem ws_103 : (Jvm.Cond.selects "MarkFieldModel" ({ cls := "MarkFieldModel", name := "readName", desc := "(I)V" } : Jvm.MethodName) ({ cls := "MarkFieldModel", name := "readName", desc := "(I)V" } : Jvm.MethodName)) ∈ tb := tb_sel (List.mem_of_getElem? (i := 103) (by decide +kernel)) rfl
theorem w_1718 : (Jvm.Cond.methodLink "MarkFieldModel" (388 : Nat) ({ cls := "MarkFieldModel", name := "readName", desc := "(I)V" } : Jvm.MethodName)) ∈ tb := tb_of (List.mem_of_getElem? (i := 1718) (by decide +kernel)) rfl
theorem w_1669 : (Jvm.Cond.code ({ cls := "MarkFieldModel", name := "isWord", desc := "(Ljava/lang/String;)Z" } : Jvm.MethodName) prog_10_method_100_code (4 : Nat) (Option.some Jvm.ClassFile.FieldType.boolean)) ∈ tb := tb_of (List.mem_of_getElem? (i := 1669) (by decide +kernel)) rfl
theorem w_1668 : (Jvm.Cond.instanceMethod ({ cls := "MarkFieldModel", name := "isWord", desc := "(Ljava/lang/String;)Z" } : Jvm.MethodName)) ∈ tb := tb_of (List.mem_of_getElem? (i := 1668) (by decide +kernel)) rfl
theorem ws_91 : (Jvm.Cond.selects "MarkFieldModel" ({ cls := "MarkFieldModel", name := "isWord", desc := "(Ljava/lang/String;)Z" } : Jvm.MethodName) ({ cls := "MarkFieldModel", name := "isWord", desc := "(Ljava/lang/String;)Z" } : Jvm.MethodName)) ∈ tb := tb_sel (List.mem_of_getElem? (i := 91) (by decide +kernel)) rfl
theorem w_1666 : (Jvm.Cond.methodLink "MarkFieldModel" (393 : Nat) ({ cls := "MarkFieldModel", name := "isWord", desc := "(Ljava/lang/String;)Z" } : Jvm.MethodName)) ∈ tb := tb_of (List.mem_of_getElem? (i := 1666) (by decide +kernel)) rfl
theorem w_1739 : (Jvm.Cond.code ({ cls := "MarkFieldModel", name := "ruleHere", desc := "()I" } : Jvm.MethodName) prog_10_method_112_code (1 : Nat) (Option.some Jvm.ClassFile.FieldType.int)) ∈ tb := tb_of (List.mem_of_getElem? (i := 1739) (by decide +kernel)) rfl
theorem w_1738 : (Jvm.Cond.instanceMethod ({ cls := "MarkFieldModel", name := "ruleHere", desc := "()I" } : Jvm.MethodName)) ∈ tb := tb_of (List.mem_of_getElem? (i := 1738) (by decide +kernel)) rfl
theorem ws_107 : (Jvm.Cond.selects "MarkFieldModel" ({ cls := "MarkFieldModel", name := "ruleHere", desc := "()I" } : Jvm.MethodName) ({ cls := "MarkFieldModel", name := "ruleHere", desc := "()I" } : Jvm.MethodName)) ∈ tb := tb_sel (List.mem_of_getElem? (i := 107) (by decide +kernel)) rfl
theorem w_1736 : (Jvm.Cond.methodLink "MarkFieldModel" (407 : Nat) ({ cls := "MarkFieldModel", name := "ruleHere", desc := "()I" } : Jvm.MethodName)) ∈ tb := tb_of (List.mem_of_getElem? (i := 1736) (by decide +kernel)) rfl
theorem w_1735 : (Jvm.Cond.code ({ cls := "MarkFieldModel", name := "readRule", desc := "()V" } : Jvm.MethodName) prog_10_method_113_code (3 : Nat) (Option.none : Option Jvm.ClassFile.FieldType)) ∈ tb := tb_of (List.mem_of_getElem? (i := 1735) (by decide +kernel)) rfl
theorem w_1734 : (Jvm.Cond.instanceMethod ({ cls := "MarkFieldModel", name := "readRule", desc := "()V" } : Jvm.MethodName)) ∈ tb := tb_of (List.mem_of_getElem? (i := 1734) (by decide +kernel)) rfl
theorem ws_106 : (Jvm.Cond.selects "MarkFieldModel" ({ cls := "MarkFieldModel", name := "readRule", desc := "()V" } : Jvm.MethodName) ({ cls := "MarkFieldModel", name := "readRule", desc := "()V" } : Jvm.MethodName)) ∈ tb := tb_sel (List.mem_of_getElem? (i := 106) (by decide +kernel)) rfl
theorem w_1732 : (Jvm.Cond.methodLink "MarkFieldModel" (430 : Nat) ({ cls := "MarkFieldModel", name := "readRule", desc := "()V" } : Jvm.MethodName)) ∈ tb := tb_of (List.mem_of_getElem? (i := 1732) (by decide +kernel)) rfl
theorem w_1695 : (Jvm.Cond.code ({ cls := "MarkFieldModel", name := "must", desc := "(I)V" } : Jvm.MethodName) prog_10_method_102_code (2 : Nat) (Option.none : Option Jvm.ClassFile.FieldType)) ∈ tb := tb_of (List.mem_of_getElem? (i := 1695) (by decide +kernel)) rfl
theorem w_1694 : (Jvm.Cond.instanceMethod ({ cls := "MarkFieldModel", name := "must", desc := "(I)V" } : Jvm.MethodName)) ∈ tb := tb_of (List.mem_of_getElem? (i := 1694) (by decide +kernel)) rfl
theorem ws_97 : (Jvm.Cond.selects "MarkFieldModel" ({ cls := "MarkFieldModel", name := "must", desc := "(I)V" } : Jvm.MethodName) ({ cls := "MarkFieldModel", name := "must", desc := "(I)V" } : Jvm.MethodName)) ∈ tb := tb_sel (List.mem_of_getElem? (i := 97) (by decide +kernel)) rfl
theorem w_1692 : (Jvm.Cond.methodLink "MarkFieldModel" (433 : Nat) ({ cls := "MarkFieldModel", name := "must", desc := "(I)V" } : Jvm.MethodName)) ∈ tb := tb_of (List.mem_of_getElem? (i := 1692) (by decide +kernel)) rfl
theorem w_1731 : (Jvm.Cond.code ({ cls := "MarkFieldModel", name := "readConsent", desc := "()V" } : Jvm.MethodName) prog_10_method_111_code (3 : Nat) (Option.none : Option Jvm.ClassFile.FieldType)) ∈ tb := tb_of (List.mem_of_getElem? (i := 1731) (by decide +kernel)) rfl
theorem w_1730 : (Jvm.Cond.instanceMethod ({ cls := "MarkFieldModel", name := "readConsent", desc := "()V" } : Jvm.MethodName)) ∈ tb := tb_of (List.mem_of_getElem? (i := 1730) (by decide +kernel)) rfl
theorem ws_105 : (Jvm.Cond.selects "MarkFieldModel" ({ cls := "MarkFieldModel", name := "readConsent", desc := "()V" } : Jvm.MethodName) ({ cls := "MarkFieldModel", name := "readConsent", desc := "()V" } : Jvm.MethodName)) ∈ tb := tb_sel (List.mem_of_getElem? (i := 105) (by decide +kernel)) rfl
theorem w_1728 : (Jvm.Cond.methodLink "MarkFieldModel" (427 : Nat) ({ cls := "MarkFieldModel", name := "readConsent", desc := "()V" } : Jvm.MethodName)) ∈ tb := tb_of (List.mem_of_getElem? (i := 1728) (by decide +kernel)) rfl
theorem w_1726 : (Jvm.Cond.code ({ cls := "MarkFieldModel", name := "readUse", desc := "()V" } : Jvm.MethodName) prog_10_method_110_code (7 : Nat) (Option.none : Option Jvm.ClassFile.FieldType)) ∈ tb := tb_of (List.mem_of_getElem? (i := 1726) (by decide +kernel)) rfl
theorem w_1725 : (Jvm.Cond.instanceMethod ({ cls := "MarkFieldModel", name := "readUse", desc := "()V" } : Jvm.MethodName)) ∈ tb := tb_of (List.mem_of_getElem? (i := 1725) (by decide +kernel)) rfl
theorem ws_104 : (Jvm.Cond.selects "MarkFieldModel" ({ cls := "MarkFieldModel", name := "readUse", desc := "()V" } : Jvm.MethodName) ({ cls := "MarkFieldModel", name := "readUse", desc := "()V" } : Jvm.MethodName)) ∈ tb := tb_sel (List.mem_of_getElem? (i := 104) (by decide +kernel)) rfl
theorem w_1723 : (Jvm.Cond.methodLink "MarkFieldModel" (422 : Nat) ({ cls := "MarkFieldModel", name := "readUse", desc := "()V" } : Jvm.MethodName)) ∈ tb := tb_of (List.mem_of_getElem? (i := 1723) (by decide +kernel)) rfl
theorem w_1717 : (Jvm.Cond.code ({ cls := "MarkFieldModel", name := "readMark", desc := "()V" } : Jvm.MethodName) prog_10_method_109_code (5 : Nat) (Option.none : Option Jvm.ClassFile.FieldType)) ∈ tb := tb_of (List.mem_of_getElem? (i := 1717) (by decide +kernel)) rfl
theorem w_1716 : (Jvm.Cond.instanceMethod ({ cls := "MarkFieldModel", name := "readMark", desc := "()V" } : Jvm.MethodName)) ∈ tb := tb_of (List.mem_of_getElem? (i := 1716) (by decide +kernel)) rfl
theorem ws_102 : (Jvm.Cond.selects "MarkFieldModel" ({ cls := "MarkFieldModel", name := "readMark", desc := "()V" } : Jvm.MethodName) ({ cls := "MarkFieldModel", name := "readMark", desc := "()V" } : Jvm.MethodName)) ∈ tb := tb_sel (List.mem_of_getElem? (i := 102) (by decide +kernel)) rfl
theorem w_1714 : (Jvm.Cond.methodLink "MarkFieldModel" (417 : Nat) ({ cls := "MarkFieldModel", name := "readMark", desc := "()V" } : Jvm.MethodName)) ∈ tb := tb_of (List.mem_of_getElem? (i := 1714) (by decide +kernel)) rfl
theorem w_1708 : (Jvm.Cond.code ({ cls := "MarkFieldModel", name := "readNear", desc := "()V" } : Jvm.MethodName) prog_10_method_107_code (3 : Nat) (Option.none : Option Jvm.ClassFile.FieldType)) ∈ tb := tb_of (List.mem_of_getElem? (i := 1708) (by decide +kernel)) rfl
theorem w_1707 : (Jvm.Cond.instanceMethod ({ cls := "MarkFieldModel", name := "readNear", desc := "()V" } : Jvm.MethodName)) ∈ tb := tb_of (List.mem_of_getElem? (i := 1707) (by decide +kernel)) rfl
theorem ws_100 : (Jvm.Cond.selects "MarkFieldModel" ({ cls := "MarkFieldModel", name := "readNear", desc := "()V" } : Jvm.MethodName) ({ cls := "MarkFieldModel", name := "readNear", desc := "()V" } : Jvm.MethodName)) ∈ tb := tb_sel (List.mem_of_getElem? (i := 100) (by decide +kernel)) rfl
theorem w_1705 : (Jvm.Cond.methodLink "MarkFieldModel" (412 : Nat) ({ cls := "MarkFieldModel", name := "readNear", desc := "()V" } : Jvm.MethodName)) ∈ tb := tb_of (List.mem_of_getElem? (i := 1705) (by decide +kernel)) rfl
theorem w_1650 : (Jvm.Cond.code ({ cls := "MarkFieldModel", name := "opens", desc := "(I)V" } : Jvm.MethodName) prog_10_method_96_code (2 : Nat) (Option.none : Option Jvm.ClassFile.FieldType)) ∈ tb := tb_of (List.mem_of_getElem? (i := 1650) (by decide +kernel)) rfl
theorem w_1649 : (Jvm.Cond.instanceMethod ({ cls := "MarkFieldModel", name := "opens", desc := "(I)V" } : Jvm.MethodName)) ∈ tb := tb_of (List.mem_of_getElem? (i := 1649) (by decide +kernel)) rfl
theorem ws_88 : (Jvm.Cond.selects "MarkFieldModel" ({ cls := "MarkFieldModel", name := "opens", desc := "(I)V" } : Jvm.MethodName) ({ cls := "MarkFieldModel", name := "opens", desc := "(I)V" } : Jvm.MethodName)) ∈ tb := tb_sel (List.mem_of_getElem? (i := 88) (by decide +kernel)) rfl
theorem w_1647 : (Jvm.Cond.methodLink "MarkFieldModel" (436 : Nat) ({ cls := "MarkFieldModel", name := "opens", desc := "(I)V" } : Jvm.MethodName)) ∈ tb := tb_of (List.mem_of_getElem? (i := 1647) (by decide +kernel)) rfl
theorem w_1159 : (Jvm.Cond.code ({ cls := "MarkFieldModel", name := "begins", desc := "([I)V" } : Jvm.MethodName) prog_10_method_7_code (2 : Nat) (Option.none : Option Jvm.ClassFile.FieldType)) ∈ tb := tb_of (List.mem_of_getElem? (i := 1159) (by decide +kernel)) rfl
theorem w_1158 : (Jvm.Cond.static ({ cls := "MarkFieldModel", name := "begins", desc := "([I)V" } : Jvm.MethodName)) ∈ tb := tb_of (List.mem_of_getElem? (i := 1158) (by decide +kernel)) rfl
theorem w_1157 : (Jvm.Cond.methodLink "MarkFieldModel" (83 : Nat) ({ cls := "MarkFieldModel", name := "begins", desc := "([I)V" } : Jvm.MethodName)) ∈ tb := tb_of (List.mem_of_getElem? (i := 1157) (by decide +kernel)) rfl
theorem w_1749 : (Jvm.Cond.code ({ cls := "MarkFieldModel", name := "ends", desc := "()I" } : Jvm.MethodName) prog_10_method_106_code (1 : Nat) (Option.some Jvm.ClassFile.FieldType.int)) ∈ tb := tb_of (List.mem_of_getElem? (i := 1749) (by decide +kernel)) rfl
theorem w_1748 : (Jvm.Cond.instanceMethod ({ cls := "MarkFieldModel", name := "ends", desc := "()I" } : Jvm.MethodName)) ∈ tb := tb_of (List.mem_of_getElem? (i := 1748) (by decide +kernel)) rfl
theorem ws_108 : (Jvm.Cond.selects "MarkFieldModel" ({ cls := "MarkFieldModel", name := "ends", desc := "()I" } : Jvm.MethodName) ({ cls := "MarkFieldModel", name := "ends", desc := "()I" } : Jvm.MethodName)) ∈ tb := tb_sel (List.mem_of_getElem? (i := 108) (by decide +kernel)) rfl
theorem w_1746 : (Jvm.Cond.methodLink "MarkFieldModel" (444 : Nat) ({ cls := "MarkFieldModel", name := "ends", desc := "()I" } : Jvm.MethodName)) ∈ tb := tb_of (List.mem_of_getElem? (i := 1746) (by decide +kernel)) rfl
theorem w_1703 : (Jvm.Cond.code ({ cls := "MarkFieldModel", name := "readLine", desc := "()V" } : Jvm.MethodName) prog_10_method_114_code (1 : Nat) (Option.none : Option Jvm.ClassFile.FieldType)) ∈ tb := tb_of (List.mem_of_getElem? (i := 1703) (by decide +kernel)) rfl
theorem w_1702 : (Jvm.Cond.instanceMethod ({ cls := "MarkFieldModel", name := "readLine", desc := "()V" } : Jvm.MethodName)) ∈ tb := tb_of (List.mem_of_getElem? (i := 1702) (by decide +kernel)) rfl
theorem ws_99 : (Jvm.Cond.selects "MarkFieldModel" ({ cls := "MarkFieldModel", name := "readLine", desc := "()V" } : Jvm.MethodName) ({ cls := "MarkFieldModel", name := "readLine", desc := "()V" } : Jvm.MethodName)) ∈ tb := tb_sel (List.mem_of_getElem? (i := 99) (by decide +kernel)) rfl
theorem w_1700 : (Jvm.Cond.methodLink "MarkFieldModel" (441 : Nat) ({ cls := "MarkFieldModel", name := "readLine", desc := "()V" } : Jvm.MethodName)) ∈ tb := tb_of (List.mem_of_getElem? (i := 1700) (by decide +kernel)) rfl
theorem w_1203 : (Jvm.Cond.fieldLink "MarkFieldModel" (460 : Nat) "MarkFieldModel" "askedDay" "I") ∈ tb := tb_of (List.mem_of_getElem? (i := 1203) (by decide +kernel)) rfl
theorem w_1784 : (Jvm.Cond.code ({ cls := "MarkFieldModel", name := "wordHere", desc := "()I" } : Jvm.MethodName) prog_10_method_116_code (1 : Nat) (Option.some Jvm.ClassFile.FieldType.int)) ∈ tb := tb_of (List.mem_of_getElem? (i := 1784) (by decide +kernel)) rfl
theorem w_1783 : (Jvm.Cond.instanceMethod ({ cls := "MarkFieldModel", name := "wordHere", desc := "()I" } : Jvm.MethodName)) ∈ tb := tb_of (List.mem_of_getElem? (i := 1783) (by decide +kernel)) rfl
theorem ws_115 : (Jvm.Cond.selects "MarkFieldModel" ({ cls := "MarkFieldModel", name := "wordHere", desc := "()I" } : Jvm.MethodName) ({ cls := "MarkFieldModel", name := "wordHere", desc := "()I" } : Jvm.MethodName)) ∈ tb := tb_sel (List.mem_of_getElem? (i := 115) (by decide +kernel)) rfl
theorem w_1781 : (Jvm.Cond.methodLink "MarkFieldModel" (463 : Nat) ({ cls := "MarkFieldModel", name := "wordHere", desc := "()I" } : Jvm.MethodName)) ∈ tb := tb_of (List.mem_of_getElem? (i := 1781) (by decide +kernel)) rfl
theorem w_1202 : (Jvm.Cond.fieldLink "MarkFieldModel" (466 : Nat) "MarkFieldModel" "asked" "I") ∈ tb := tb_of (List.mem_of_getElem? (i := 1202) (by decide +kernel)) rfl
theorem w_1796 : (Jvm.Cond.code ({ cls := "MarkFieldModel", name := "valueOf", desc := "(II)I" } : Jvm.MethodName) prog_10_method_117_code (3 : Nat) (Option.some Jvm.ClassFile.FieldType.int)) ∈ tb := tb_of (List.mem_of_getElem? (i := 1796) (by decide +kernel)) rfl
theorem w_1795 : (Jvm.Cond.instanceMethod ({ cls := "MarkFieldModel", name := "valueOf", desc := "(II)I" } : Jvm.MethodName)) ∈ tb := tb_of (List.mem_of_getElem? (i := 1795) (by decide +kernel)) rfl
theorem ws_116 : (Jvm.Cond.selects "MarkFieldModel" ({ cls := "MarkFieldModel", name := "valueOf", desc := "(II)I" } : Jvm.MethodName) ({ cls := "MarkFieldModel", name := "valueOf", desc := "(II)I" } : Jvm.MethodName)) ∈ tb := tb_sel (List.mem_of_getElem? (i := 116) (by decide +kernel)) rfl
theorem w_1793 : (Jvm.Cond.methodLink "MarkFieldModel" (469 : Nat) ({ cls := "MarkFieldModel", name := "valueOf", desc := "(II)I" } : Jvm.MethodName)) ∈ tb := tb_of (List.mem_of_getElem? (i := 1793) (by decide +kernel)) rfl
theorem mv_X8_consents : MV yX8_consents cX8_consents 7 none 4 := ⟨⟨w_1608, w_10, by decide, by decide, by decide +kernel⟩, w_1607, ws_87⟩
theorem ms_X8_mostOf : MS yX8_mostOf cX8_mostOf 1 (some .int) 1 := ⟨⟨w_1619, w_10, by decide, by decide, by decide +kernel⟩, w_1618⟩
theorem ms_X8_joins : MS yX8_joins cX8_joins 4 none 4 := ⟨⟨w_1626, w_10, by decide, by decide, by decide +kernel⟩, w_1625⟩
theorem mv_X8_byteAt : MV yX8_byteAt cX8_byteAt 2 (some .int) 1 := ⟨⟨w_1658, w_10, by decide, by decide, by decide +kernel⟩, w_1657, ws_90⟩
theorem ms_X8_isSmall : MS yX8_isSmall cX8_isSmall 1 (some .boolean) 1 := ⟨⟨w_1661, w_10, by decide, by decide, by decide +kernel⟩, w_1660⟩
theorem ms_X8_isFigure : MS yX8_isFigure cX8_isFigure 1 (some .boolean) 1 := ⟨⟨w_1664, w_10, by decide, by decide, by decide +kernel⟩, w_1663⟩
theorem mv_X8_step : MV yX8_step cX8_step 2 none 0 := ⟨⟨w_1654, w_10, by decide, by decide, by decide +kernel⟩, w_1653, ws_89⟩
theorem mv_X8_isSign : MV yX8_isSign cX8_isSign 2 (some .boolean) 1 := ⟨⟨w_1699, w_10, by decide, by decide, by decide +kernel⟩, w_1698, ws_98⟩
theorem mv_X8_pass : MV yX8_pass cX8_pass 1 none 0 := ⟨⟨w_1679, w_10, by decide, by decide, by decide +kernel⟩, w_1678, ws_93⟩
theorem mv_X8_wrong : MV yX8_wrong cX8_wrong 2 none 1 := ⟨⟨w_1675, w_10, by decide, by decide, by decide +kernel⟩, w_1674, ws_92⟩
theorem mv_X8_isNumber : MV yX8_isNumber cX8_isNumber 1 (some .boolean) 0 := ⟨⟨w_1687, w_10, by decide, by decide, by decide +kernel⟩, w_1686, ws_95⟩
theorem mv_X8_numberHere : MV yX8_numberHere cX8_numberHere 3 (some .int) 0 := ⟨⟨w_1691, w_10, by decide, by decide, by decide +kernel⟩, w_1690, ws_96⟩
theorem mv_X8_number : MV yX8_number cX8_number 4 (some .int) 2 := ⟨⟨w_1683, w_10, by decide, by decide, by decide +kernel⟩, w_1682, ws_94⟩
theorem mv_X8_otherNumber : MV yX8_otherNumber cX8_otherNumber 3 (some .int) 2 := ⟨⟨w_1712, w_10, by decide, by decide, by decide +kernel⟩, w_1711, ws_101⟩
theorem mv_X8_readName : MV yX8_readName cX8_readName 3 none 1 := ⟨⟨w_1721, w_10, by decide, by decide, by decide +kernel⟩, w_1720, ws_103⟩
theorem mv_X8_isWord : MV yX8_isWord cX8_isWord 4 (some .boolean) 1 := ⟨⟨w_1669, w_10, by decide, by decide, by decide +kernel⟩, w_1668, ws_91⟩
theorem mv_X8_ruleHere : MV yX8_ruleHere cX8_ruleHere 1 (some .int) 0 := ⟨⟨w_1739, w_10, by decide, by decide, by decide +kernel⟩, w_1738, ws_107⟩
theorem mv_X8_readRule : MV yX8_readRule cX8_readRule 3 none 0 := ⟨⟨w_1735, w_10, by decide, by decide, by decide +kernel⟩, w_1734, ws_106⟩
theorem mv_X8_must : MV yX8_must cX8_must 2 none 1 := ⟨⟨w_1695, w_10, by decide, by decide, by decide +kernel⟩, w_1694, ws_97⟩
theorem mv_X8_readConsent : MV yX8_readConsent cX8_readConsent 3 none 0 := ⟨⟨w_1731, w_10, by decide, by decide, by decide +kernel⟩, w_1730, ws_105⟩
theorem mv_X8_readUse : MV yX8_readUse cX8_readUse 7 none 0 := ⟨⟨w_1726, w_10, by decide, by decide, by decide +kernel⟩, w_1725, ws_104⟩
theorem mv_X8_readMark : MV yX8_readMark cX8_readMark 5 none 0 := ⟨⟨w_1717, w_10, by decide, by decide, by decide +kernel⟩, w_1716, ws_102⟩
theorem mv_X8_readNear : MV yX8_readNear cX8_readNear 3 none 0 := ⟨⟨w_1708, w_10, by decide, by decide, by decide +kernel⟩, w_1707, ws_100⟩
theorem mv_X8_opens : MV yX8_opens cX8_opens 2 none 1 := ⟨⟨w_1650, w_10, by decide, by decide, by decide +kernel⟩, w_1649, ws_88⟩
theorem ms_X8_begins : MS yX8_begins cX8_begins 2 none 1 := ⟨⟨w_1159, w_10, by decide, by decide, by decide +kernel⟩, w_1158⟩
theorem mv_X8_ends : MV yX8_ends cX8_ends 1 (some .int) 0 := ⟨⟨w_1749, w_10, by decide, by decide, by decide +kernel⟩, w_1748, ws_108⟩
theorem mv_X8_readLine : MV yX8_readLine cX8_readLine 1 none 0 := ⟨⟨w_1703, w_10, by decide, by decide, by decide +kernel⟩, w_1702, ws_99⟩
theorem mv_X8_wordHere : MV yX8_wordHere cX8_wordHere 1 (some .int) 0 := ⟨⟨w_1784, w_10, by decide, by decide, by decide +kernel⟩, w_1783, ws_115⟩
theorem mv_X8_valueOf : MV yX8_valueOf cX8_valueOf 3 (some .int) 2 := ⟨⟨w_1796, w_10, by decide, by decide, by decide +kernel⟩, w_1795, ws_116⟩
-- X8_use (height 2)
def j_X8_use_47 (post : Int32 → GH → Prop) (v1 v2 v3 v4 s1 : Int32) (G : GH) : Prop :=
  (∀ G_4 : GH, G_4 = gs G 24 0 (upd (G 24 0) 5 s1) → (((G_4 24 0 5) ≤ 0 → wp_X8_of1 (fun (r_7 : Int32) (G_6 : GH) => ((r_7 = (12 : Int32) → post (-1 : Int32) G_6) ∧ (¬ r_7 = (12 : Int32) → wp_X8_keep (fun (G_9 : GH) => wp_X8_put (fun (G_11 : GH) => wp_X8_put (fun (G_13 : GH) => wp_X8_put (fun (G_15 : GH) => wp_X8_put (fun (G_17 : GH) => post r_7 G_17) v1 (13 : Int32) (r_7 + (1 : Int32)) G_15) v1 (((14 : Int32) + ((3 : Int32) * r_7)) + (2 : Int32)) v4 G_13) v1 (((14 : Int32) + ((3 : Int32) * r_7)) + (1 : Int32)) v3 G_11) v1 ((14 : Int32) + ((3 : Int32) * r_7)) v2 G_9) G_6))) v1 (13 : Int32) G_4) ∧ (¬ (G_4 24 0 5) ≤ 0 → post (0 : Int32) G_4)))
def j_X8_use_17 (post : Int32 → GH → Prop) (v1 v2 v3 v4 : Int32) (G : GH) : Prop :=
  j_X8_use_47 post v1 v2 v3 v4 (1 : Int32) G
def j_X8_use_42 (post : Int32 → GH → Prop) (v1 v2 v3 v4 : Int32) (G : GH) : Prop :=
  j_X8_use_47 post v1 v2 v3 v4 (2 : Int32) G
def wp_X8_use (post : Int32 → GH → Prop) (x1 x2 x3 x4 : Int32) (G : GH) : Prop :=
  wp_X8_isMark (fun (b_2 : Bool) (G_1 : GH) => ((b_2 = false → j_X8_use_17 post x1 x2 x3 x4 G_1) ∧ (b_2 = true → wp_X8_isHalf (fun (b_20 : Bool) (G_19 : GH) => ((b_20 = false → j_X8_use_17 post x1 x2 x3 x4 G_19) ∧ (b_20 = true → wp_X8_isDay (fun (b_23 : Bool) (G_22 : GH) => ((b_23 = false → j_X8_use_42 post x1 x2 x3 x4 G_22) ∧ (b_23 = true → wp_X8_isDay (fun (b_26 : Bool) (G_25 : GH) => ((b_26 = false → j_X8_use_42 post x1 x2 x3 x4 G_25) ∧ (b_26 = true → ((x3 ≤ x4 → j_X8_use_47 post x1 x2 x3 x4 (0 : Int32) G_25) ∧ (¬ x3 ≤ x4 → j_X8_use_42 post x1 x2 x3 x4 G_25))))) x4 G_22))) x3 G_19))) x2 G_1))) x1 G
set_option maxRecDepth 100000 in
set_option maxHeartbeats 4000000 in
theorem kj_X8_use_47 {E : Ev} {X : Cx} {post : Int32 → GH → Prop} {v1 v2 v3 v4 s1 : Int32} {G : GH} (F : Fx E X "MarkFieldModel" cX8_use 6) (T : RT E X 2 0 0 (some .int) (pI post)) (h : j_X8_use_47 post v1 v2 v3 v4 s1 G) : AW E X 6 47 [(0, .ref (sdX X 24 0)), (1, .int v1), (2, .int v2), (3, .int v3), (4, .int v4)] [.int s1, .ref (sdX X 24 0)] G 0 0 := by
  have hP := F.P
  refine pf8_5 F (lo_s rfl) (hP _ rfl) rfl w_1165 dX8_use_47 (fun G_4 eG_4 => ?_)
  replace h := h G_4 eG_4
  refine aw_al_n F 0 dX8_use_50 rfl rfl ?_
  refine gf8_5 F (lo_s rfl) (hP _ rfl) rfl w_1165 dX8_use_51 ?_
  refine aw_if_le (tgt := 59) F dX8_use_54 (by decide) (fun c_5 => ?_) (fun c_5 => ?_)
  · replace h := h.1 c_5
    refine aw_al_n F 0 dX8_use_59 rfl rfl ?_
    refine aw_il_n F 1 dX8_use_60 rfl rfl ?_
    refine aw_bi F dX8_use_61 bi_13 ?_
    refine aw_cVi (stk := []) F T.room [.int v1, .int (13 : Int32)] (k_X8_of1 hP h) mv_X8_of1 w_1313 cf8 (lo_s rfl) (hP _ rfl) rfl (by decide) rfl rfl (Nat.le_of_ble_eq_true rfl) ⟨(Nat.le_of_ble_eq_true rfl), (Nat.le_of_ble_eq_true rfl)⟩ ⟨(Nat.le_of_ble_eq_true rfl), (Nat.le_of_ble_eq_true rfl)⟩ dX8_use_63 (fun r_7 G_6 h => ?_)
    refine aw_is (lv1 := [(5, .int r_7), (0, .ref (sdX X 24 0)), (1, .int v1), (2, .int v2), (3, .int v3), (4, .int v4)]) F dX8_use_66 (by decide) rfl ?_
    refine aw_il F 0 dX8_use_68 rfl ?_
    refine aw_bi F dX8_use_70 bi_12 ?_
    refine aw_icmp_ne (tgt := 77) F dX8_use_72 (by decide) (fun c_8 => ?_) (fun c_8 => ?_)
    · replace h := h.2 c_8
      refine aw_al_n F 1 dX8_use_77 rfl rfl ?_
      refine aw_cVv (stk := []) F T.room [] (k_X8_keep hP h) mv_X8_keep w_1593 cf8 (lo_s rfl) (hP _ rfl) rfl (by decide) rfl rfl (Nat.le_of_ble_eq_true rfl) ⟨(Nat.le_of_ble_eq_true rfl), (Nat.le_of_ble_eq_true rfl)⟩ ⟨(Nat.le_of_ble_eq_true rfl), (Nat.le_of_ble_eq_true rfl)⟩ dX8_use_78 (fun G_9 h => ?_)
      refine aw_al_n F 1 dX8_use_81 rfl rfl ?_
      refine aw_il_n F 2 dX8_use_82 rfl rfl ?_
      refine aw_bi F dX8_use_83 bi_14 ?_
      refine aw_ic F dX8_use_85 ic_3 ?_
      refine aw_il F 0 dX8_use_86 rfl ?_
      refine aw_imul F dX8_use_88 ?_
      refine aw_iadd F dX8_use_89 ?_
      refine aw_il_n F 3 dX8_use_90 rfl rfl ?_
      refine aw_cVv (stk := []) F T.room [.int v1, .int ((14 : Int32) + ((3 : Int32) * r_7)), .int v2] (k_X8_put hP h) mv_X8_put w_1549 cf8 (lo_s rfl) (hP _ rfl) rfl (by decide) rfl rfl (Nat.le_of_ble_eq_true rfl) ⟨(Nat.le_of_ble_eq_true rfl), (Nat.le_of_ble_eq_true rfl)⟩ ⟨(Nat.le_of_ble_eq_true rfl), (Nat.le_of_ble_eq_true rfl)⟩ dX8_use_91 (fun G_11 h => ?_)
      refine aw_al_n F 1 dX8_use_94 rfl rfl ?_
      refine aw_il_n F 2 dX8_use_95 rfl rfl ?_
      refine aw_bi F dX8_use_96 bi_14 ?_
      refine aw_ic F dX8_use_98 ic_3 ?_
      refine aw_il F 0 dX8_use_99 rfl ?_
      refine aw_imul F dX8_use_101 ?_
      refine aw_iadd F dX8_use_102 ?_
      refine aw_ic F dX8_use_103 ic_1 ?_
      refine aw_iadd F dX8_use_104 ?_
      refine aw_il_n F 4 dX8_use_105 rfl rfl ?_
      refine aw_cVv (stk := []) F T.room [.int v1, .int (((14 : Int32) + ((3 : Int32) * r_7)) + (1 : Int32)), .int v3] (k_X8_put hP h) mv_X8_put w_1549 cf8 (lo_s rfl) (hP _ rfl) rfl (by decide) rfl rfl (Nat.le_of_ble_eq_true rfl) ⟨(Nat.le_of_ble_eq_true rfl), (Nat.le_of_ble_eq_true rfl)⟩ ⟨(Nat.le_of_ble_eq_true rfl), (Nat.le_of_ble_eq_true rfl)⟩ dX8_use_106 (fun G_13 h => ?_)
      refine aw_al_n F 1 dX8_use_109 rfl rfl ?_
      refine aw_il_n F 2 dX8_use_110 rfl rfl ?_
      refine aw_bi F dX8_use_111 bi_14 ?_
      refine aw_ic F dX8_use_113 ic_3 ?_
      refine aw_il F 0 dX8_use_114 rfl ?_
      refine aw_imul F dX8_use_116 ?_
      refine aw_iadd F dX8_use_117 ?_
      refine aw_ic F dX8_use_118 ic_2 ?_
      refine aw_iadd F dX8_use_119 ?_
      refine aw_il F 5 dX8_use_120 rfl ?_
      refine aw_cVv (stk := []) F T.room [.int v1, .int (((14 : Int32) + ((3 : Int32) * r_7)) + (2 : Int32)), .int v4] (k_X8_put hP h) mv_X8_put w_1549 cf8 (lo_s rfl) (hP _ rfl) rfl (by decide) rfl rfl (Nat.le_of_ble_eq_true rfl) ⟨(Nat.le_of_ble_eq_true rfl), (Nat.le_of_ble_eq_true rfl)⟩ ⟨(Nat.le_of_ble_eq_true rfl), (Nat.le_of_ble_eq_true rfl)⟩ dX8_use_122 (fun G_15 h => ?_)
      refine aw_al_n F 1 dX8_use_125 rfl rfl ?_
      refine aw_il_n F 2 dX8_use_126 rfl rfl ?_
      refine aw_bi F dX8_use_127 bi_13 ?_
      refine aw_il F 0 dX8_use_129 rfl ?_
      refine aw_ic F dX8_use_131 ic_1 ?_
      refine aw_iadd F dX8_use_132 ?_
      refine aw_cVv (stk := []) F T.room [.int v1, .int (13 : Int32), .int (r_7 + (1 : Int32))] (k_X8_put hP h) mv_X8_put w_1549 cf8 (lo_s rfl) (hP _ rfl) rfl (by decide) rfl rfl (Nat.le_of_ble_eq_true rfl) ⟨(Nat.le_of_ble_eq_true rfl), (Nat.le_of_ble_eq_true rfl)⟩ ⟨(Nat.le_of_ble_eq_true rfl), (Nat.le_of_ble_eq_true rfl)⟩ dX8_use_133 (fun G_17 h => ?_)
      refine aw_il F 0 dX8_use_136 rfl ?_
      exact aw_iret F T (Nat.le_of_ble_eq_true rfl) (Nat.le_of_ble_eq_true rfl) ⟨_, rfl, h⟩ dX8_use_138
    · replace h := h.1 c_8
      refine aw_ic F dX8_use_75 ic_m1 ?_
      exact aw_iret F T (Nat.le_of_ble_eq_true rfl) (Nat.le_of_ble_eq_true rfl) ⟨_, rfl, h⟩ dX8_use_76
  · replace h := h.2 c_5
    refine aw_ic F dX8_use_57 ic_0 ?_
    exact aw_iret F T (Nat.le_of_ble_eq_true rfl) (Nat.le_of_ble_eq_true rfl) ⟨_, rfl, h⟩ dX8_use_58
set_option maxRecDepth 100000 in
set_option maxHeartbeats 4000000 in
theorem kj_X8_use_17 {E : Ev} {X : Cx} {post : Int32 → GH → Prop} {v1 v2 v3 v4 : Int32} {G : GH} (F : Fx E X "MarkFieldModel" cX8_use 6) (T : RT E X 2 0 0 (some .int) (pI post)) (h : j_X8_use_17 post v1 v2 v3 v4 G) : AW E X 6 17 [(0, .ref (sdX X 24 0)), (1, .int v1), (2, .int v2), (3, .int v3), (4, .int v4)] [.ref (sdX X 24 0)] G 0 0 := by
  have hP := F.P
  refine aw_ic F dX8_use_17 ic_1 ?_
  refine aw_go (tgt := 47) F dX8_use_18 (by decide) ?_
  exact kj_X8_use_47 F T h
set_option maxRecDepth 100000 in
set_option maxHeartbeats 4000000 in
theorem kj_X8_use_42 {E : Ev} {X : Cx} {post : Int32 → GH → Prop} {v1 v2 v3 v4 : Int32} {G : GH} (F : Fx E X "MarkFieldModel" cX8_use 6) (T : RT E X 2 0 0 (some .int) (pI post)) (h : j_X8_use_42 post v1 v2 v3 v4 G) : AW E X 6 42 [(0, .ref (sdX X 24 0)), (1, .int v1), (2, .int v2), (3, .int v3), (4, .int v4)] [.ref (sdX X 24 0)] G 0 0 := by
  have hP := F.P
  refine aw_ic F dX8_use_42 ic_2 ?_
  refine aw_go (tgt := 47) F dX8_use_43 (by decide) ?_
  exact kj_X8_use_47 F T h
set_option maxRecDepth 100000 in
set_option maxHeartbeats 4000000 in
theorem k_X8_use {l : Launch} {E : Ev} {P : Nat → Prop} {sd : Nat → Nat → Nat} {G : GH} {post : Int32 → GH → Prop} {x1 x2 x3 x4 : Int32} (hPP : ∀ o, stt o = true → P o) (h : wp_X8_use post x1 x2 x3 x4 G) : Ct l yX8_use cX8_use 6 (some .int) 2 0 0 E P sd G [.ref (sd 24 0), .int x1, .int x2, .int x3, .int x4] (pI post) := by
  refine ct_of (own := "MarkFieldModel") (by decide) rfl (Nat.le_of_ble_eq_true rfl) hPP (fun X F T el eP es => ?_)
  subst el; subst eP; subst es
  have hP := F.P
  change AW E X 6 0 [(0, .ref (sdX X 24 0)), (1, .int x1), (2, .int x2), (3, .int x3), (4, .int x4)] [] G 0 0
  refine aw_al_n F 0 dX8_use_0 rfl rfl ?_
  refine aw_al_n F 0 dX8_use_1 rfl rfl ?_
  refine aw_il_n F 1 dX8_use_2 rfl rfl ?_
  refine aw_cVb (stk := [.ref (sdX X 24 0)]) F T.room [.int x1] (k_X8_isMark hP h) mv_X8_isMark w_1423 cf8 (lo_s rfl) (hP _ rfl) rfl (by decide) rfl rfl (Nat.le_of_ble_eq_true rfl) ⟨(Nat.le_of_ble_eq_true rfl), (Nat.le_of_ble_eq_true rfl)⟩ ⟨(Nat.le_of_ble_eq_true rfl), (Nat.le_of_ble_eq_true rfl)⟩ dX8_use_3 (fun b_2 G_1 h => ?_)
  refine aw_if_eq (tgt := 17) F dX8_use_6 (by decide) (fun c_3 => ?_) (fun c_3 => ?_)
  · replace h := h.1 (bI_2 c_3)
    exact kj_X8_use_17 F T h
  · replace h := h.2 (bI_1 c_3)
    refine aw_al_n F 0 dX8_use_9 rfl rfl ?_
    refine aw_il_n F 2 dX8_use_10 rfl rfl ?_
    refine aw_cVb (stk := [.ref (sdX X 24 0)]) F T.room [.int x2] (k_X8_isHalf hP h) mv_X8_isHalf w_1457 cf8 (lo_s rfl) (hP _ rfl) rfl (by decide) rfl rfl (Nat.le_of_ble_eq_true rfl) ⟨(Nat.le_of_ble_eq_true rfl), (Nat.le_of_ble_eq_true rfl)⟩ ⟨(Nat.le_of_ble_eq_true rfl), (Nat.le_of_ble_eq_true rfl)⟩ dX8_use_11 (fun b_20 G_19 h => ?_)
    refine aw_if_ne (tgt := 21) F dX8_use_14 (by decide) (fun c_21 => ?_) (fun c_21 => ?_)
    · replace h := h.2 (bI_1 c_21)
      refine aw_il_n F 3 dX8_use_21 rfl rfl ?_
      refine aw_cSb (stk := [.ref (sdX X 24 0)]) F T.room [.int x3] (k_X8_isDay hP h) ms_X8_isDay w_1461 rfl rfl (Nat.le_of_ble_eq_true rfl) ⟨(Nat.le_of_ble_eq_true rfl), (Nat.le_of_ble_eq_true rfl)⟩ ⟨(Nat.le_of_ble_eq_true rfl), (Nat.le_of_ble_eq_true rfl)⟩ dX8_use_22 (fun b_23 G_22 h => ?_)
      refine aw_if_eq (tgt := 42) F dX8_use_25 (by decide) (fun c_24 => ?_) (fun c_24 => ?_)
      · replace h := h.1 (bI_2 c_24)
        exact kj_X8_use_42 F T h
      · replace h := h.2 (bI_1 c_24)
        refine aw_il F 4 dX8_use_28 rfl ?_
        refine aw_cSb (stk := [.ref (sdX X 24 0)]) F T.room [.int x4] (k_X8_isDay hP h) ms_X8_isDay w_1461 rfl rfl (Nat.le_of_ble_eq_true rfl) ⟨(Nat.le_of_ble_eq_true rfl), (Nat.le_of_ble_eq_true rfl)⟩ ⟨(Nat.le_of_ble_eq_true rfl), (Nat.le_of_ble_eq_true rfl)⟩ dX8_use_30 (fun b_26 G_25 h => ?_)
        refine aw_if_eq (tgt := 42) F dX8_use_33 (by decide) (fun c_27 => ?_) (fun c_27 => ?_)
        · replace h := h.1 (bI_2 c_27)
          exact kj_X8_use_42 F T h
        · replace h := h.2 (bI_1 c_27)
          refine aw_il F 4 dX8_use_36 rfl ?_
          refine aw_il_n F 3 dX8_use_38 rfl rfl ?_
          refine aw_icmp_ge (tgt := 46) F dX8_use_39 (by decide) (fun c_28 => ?_) (fun c_28 => ?_)
          · replace h := h.1 c_28
            refine aw_ic F dX8_use_46 ic_0 ?_
            exact kj_X8_use_47 F T h
          · replace h := h.2 c_28
            exact kj_X8_use_42 F T h
    · replace h := h.1 (bI_2 c_21)
      exact kj_X8_use_17 F T h
-- X8_consents (height 0)
def j_X8_consents_83 (post : GH → Prop) (o1 k1 m1 : Nat) (s1 s2 : Int32) (G : GH) : Prop :=
  (vp_in s1 m1 ∧ (∀ G_6 : GH, G_6 = gs G o1 k1 (upd (G o1 k1) s1.toNatClampNeg s2) → post G_6))
def j_X8_consents_53 (post : GH → Prop) (o1 k1 m1 : Nat) (v2 v4 v6 s1 s2 : Int32) (G : GH) : Prop :=
  (vp_in s1 m1 ∧ (∀ G_4 : GH, G_4 = gs G o1 k1 (upd (G o1 k1) s1.toNatClampNeg s2) → ((v4 = 0 → (vp_in v6 m1 ∧ j_X8_consents_83 post o1 k1 m1 v6 ((G_4 o1 k1 v6.toNatClampNeg) &&& (((1 : Int32) <<< (v2 &&& 31)) ^^^ (-1 : Int32))) G_4)) ∧ (¬ v4 = 0 → (vp_in v6 m1 ∧ j_X8_consents_83 post o1 k1 m1 v6 ((G_4 o1 k1 v6.toNatClampNeg) ||| ((1 : Int32) <<< (v2 &&& 31))) G_4)))))
def wp_X8_consents (post : GH → Prop) (o1 k1 m1 : Nat) (x2 x3 x4 : Int32) (G : GH) : Prop :=
  (∀ y_1 : Int32, y_1 = (((18 : Int32) + ((51 : Int32) * x2)) + (50 : Int32)) → (∀ y_2 : Int32, y_2 = (((18 : Int32) + ((51 : Int32) * x3)) + (50 : Int32)) → ((x4 = 0 → (vp_in y_1 m1 ∧ j_X8_consents_53 post o1 k1 m1 x2 x4 y_2 y_1 ((G o1 k1 y_1.toNatClampNeg) &&& (((1 : Int32) <<< (x3 &&& 31)) ^^^ (-1 : Int32))) G)) ∧ (¬ x4 = 0 → (vp_in y_1 m1 ∧ j_X8_consents_53 post o1 k1 m1 x2 x4 y_2 y_1 ((G o1 k1 y_1.toNatClampNeg) ||| ((1 : Int32) <<< (x3 &&& 31))) G)))))
set_option maxRecDepth 100000 in
set_option maxHeartbeats 4000000 in
theorem kj_X8_consents_83 {E : Ev} {X : Cx} {post : GH → Prop} {o1 k1 m1 : Nat} {s1 s2 : Int32} {G : GH} (F : Fx E X "MarkFieldModel" cX8_consents 7) (T : RT E X 0 0 0 none (pV post)) (hs1 : stt o1 = true) (ha1 : al (oc o1) k1 = some (0, m1)) (h : j_X8_consents_83 post o1 k1 m1 s1 s2 G) : AW E X 7 83 [] [.int s2, .int s1, .ref (sdX X o1 k1)] G 0 0 := by
  have hP := F.P
  refine aw_iast F o1 k1 (lo_s hs1) (hP _ hs1) ha1 h.1 dX8_consents_83 ?_
  refine aw_nG (fun G_6 eG_6 => ?_)
  replace h := h.2 G_6 eG_6
  exact aw_vret F T (Nat.le_of_ble_eq_true rfl) (Nat.le_of_ble_eq_true rfl) ⟨rfl, h⟩ dX8_consents_84
set_option maxRecDepth 100000 in
set_option maxHeartbeats 4000000 in
theorem kj_X8_consents_53 {E : Ev} {X : Cx} {post : GH → Prop} {o1 k1 m1 : Nat} {v2 v4 v6 s1 s2 : Int32} {G : GH} (F : Fx E X "MarkFieldModel" cX8_consents 7) (T : RT E X 0 0 0 none (pV post)) (hs1 : stt o1 = true) (ha1 : al (oc o1) k1 = some (0, m1)) (h : j_X8_consents_53 post o1 k1 m1 v2 v4 v6 s1 s2 G) : AW E X 7 53 [(1, .ref (sdX X o1 k1)), (2, .int v2), (4, .int v4), (6, .int v6)] [.int s2, .int s1, .ref (sdX X o1 k1)] G 0 0 := by
  have hP := F.P
  refine aw_iast F o1 k1 (lo_s hs1) (hP _ hs1) ha1 h.1 dX8_consents_53 ?_
  refine aw_nG (fun G_4 eG_4 => ?_)
  replace h := h.2 G_4 eG_4
  refine aw_al_n F 0 dX8_consents_54 rfl rfl ?_
  refine aw_il F 3 dX8_consents_55 rfl ?_
  refine aw_il F 2 dX8_consents_57 rfl ?_
  refine aw_if_eq (tgt := 73) F dX8_consents_59 (by decide) (fun c_5 => ?_) (fun c_5 => ?_)
  · replace h := h.1 c_5
    refine aw_al_n F 0 dX8_consents_73 rfl rfl ?_
    refine aw_il F 3 dX8_consents_74 rfl ?_
    refine aw_iald F o1 k1 (lo_s hs1) (hP _ hs1) ha1 h.1 dX8_consents_76 ?_
    replace h := h.2
    refine aw_ic F dX8_consents_77 ic_1 ?_
    refine aw_il_n F 1 dX8_consents_78 rfl rfl ?_
    refine aw_ishl F dX8_consents_79 ?_
    refine aw_ic F dX8_consents_80 ic_m1 ?_
    refine aw_ixor F dX8_consents_81 ?_
    refine aw_iand F dX8_consents_82 ?_
    refine aw_sub [] rfl ?_
    exact kj_X8_consents_83 F T hs1 ha1 h
  · replace h := h.2 c_5
    refine aw_al_n F 0 dX8_consents_62 rfl rfl ?_
    refine aw_il F 3 dX8_consents_63 rfl ?_
    refine aw_iald F o1 k1 (lo_s hs1) (hP _ hs1) ha1 h.1 dX8_consents_65 ?_
    replace h := h.2
    refine aw_ic F dX8_consents_66 ic_1 ?_
    refine aw_il_n F 1 dX8_consents_67 rfl rfl ?_
    refine aw_ishl F dX8_consents_68 ?_
    refine aw_ior F dX8_consents_69 ?_
    refine aw_go (tgt := 83) F dX8_consents_70 (by decide) ?_
    refine aw_sub [] rfl ?_
    exact kj_X8_consents_83 F T hs1 ha1 h
set_option maxRecDepth 100000 in
set_option maxHeartbeats 4000000 in
theorem k_X8_consents {l : Launch} {E : Ev} {P : Nat → Prop} {sd : Nat → Nat → Nat} {G : GH} {post : GH → Prop} {o1 k1 m1 : Nat} {x2 x3 x4 : Int32} (hPP : ∀ o, stt o = true → P o) (hs1 : stt o1 = true) (ha1 : al (oc o1) k1 = some (0, m1)) (h : wp_X8_consents post o1 k1 m1 x2 x3 x4 G) : Ct l yX8_consents cX8_consents 7 none 0 0 0 E P sd G [.ref (sd 24 0), .ref (sd o1 k1), .int x2, .int x3, .int x4] (pV post) := by
  refine ct_of (own := "MarkFieldModel") (by decide) rfl (Nat.le_of_ble_eq_true rfl) hPP (fun X F T el eP es => ?_)
  subst el; subst eP; subst es
  have hP := F.P
  change AW E X 7 0 [(0, .ref (sdX X 24 0)), (1, .ref (sdX X o1 k1)), (2, .int x2), (3, .int x3), (4, .int x4)] [] G 0 0
  refine aw_bi F dX8_consents_0 bi_18 ?_
  refine aw_bi F dX8_consents_2 bi_51 ?_
  refine aw_il_n F 2 dX8_consents_4 rfl rfl ?_
  refine aw_imul F dX8_consents_5 ?_
  refine aw_iadd F dX8_consents_6 ?_
  refine aw_bi F dX8_consents_7 bi_50 ?_
  refine aw_iadd F dX8_consents_9 ?_
  refine aw_top (fun y_1 ey_1 => ?_)
  replace h := h y_1 ey_1
  refine aw_is (lv1 := [(5, .int y_1), (0, .ref (sdX X 24 0)), (1, .ref (sdX X o1 k1)), (2, .int x2), (3, .int x3), (4, .int x4)]) F dX8_consents_10 (by decide) rfl ?_
  refine aw_bi F dX8_consents_12 bi_18 ?_
  refine aw_bi F dX8_consents_14 bi_51 ?_
  refine aw_il_n F 4 dX8_consents_16 rfl rfl ?_
  refine aw_imul F dX8_consents_17 ?_
  refine aw_iadd F dX8_consents_18 ?_
  refine aw_bi F dX8_consents_19 bi_50 ?_
  refine aw_iadd F dX8_consents_21 ?_
  refine aw_top (fun y_2 ey_2 => ?_)
  replace h := h y_2 ey_2
  refine aw_is (lv1 := [(6, .int y_2), (5, .int y_1), (0, .ref (sdX X 24 0)), (1, .ref (sdX X o1 k1)), (2, .int x2), (3, .int x3), (4, .int x4)]) F dX8_consents_22 (by decide) rfl ?_
  refine aw_al_n F 3 dX8_consents_24 rfl rfl ?_
  refine aw_il F 1 dX8_consents_25 rfl ?_
  refine aw_il F 6 dX8_consents_27 rfl ?_
  refine aw_if_eq (tgt := 43) F dX8_consents_29 (by decide) (fun c_3 => ?_) (fun c_3 => ?_)
  · replace h := h.1 c_3
    refine aw_al_n F 3 dX8_consents_43 rfl rfl ?_
    refine aw_il F 1 dX8_consents_44 rfl ?_
    refine aw_iald F o1 k1 (lo_s hs1) (hP _ hs1) ha1 h.1 dX8_consents_46 ?_
    replace h := h.2
    refine aw_ic F dX8_consents_47 ic_1 ?_
    refine aw_il_n F 5 dX8_consents_48 rfl rfl ?_
    refine aw_ishl F dX8_consents_49 ?_
    refine aw_ic F dX8_consents_50 ic_m1 ?_
    refine aw_ixor F dX8_consents_51 ?_
    refine aw_iand F dX8_consents_52 ?_
    refine aw_sub [3, 4, 6, 0] rfl ?_
    exact kj_X8_consents_53 F T hs1 ha1 h
  · replace h := h.2 c_3
    refine aw_al_n F 3 dX8_consents_32 rfl rfl ?_
    refine aw_il F 1 dX8_consents_33 rfl ?_
    refine aw_iald F o1 k1 (lo_s hs1) (hP _ hs1) ha1 h.1 dX8_consents_35 ?_
    replace h := h.2
    refine aw_ic F dX8_consents_36 ic_1 ?_
    refine aw_il_n F 5 dX8_consents_37 rfl rfl ?_
    refine aw_ishl F dX8_consents_38 ?_
    refine aw_ior F dX8_consents_39 ?_
    refine aw_go (tgt := 53) F dX8_consents_40 (by decide) ?_
    refine aw_sub [3, 4, 6, 0] rfl ?_
    exact kj_X8_consents_53 F T hs1 ha1 h
-- X8_consent (height 3)
def j_X8_consent_15 (post : Bool → GH → Prop) (v1 v2 v3 s1 : Int32) (G : GH) : Prop :=
  (∀ G_4 : GH, G_4 = gs G 24 0 (upd (G 24 0) 5 s1) → (((G_4 24 0 5) ≤ 0 → wp_X8_of1 (fun (r_7 : Int32) (G_6 : GH) => wp_X8_has (fun (b_9 : Bool) (G_8 : GH) => wp_X8_keep (fun (G_10 : GH) => wp_X8_consents (fun (G_12 : GH) => post b_9 G_12) 24 1 681 v1 v2 v3 G_10) G_8) r_7 v2 G_6) v1 (50 : Int32) G_4) ∧ (¬ (G_4 24 0 5) ≤ 0 → post false G_4)))
def wp_X8_consent (post : Bool → GH → Prop) (x1 x2 x3 : Int32) (G : GH) : Prop :=
  wp_X8_areTwoMarks (fun (b_2 : Bool) (G_1 : GH) => ((b_2 = false → j_X8_consent_15 post x1 x2 x3 (1 : Int32) G_1) ∧ (b_2 = true → j_X8_consent_15 post x1 x2 x3 (0 : Int32) G_1))) x1 x2 G
set_option maxRecDepth 100000 in
set_option maxHeartbeats 4000000 in
theorem kj_X8_consent_15 {E : Ev} {X : Cx} {post : Bool → GH → Prop} {v1 v2 v3 s1 : Int32} {G : GH} (F : Fx E X "MarkFieldModel" cX8_consent 5) (T : RT E X 3 0 0 (some .boolean) (pB post)) (h : j_X8_consent_15 post v1 v2 v3 s1 G) : AW E X 5 15 [(0, .ref (sdX X 24 0)), (1, .int v1), (2, .int v2), (3, .int v3)] [.int s1, .ref (sdX X 24 0)] G 0 0 := by
  have hP := F.P
  refine pf8_5 F (lo_s rfl) (hP _ rfl) rfl w_1165 dX8_consent_15 (fun G_4 eG_4 => ?_)
  replace h := h G_4 eG_4
  refine aw_al_n F 0 dX8_consent_18 rfl rfl ?_
  refine gf8_5 F (lo_s rfl) (hP _ rfl) rfl w_1165 dX8_consent_19 ?_
  refine aw_if_le (tgt := 27) F dX8_consent_22 (by decide) (fun c_5 => ?_) (fun c_5 => ?_)
  · replace h := h.1 c_5
    refine aw_al_n F 0 dX8_consent_27 rfl rfl ?_
    refine aw_il_n F 1 dX8_consent_28 rfl rfl ?_
    refine aw_bi F dX8_consent_29 bi_50 ?_
    refine aw_cVi (stk := []) F T.room [.int v1, .int (50 : Int32)] (k_X8_of1 hP h) mv_X8_of1 w_1313 cf8 (lo_s rfl) (hP _ rfl) rfl (by decide) rfl rfl (Nat.le_of_ble_eq_true rfl) ⟨(Nat.le_of_ble_eq_true rfl), (Nat.le_of_ble_eq_true rfl)⟩ ⟨(Nat.le_of_ble_eq_true rfl), (Nat.le_of_ble_eq_true rfl)⟩ dX8_consent_31 (fun r_7 G_6 h => ?_)
    refine aw_il_n F 2 dX8_consent_34 rfl rfl ?_
    refine aw_cSb (stk := []) F T.room [.int r_7, .int v2] (k_X8_has hP h) ms_X8_has w_1385 rfl rfl (Nat.le_of_ble_eq_true rfl) ⟨(Nat.le_of_ble_eq_true rfl), (Nat.le_of_ble_eq_true rfl)⟩ ⟨(Nat.le_of_ble_eq_true rfl), (Nat.le_of_ble_eq_true rfl)⟩ dX8_consent_35 (fun b_9 G_8 h => ?_)
    refine aw_is (lv1 := [(4, .int (bI b_9)), (0, .ref (sdX X 24 0)), (1, .int v1), (2, .int v2), (3, .int v3)]) F dX8_consent_38 (by decide) rfl ?_
    refine aw_al_n F 1 dX8_consent_40 rfl rfl ?_
    refine aw_cVv (stk := []) F T.room [] (k_X8_keep hP h) mv_X8_keep w_1593 cf8 (lo_s rfl) (hP _ rfl) rfl (by decide) rfl rfl (Nat.le_of_ble_eq_true rfl) ⟨(Nat.le_of_ble_eq_true rfl), (Nat.le_of_ble_eq_true rfl)⟩ ⟨(Nat.le_of_ble_eq_true rfl), (Nat.le_of_ble_eq_true rfl)⟩ dX8_consent_41 (fun G_10 h => ?_)
    refine aw_al_n F 1 dX8_consent_44 rfl rfl ?_
    refine aw_al_n F 1 dX8_consent_45 rfl rfl ?_
    refine gr8_0 F (lo_s rfl) (hP _ rfl) rfl w_1160 (hP _ rfl) dX8_consent_46 ?_
    refine aw_il_n F 2 dX8_consent_49 rfl rfl ?_
    refine aw_il_n F 3 dX8_consent_50 rfl rfl ?_
    refine aw_il_n F 4 dX8_consent_51 rfl rfl ?_
    refine aw_cVv (stk := []) F T.room [.ref (sdX X 24 1), .int v1, .int v2, .int v3] (k_X8_consents hP rfl rfl h) mv_X8_consents w_1605 cf8 (lo_s rfl) (hP _ rfl) rfl (by decide) rfl rfl (Nat.le_of_ble_eq_true rfl) ⟨(Nat.le_of_ble_eq_true rfl), (Nat.le_of_ble_eq_true rfl)⟩ ⟨(Nat.le_of_ble_eq_true rfl), (Nat.le_of_ble_eq_true rfl)⟩ dX8_consent_52 (fun G_12 h => ?_)
    refine aw_il F 0 dX8_consent_55 rfl ?_
    exact aw_zret F T b_9 rfl (Nat.le_of_ble_eq_true rfl) (Nat.le_of_ble_eq_true rfl) ⟨_, rfl, h⟩ dX8_consent_57
  · replace h := h.2 c_5
    refine aw_ic F dX8_consent_25 ic_0 ?_
    exact aw_zret F T false rfl (Nat.le_of_ble_eq_true rfl) (Nat.le_of_ble_eq_true rfl) ⟨_, rfl, h⟩ dX8_consent_26
set_option maxRecDepth 100000 in
set_option maxHeartbeats 4000000 in
theorem k_X8_consent {l : Launch} {E : Ev} {P : Nat → Prop} {sd : Nat → Nat → Nat} {G : GH} {post : Bool → GH → Prop} {x1 x2 x3 : Int32} (hPP : ∀ o, stt o = true → P o) (h : wp_X8_consent post x1 x2 x3 G) : Ct l yX8_consent cX8_consent 5 (some .boolean) 3 0 0 E P sd G [.ref (sd 24 0), .int x1, .int x2, .int x3] (pB post) := by
  refine ct_of (own := "MarkFieldModel") (by decide) rfl (Nat.le_of_ble_eq_true rfl) hPP (fun X F T el eP es => ?_)
  subst el; subst eP; subst es
  have hP := F.P
  change AW E X 5 0 [(0, .ref (sdX X 24 0)), (1, .int x1), (2, .int x2), (3, .int x3)] [] G 0 0
  refine aw_al_n F 0 dX8_consent_0 rfl rfl ?_
  refine aw_al_n F 0 dX8_consent_1 rfl rfl ?_
  refine aw_il_n F 1 dX8_consent_2 rfl rfl ?_
  refine aw_il_n F 2 dX8_consent_3 rfl rfl ?_
  refine aw_cVb (stk := [.ref (sdX X 24 0)]) F T.room [.int x1, .int x2] (k_X8_areTwoMarks hP h) mv_X8_areTwoMarks w_1442 cf8 (lo_s rfl) (hP _ rfl) rfl (by decide) rfl rfl (Nat.le_of_ble_eq_true rfl) ⟨(Nat.le_of_ble_eq_true rfl), (Nat.le_of_ble_eq_true rfl)⟩ ⟨(Nat.le_of_ble_eq_true rfl), (Nat.le_of_ble_eq_true rfl)⟩ dX8_consent_4 (fun b_2 G_1 h => ?_)
  refine aw_if_eq (tgt := 14) F dX8_consent_7 (by decide) (fun c_3 => ?_) (fun c_3 => ?_)
  · replace h := h.1 (bI_2 c_3)
    refine aw_ic F dX8_consent_14 ic_1 ?_
    exact kj_X8_consent_15 F T h
  · replace h := h.2 (bI_1 c_3)
    refine aw_ic F dX8_consent_10 ic_0 ?_
    refine aw_go (tgt := 15) F dX8_consent_11 (by decide) ?_
    exact kj_X8_consent_15 F T h
-- X8_drop (height 2)
def lb_X8_drop_87 (post : Int32 → GH → Prop) (P87 : Int32 → Int32 → GH → Prop) (v2 v3 : Int32) (G : GH) : Prop :=
  wp_X8_marks (fun (r_13 : Int32) (G_12 : GH) => ((r_13 ≤ v3 → wp_X8_marks (fun (r_16 : Int32) (G_15 : GH) => post r_16 G_15) G_12) ∧ (¬ r_13 ≤ v3 → wp_X8_of1 (fun (r_18 : Int32) (G_17 : GH) => wp_X8_put (fun (G_19 : GH) => P87 v2 (v3 + (1 : Int32)) G_19) v3 (50 : Int32) ((r_18 &&& v2) ||| ((r_18 >>> ((1 : Int32) &&& 31)) &&& (v2 ^^^ (-1 : Int32)))) G_17) v3 (50 : Int32) G_12))) G
def lp_X8_drop_87 (post : Int32 → GH → Prop) (v2 v3 : Int32) (G : GH) : Prop := ∀ P87 : Int32 → Int32 → GH → Prop, (∀ (v2 v3 : Int32) (G : GH), lb_X8_drop_87 post P87 v2 v3 G → P87 v2 v3 G) → P87 v2 v3 G
def lb_X8_drop_37 (post : Int32 → GH → Prop) (P25 : Int32 → Int32 → GH → Prop) (P37 : Int32 → Int32 → Int32 → GH → Prop) (v1 v2 v3 : Int32) (G : GH) : Prop :=
  (((51 : Int32) ≤ v3 → P25 v1 (v2 + (1 : Int32)) G) ∧ (¬ (51 : Int32) ≤ v3 → wp_X8_of1 (fun (r_23 : Int32) (G_22 : GH) => wp_X8_put (fun (G_24 : GH) => P37 v1 v2 (v3 + (1 : Int32)) G_24) v2 v3 r_23 G_22) (v2 + (1 : Int32)) v3 G))
def lp_X8_drop_37 (post : Int32 → GH → Prop) (P25 : Int32 → Int32 → GH → Prop) (v1 v2 v3 : Int32) (G : GH) : Prop := ∀ P37 : Int32 → Int32 → Int32 → GH → Prop, (∀ (v1 v2 v3 : Int32) (G : GH), lb_X8_drop_37 post P25 P37 v1 v2 v3 G → P37 v1 v2 v3 G) → P37 v1 v2 v3 G
def lb_X8_drop_25 (post : Int32 → GH → Prop) (P25 : Int32 → Int32 → GH → Prop) (v1 v2 : Int32) (G : GH) : Prop :=
  wp_X8_marks (fun (r_8 : Int32) (G_7 : GH) => ((r_8 ≤ (v2 + (1 : Int32)) → (∀ G_10 : GH, G_10 = gs G_7 24 1 (upd (G_7 24 1) 1 ((G_7 24 1 1) - (1 : Int32))) → (∀ y_11 : Int32, y_11 = (((1 : Int32) <<< (v1 &&& 31)) - (1 : Int32)) → lp_X8_drop_87 post y_11 (0 : Int32) G_10))) ∧ (¬ r_8 ≤ (v2 + (1 : Int32)) → lp_X8_drop_37 post P25 v1 v2 (0 : Int32) G_7))) G
def lp_X8_drop_25 (post : Int32 → GH → Prop) (v1 v2 : Int32) (G : GH) : Prop := ∀ P25 : Int32 → Int32 → GH → Prop, (∀ (v1 v2 : Int32) (G : GH), lb_X8_drop_25 post P25 v1 v2 G → P25 v1 v2 G) → P25 v1 v2 G
def wp_X8_drop (post : Int32 → GH → Prop) (x1 : Int32) (G : GH) : Prop :=
  (∀ G_1 : GH, G_1 = gs G 24 0 (upd (G 24 0) 5 (0 : Int32)) → wp_X8_isMark (fun (b_3 : Bool) (G_2 : GH) => ((b_3 = false → wp_X8_fail (fun (r_27 : Int32) (G_26 : GH) => post r_27 G_26) (1 : Int32) G_2) ∧ (b_3 = true → wp_X8_keep (fun (G_5 : GH) => lp_X8_drop_25 post x1 x1 G_5) G_2))) x1 G_1)
set_option maxRecDepth 100000 in
set_option maxHeartbeats 4000000 in
theorem kl_X8_drop_87 {E : Ev} {X : Cx} {post : Int32 → GH → Prop} {v2 v3 : Int32} {G : GH} (F : Fx E X "MarkFieldModel" cX8_drop 5) (T : RT E X 2 0 0 (some .int) (pI post)) (h : lp_X8_drop_87 post v2 v3 G) : AW E X 5 87 [(0, .ref (sdX X 24 0)), (2, .int v2), (3, .int v3)] [] G 0 0 := by
  have hP := F.P
  have K87 : ∀ (v2 v3 : Int32) (G : GH), AW E X 5 87 [(0, .ref (sdX X 24 0)), (2, .int v2), (3, .int v3)] [] G 0 0 → AW E X 5 87 [(0, .ref (sdX X 24 0)), (2, .int v2), (3, .int v3)] [] G 0 0 := fun _ _ _ q => q
  refine h (fun (v2 v3 : Int32) (G : GH) => AW E X 5 87 [(0, .ref (sdX X 24 0)), (2, .int v2), (3, .int v3)] [] G 0 0) (fun (v2 v3 : Int32) (G : GH) h => ?_)
  refine aw_il_n F 2 dX8_drop_87 rfl rfl ?_
  refine aw_al_n F 0 dX8_drop_88 rfl rfl ?_
  refine aw_cVi (stk := [.int v3]) F T.room [] (k_X8_marks hP h) mv_X8_marks w_1305 cf8 (lo_s rfl) (hP _ rfl) rfl (by decide) rfl rfl (Nat.le_of_ble_eq_true rfl) ⟨(Nat.le_of_ble_eq_true rfl), (Nat.le_of_ble_eq_true rfl)⟩ ⟨(Nat.le_of_ble_eq_true rfl), (Nat.le_of_ble_eq_true rfl)⟩ dX8_drop_89 (fun r_13 G_12 h => ?_)
  refine aw_icmp_ge (tgt := 130) F dX8_drop_92 (by decide) (fun c_14 => ?_) (fun c_14 => ?_)
  · replace h := h.1 c_14
    refine aw_al_n F 0 dX8_drop_130 rfl rfl ?_
    refine aw_cVi (stk := []) F T.room [] (k_X8_marks hP h) mv_X8_marks w_1305 cf8 (lo_s rfl) (hP _ rfl) rfl (by decide) rfl rfl (Nat.le_of_ble_eq_true rfl) ⟨(Nat.le_of_ble_eq_true rfl), (Nat.le_of_ble_eq_true rfl)⟩ ⟨(Nat.le_of_ble_eq_true rfl), (Nat.le_of_ble_eq_true rfl)⟩ dX8_drop_131 (fun r_16 G_15 h => ?_)
    exact aw_iret F T (Nat.le_of_ble_eq_true rfl) (Nat.le_of_ble_eq_true rfl) ⟨_, rfl, h⟩ dX8_drop_134
  · replace h := h.2 c_14
    refine aw_al_n F 0 dX8_drop_95 rfl rfl ?_
    refine aw_il_n F 2 dX8_drop_96 rfl rfl ?_
    refine aw_bi F dX8_drop_97 bi_50 ?_
    refine aw_cVi (stk := []) F T.room [.int v3, .int (50 : Int32)] (k_X8_of1 hP h) mv_X8_of1 w_1313 cf8 (lo_s rfl) (hP _ rfl) rfl (by decide) rfl rfl (Nat.le_of_ble_eq_true rfl) ⟨(Nat.le_of_ble_eq_true rfl), (Nat.le_of_ble_eq_true rfl)⟩ ⟨(Nat.le_of_ble_eq_true rfl), (Nat.le_of_ble_eq_true rfl)⟩ dX8_drop_99 (fun r_18 G_17 h => ?_)
    refine aw_is (lv1 := [(4, .int r_18), (0, .ref (sdX X 24 0)), (2, .int v2), (3, .int v3)]) F dX8_drop_102 (by decide) rfl ?_
    refine aw_al_n F 1 dX8_drop_104 rfl rfl ?_
    refine aw_il_n F 3 dX8_drop_105 rfl rfl ?_
    refine aw_bi F dX8_drop_106 bi_50 ?_
    refine aw_il F 0 dX8_drop_108 rfl ?_
    refine aw_il_n F 2 dX8_drop_110 rfl rfl ?_
    refine aw_iand F dX8_drop_111 ?_
    refine aw_il F 0 dX8_drop_112 rfl ?_
    refine aw_ic F dX8_drop_114 ic_1 ?_
    refine aw_ishr F dX8_drop_115 ?_
    refine aw_il_n F 2 dX8_drop_116 rfl rfl ?_
    refine aw_ic F dX8_drop_117 ic_m1 ?_
    refine aw_ixor F dX8_drop_118 ?_
    refine aw_iand F dX8_drop_119 ?_
    refine aw_ior F dX8_drop_120 ?_
    refine aw_cVv (stk := []) F T.room [.int v3, .int (50 : Int32), .int ((r_18 &&& v2) ||| ((r_18 >>> ((1 : Int32) &&& 31)) &&& (v2 ^^^ (-1 : Int32))))] (k_X8_put hP h) mv_X8_put w_1549 cf8 (lo_s rfl) (hP _ rfl) rfl (by decide) rfl rfl (Nat.le_of_ble_eq_true rfl) ⟨(Nat.le_of_ble_eq_true rfl), (Nat.le_of_ble_eq_true rfl)⟩ ⟨(Nat.le_of_ble_eq_true rfl), (Nat.le_of_ble_eq_true rfl)⟩ dX8_drop_121 (fun G_19 h => ?_)
    refine aw_inc (lv1 := [(3, .int (v3 + (1 : Int32))), (4, .int r_18), (0, .ref (sdX X 24 0)), (2, .int v2)]) F 3 dX8_drop_124 rfl (in_1 _) (by decide) rfl ?_
    refine aw_go (tgt := 87) F dX8_drop_127 (by decide) ?_
    refine aw_sub [2, 3, 0] rfl ?_
    exact K87 _ _ _ h
set_option maxRecDepth 100000 in
set_option maxHeartbeats 4000000 in
theorem kl_X8_drop_37 {E : Ev} {X : Cx} {post : Int32 → GH → Prop} {P25 : Int32 → Int32 → GH → Prop} {v1 v2 v3 : Int32} {G : GH} (F : Fx E X "MarkFieldModel" cX8_drop 5) (T : RT E X 2 0 0 (some .int) (pI post)) (K25 : ∀ (v1 v2 : Int32) (G : GH), P25 v1 v2 G → AW E X 5 25 [(0, .ref (sdX X 24 0)), (1, .int v1), (2, .int v2)] [] G 0 0) (h : lp_X8_drop_37 post P25 v1 v2 v3 G) : AW E X 5 37 [(0, .ref (sdX X 24 0)), (1, .int v1), (2, .int v2), (3, .int v3)] [] G 0 0 := by
  have hP := F.P
  have K37 : ∀ (v1 v2 v3 : Int32) (G : GH), AW E X 5 37 [(0, .ref (sdX X 24 0)), (1, .int v1), (2, .int v2), (3, .int v3)] [] G 0 0 → AW E X 5 37 [(0, .ref (sdX X 24 0)), (1, .int v1), (2, .int v2), (3, .int v3)] [] G 0 0 := fun _ _ _ _ q => q
  refine h (fun (v1 v2 v3 : Int32) (G : GH) => AW E X 5 37 [(0, .ref (sdX X 24 0)), (1, .int v1), (2, .int v2), (3, .int v3)] [] G 0 0) (fun (v1 v2 v3 : Int32) (G : GH) h => ?_)
  refine aw_il_n F 3 dX8_drop_37 rfl rfl ?_
  refine aw_bi F dX8_drop_38 bi_51 ?_
  refine aw_icmp_ge (tgt := 63) F dX8_drop_40 (by decide) (fun c_21 => ?_) (fun c_21 => ?_)
  · replace h := h.1 c_21
    refine aw_inc (lv1 := [(2, .int (v2 + (1 : Int32))), (0, .ref (sdX X 24 0)), (1, .int v1), (3, .int v3)]) F 2 dX8_drop_63 rfl (in_1 _) (by decide) rfl ?_
    refine aw_go (tgt := 25) F dX8_drop_66 (by decide) ?_
    refine aw_sub [1, 2, 0] rfl ?_
    exact K25 _ _ _ h
  · replace h := h.2 c_21
    refine aw_al_n F 0 dX8_drop_43 rfl rfl ?_
    refine aw_il_n F 2 dX8_drop_44 rfl rfl ?_
    refine aw_il_n F 3 dX8_drop_45 rfl rfl ?_
    refine aw_al_n F 0 dX8_drop_46 rfl rfl ?_
    refine aw_il_n F 2 dX8_drop_47 rfl rfl ?_
    refine aw_ic F dX8_drop_48 ic_1 ?_
    refine aw_iadd F dX8_drop_49 ?_
    refine aw_il_n F 3 dX8_drop_50 rfl rfl ?_
    refine aw_cVi (stk := [.int v3, .int v2, .ref (sdX X 24 0)]) F T.room [.int (v2 + (1 : Int32)), .int v3] (k_X8_of1 hP h) mv_X8_of1 w_1313 cf8 (lo_s rfl) (hP _ rfl) rfl (by decide) rfl rfl (Nat.le_of_ble_eq_true rfl) ⟨(Nat.le_of_ble_eq_true rfl), (Nat.le_of_ble_eq_true rfl)⟩ ⟨(Nat.le_of_ble_eq_true rfl), (Nat.le_of_ble_eq_true rfl)⟩ dX8_drop_51 (fun r_23 G_22 h => ?_)
    refine aw_cVv (stk := []) F T.room [.int v2, .int v3, .int r_23] (k_X8_put hP h) mv_X8_put w_1549 cf8 (lo_s rfl) (hP _ rfl) rfl (by decide) rfl rfl (Nat.le_of_ble_eq_true rfl) ⟨(Nat.le_of_ble_eq_true rfl), (Nat.le_of_ble_eq_true rfl)⟩ ⟨(Nat.le_of_ble_eq_true rfl), (Nat.le_of_ble_eq_true rfl)⟩ dX8_drop_54 (fun G_24 h => ?_)
    refine aw_inc (lv1 := [(3, .int (v3 + (1 : Int32))), (0, .ref (sdX X 24 0)), (1, .int v1), (2, .int v2)]) F 3 dX8_drop_57 rfl (in_1 _) (by decide) rfl ?_
    refine aw_go (tgt := 37) F dX8_drop_60 (by decide) ?_
    refine aw_sub [1, 2, 3, 0] rfl ?_
    exact K37 _ _ _ _ h
set_option maxRecDepth 100000 in
set_option maxHeartbeats 4000000 in
theorem kl_X8_drop_25 {E : Ev} {X : Cx} {post : Int32 → GH → Prop} {v1 v2 : Int32} {G : GH} (F : Fx E X "MarkFieldModel" cX8_drop 5) (T : RT E X 2 0 0 (some .int) (pI post)) (h : lp_X8_drop_25 post v1 v2 G) : AW E X 5 25 [(0, .ref (sdX X 24 0)), (1, .int v1), (2, .int v2)] [] G 0 0 := by
  have hP := F.P
  have K25 : ∀ (v1 v2 : Int32) (G : GH), AW E X 5 25 [(0, .ref (sdX X 24 0)), (1, .int v1), (2, .int v2)] [] G 0 0 → AW E X 5 25 [(0, .ref (sdX X 24 0)), (1, .int v1), (2, .int v2)] [] G 0 0 := fun _ _ _ q => q
  refine h (fun (v1 v2 : Int32) (G : GH) => AW E X 5 25 [(0, .ref (sdX X 24 0)), (1, .int v1), (2, .int v2)] [] G 0 0) (fun (v1 v2 : Int32) (G : GH) h => ?_)
  refine aw_il_n F 2 dX8_drop_25 rfl rfl ?_
  refine aw_ic F dX8_drop_26 ic_1 ?_
  refine aw_iadd F dX8_drop_27 ?_
  refine aw_al_n F 0 dX8_drop_28 rfl rfl ?_
  refine aw_cVi (stk := [.int (v2 + (1 : Int32))]) F T.room [] (k_X8_marks hP h) mv_X8_marks w_1305 cf8 (lo_s rfl) (hP _ rfl) rfl (by decide) rfl rfl (Nat.le_of_ble_eq_true rfl) ⟨(Nat.le_of_ble_eq_true rfl), (Nat.le_of_ble_eq_true rfl)⟩ ⟨(Nat.le_of_ble_eq_true rfl), (Nat.le_of_ble_eq_true rfl)⟩ dX8_drop_29 (fun r_8 G_7 h => ?_)
  refine aw_icmp_ge (tgt := 69) F dX8_drop_32 (by decide) (fun c_9 => ?_) (fun c_9 => ?_)
  · replace h := h.1 c_9
    refine aw_al_n F 0 dX8_drop_69 rfl rfl ?_
    refine gr8_0 F (lo_s rfl) (hP _ rfl) rfl w_1160 (hP _ rfl) dX8_drop_70 ?_
    refine aw_ic F dX8_drop_73 ic_1 ?_
    refine aw_dup2 F dX8_drop_74 rfl rfl ?_
    refine aw_ialdL F 24 1 (lo_s rfl) (hP _ rfl) rfl (vin_l rfl) tn_1 dX8_drop_75 ?_
    refine aw_ic F dX8_drop_76 ic_1 ?_
    refine aw_isub F dX8_drop_77 ?_
    refine aw_iastL F 24 1 (lo_s rfl) (hP _ rfl) rfl (vin_l rfl) tn_1 dX8_drop_78 ?_
    refine aw_nG (fun G_10 eG_10 => ?_)
    replace h := h G_10 eG_10
    refine aw_ic F dX8_drop_79 ic_1 ?_
    refine aw_il_n F 1 dX8_drop_80 rfl rfl ?_
    refine aw_ishl F dX8_drop_81 ?_
    refine aw_ic F dX8_drop_82 ic_1 ?_
    refine aw_isub F dX8_drop_83 ?_
    refine aw_top (fun y_11 ey_11 => ?_)
    replace h := h y_11 ey_11
    refine aw_is_n (lv1 := [(2, .int y_11), (0, .ref (sdX X 24 0)), (1, .int v1)]) F dX8_drop_84 rfl (by decide) rfl ?_
    refine aw_ic F dX8_drop_85 ic_0 ?_
    refine aw_is_n (lv1 := [(3, .int (0 : Int32)), (2, .int y_11), (0, .ref (sdX X 24 0)), (1, .int v1)]) F dX8_drop_86 rfl (by decide) rfl ?_
    refine aw_sub [2, 1, 0] rfl ?_
    exact kl_X8_drop_87 F T h
  · replace h := h.2 c_9
    refine aw_ic F dX8_drop_35 ic_0 ?_
    refine aw_is_n (lv1 := [(3, .int (0 : Int32)), (0, .ref (sdX X 24 0)), (1, .int v1), (2, .int v2)]) F dX8_drop_36 rfl (by decide) rfl ?_
    refine aw_sub [1, 2, 3, 0] rfl ?_
    exact kl_X8_drop_37 F T K25 h
set_option maxRecDepth 100000 in
set_option maxHeartbeats 4000000 in
theorem k_X8_drop {l : Launch} {E : Ev} {P : Nat → Prop} {sd : Nat → Nat → Nat} {G : GH} {post : Int32 → GH → Prop} {x1 : Int32} (hPP : ∀ o, stt o = true → P o) (h : wp_X8_drop post x1 G) : Ct l yX8_drop cX8_drop 5 (some .int) 2 0 0 E P sd G [.ref (sd 24 0), .int x1] (pI post) := by
  refine ct_of (own := "MarkFieldModel") (by decide) rfl (Nat.le_of_ble_eq_true rfl) hPP (fun X F T el eP es => ?_)
  subst el; subst eP; subst es
  have hP := F.P
  change AW E X 5 0 [(0, .ref (sdX X 24 0)), (1, .int x1)] [] G 0 0
  refine aw_al_n F 0 dX8_drop_0 rfl rfl ?_
  refine aw_ic F dX8_drop_1 ic_0 ?_
  refine pf8_5 F (lo_s rfl) (hP _ rfl) rfl w_1165 dX8_drop_2 (fun G_1 eG_1 => ?_)
  replace h := h G_1 eG_1
  refine aw_al_n F 0 dX8_drop_5 rfl rfl ?_
  refine aw_il_n F 1 dX8_drop_6 rfl rfl ?_
  refine aw_cVb (stk := []) F T.room [.int x1] (k_X8_isMark hP h) mv_X8_isMark w_1423 cf8 (lo_s rfl) (hP _ rfl) rfl (by decide) rfl rfl (Nat.le_of_ble_eq_true rfl) ⟨(Nat.le_of_ble_eq_true rfl), (Nat.le_of_ble_eq_true rfl)⟩ ⟨(Nat.le_of_ble_eq_true rfl), (Nat.le_of_ble_eq_true rfl)⟩ dX8_drop_7 (fun b_3 G_2 h => ?_)
  refine aw_if_ne (tgt := 19) F dX8_drop_10 (by decide) (fun c_4 => ?_) (fun c_4 => ?_)
  · replace h := h.2 (bI_1 c_4)
    refine aw_al_n F 0 dX8_drop_19 rfl rfl ?_
    refine aw_cVv (stk := []) F T.room [] (k_X8_keep hP h) mv_X8_keep w_1593 cf8 (lo_s rfl) (hP _ rfl) rfl (by decide) rfl rfl (Nat.le_of_ble_eq_true rfl) ⟨(Nat.le_of_ble_eq_true rfl), (Nat.le_of_ble_eq_true rfl)⟩ ⟨(Nat.le_of_ble_eq_true rfl), (Nat.le_of_ble_eq_true rfl)⟩ dX8_drop_20 (fun G_5 h => ?_)
    refine aw_il_n F 1 dX8_drop_23 rfl rfl ?_
    refine aw_is_n (lv1 := [(2, .int x1), (0, .ref (sdX X 24 0)), (1, .int x1)]) F dX8_drop_24 rfl (by decide) rfl ?_
    refine aw_sub [1, 2, 0] rfl ?_
    exact kl_X8_drop_25 F T h
  · replace h := h.1 (bI_2 c_4)
    refine aw_al_n F 0 dX8_drop_13 rfl rfl ?_
    refine aw_ic F dX8_drop_14 ic_1 ?_
    refine aw_cVi (stk := []) F T.room [.int (1 : Int32)] (k_X8_fail hP h) mv_X8_fail w_1415 cf8 (lo_s rfl) (hP _ rfl) rfl (by decide) rfl rfl (Nat.le_of_ble_eq_true rfl) ⟨(Nat.le_of_ble_eq_true rfl), (Nat.le_of_ble_eq_true rfl)⟩ ⟨(Nat.le_of_ble_eq_true rfl), (Nat.le_of_ble_eq_true rfl)⟩ dX8_drop_15 (fun r_27 G_26 h => ?_)
    exact aw_iret F T (Nat.le_of_ble_eq_true rfl) (Nat.le_of_ble_eq_true rfl) ⟨_, rfl, h⟩ dX8_drop_18
-- X8_mostOf (height 0)
def wp_X8_mostOf (post : Int32 → GH → Prop) (x0 : Int32) (G : GH) : Prop :=
  (((x0.toInt < 1 ∨ 4 < x0.toInt) → post (100 : Int32) G) ∧ (x0 = (1 : Int32) → post (20 : Int32) G) ∧ (x0 = (2 : Int32) → post (9 : Int32) G) ∧ (x0 = (3 : Int32) → post (5 : Int32) G) ∧ (x0 = (4 : Int32) → post (999 : Int32) G))
set_option maxRecDepth 100000 in
set_option maxHeartbeats 4000000 in
theorem k_X8_mostOf {l : Launch} {E : Ev} {P : Nat → Prop} {sd : Nat → Nat → Nat} {G : GH} {post : Int32 → GH → Prop} {x0 : Int32} (hPP : ∀ o, stt o = true → P o) (h : wp_X8_mostOf post x0 G) : Ct l yX8_mostOf cX8_mostOf 1 (some .int) 0 0 0 E P sd G [.int x0] (pI post) := by
  refine ct_of (own := "MarkFieldModel") (by decide) rfl (Nat.le_of_ble_eq_true rfl) hPP (fun X F T el eP es => ?_)
  subst el; subst eP; subst es
  have hP := F.P
  change AW E X 1 0 [(0, .int x0)] [] G 0 0
  refine aw_il_n F 0 dX8_mostOf_0 rfl rfl ?_
  by_cases c_1 : x0.toInt < 1 ∨ 4 < x0.toInt
  · replace h := h.1 c_1
    refine aw_tabO (tgt := 44) F dX8_mostOf_1 c_1 (by decide) ?_
    refine aw_bi F dX8_mostOf_44 bi_100 ?_
    exact aw_iret F T (Nat.le_of_ble_eq_true rfl) (Nat.le_of_ble_eq_true rfl) ⟨_, rfl, h⟩ dX8_mostOf_46
  · replace h := h.2
    by_cases c_2 : x0 = (1 : Int32)
    · replace h := h.1 c_2
      refine aw_tabI (tgt := 32) F dX8_mostOf_1 (by rw [c_2]; decide) (by rw [c_2]; decide) (by rw [c_2]; rfl) (by decide) ?_
      refine aw_bi F dX8_mostOf_32 bi_20 ?_
      exact aw_iret F T (Nat.le_of_ble_eq_true rfl) (Nat.le_of_ble_eq_true rfl) ⟨_, rfl, h⟩ dX8_mostOf_34
    replace h := h.2
    by_cases c_3 : x0 = (2 : Int32)
    · replace h := h.1 c_3
      refine aw_tabI (tgt := 35) F dX8_mostOf_1 (by rw [c_3]; decide) (by rw [c_3]; decide) (by rw [c_3]; rfl) (by decide) ?_
      refine aw_bi F dX8_mostOf_35 bi_9 ?_
      exact aw_iret F T (Nat.le_of_ble_eq_true rfl) (Nat.le_of_ble_eq_true rfl) ⟨_, rfl, h⟩ dX8_mostOf_37
    replace h := h.2
    by_cases c_4 : x0 = (3 : Int32)
    · replace h := h.1 c_4
      refine aw_tabI (tgt := 38) F dX8_mostOf_1 (by rw [c_4]; decide) (by rw [c_4]; decide) (by rw [c_4]; rfl) (by decide) ?_
      refine aw_ic F dX8_mostOf_38 ic_5 ?_
      exact aw_iret F T (Nat.le_of_ble_eq_true rfl) (Nat.le_of_ble_eq_true rfl) ⟨_, rfl, h⟩ dX8_mostOf_39
    replace h := h.2
    by_cases c_5 : x0 = (4 : Int32)
    · replace h := h c_5
      refine aw_tabI (tgt := 40) F dX8_mostOf_1 (by rw [c_5]; decide) (by rw [c_5]; decide) (by rw [c_5]; rfl) (by decide) ?_
      refine aw_si F dX8_mostOf_40 si_999 ?_
      exact aw_iret F T (Nat.le_of_ble_eq_true rfl) (Nat.le_of_ble_eq_true rfl) ⟨_, rfl, h⟩ dX8_mostOf_43
    exfalso
    have qc_2 := ne_ti c_2 (show (1 : Int32).toInt = 1 by decide)
    have qc_3 := ne_ti c_3 (show (2 : Int32).toInt = 2 by decide)
    have qc_4 := ne_ti c_4 (show (3 : Int32).toInt = 3 by decide)
    have qc_5 := ne_ti c_5 (show (4 : Int32).toInt = 4 by decide)
    omega
-- X8_rule (height 1)
def j_X8_rule_31 (post : Int32 → GH → Prop) (v1 v2 s1 : Int32) (G : GH) : Prop :=
  (∀ G_9 : GH, G_9 = gs G 24 0 (upd (G 24 0) 5 s1) → (((G_9 24 0 5) ≤ 0 → wp_X8_keep (fun (G_11 : GH) => (vp_in ((2 : Int32) + v1) 681 ∧ (∀ y_13 : Int32, y_13 = (G_11 24 1 ((2 : Int32) + v1).toNatClampNeg) → (vp_in ((2 : Int32) + v1) 681 ∧ (∀ G_14 : GH, G_14 = gs G_11 24 1 (upd (G_11 24 1) ((2 : Int32) + v1).toNatClampNeg v2) → post y_13 G_14))))) G_9) ∧ (¬ (G_9 24 0 5) ≤ 0 → post (0 : Int32) G_9)))
def wp_X8_rule (post : Int32 → GH → Prop) (x1 x2 : Int32) (G : GH) : Prop :=
  wp_X8_within (fun (b_2 : Bool) (G_1 : GH) => ((b_2 = false → j_X8_rule_31 post x1 x2 (1 : Int32) G_1) ∧ (b_2 = true → wp_X8_mostOf (fun (r_5 : Int32) (G_4 : GH) => wp_X8_within (fun (b_7 : Bool) (G_6 : GH) => ((b_7 = false → j_X8_rule_31 post x1 x2 (2 : Int32) G_6) ∧ (b_7 = true → j_X8_rule_31 post x1 x2 (0 : Int32) G_6))) x2 (0 : Int32) r_5 G_4) x1 G_1))) x1 (0 : Int32) (5 : Int32) G
set_option maxRecDepth 100000 in
set_option maxHeartbeats 4000000 in
theorem kj_X8_rule_31 {E : Ev} {X : Cx} {post : Int32 → GH → Prop} {v1 v2 s1 : Int32} {G : GH} (F : Fx E X "MarkFieldModel" cX8_rule 4) (T : RT E X 1 0 0 (some .int) (pI post)) (h : j_X8_rule_31 post v1 v2 s1 G) : AW E X 4 31 [(0, .ref (sdX X 24 0)), (1, .int v1), (2, .int v2)] [.int s1, .ref (sdX X 24 0)] G 0 0 := by
  have hP := F.P
  refine pf8_5 F (lo_s rfl) (hP _ rfl) rfl w_1165 dX8_rule_31 (fun G_9 eG_9 => ?_)
  replace h := h G_9 eG_9
  refine aw_al_n F 0 dX8_rule_34 rfl rfl ?_
  refine gf8_5 F (lo_s rfl) (hP _ rfl) rfl w_1165 dX8_rule_35 ?_
  refine aw_if_le (tgt := 43) F dX8_rule_38 (by decide) (fun c_10 => ?_) (fun c_10 => ?_)
  · replace h := h.1 c_10
    refine aw_al_n F 0 dX8_rule_43 rfl rfl ?_
    refine aw_cVv (stk := []) F T.room [] (k_X8_keep hP h) mv_X8_keep w_1593 cf8 (lo_s rfl) (hP _ rfl) rfl (by decide) rfl rfl (Nat.le_of_ble_eq_true rfl) ⟨(Nat.le_of_ble_eq_true rfl), (Nat.le_of_ble_eq_true rfl)⟩ ⟨(Nat.le_of_ble_eq_true rfl), (Nat.le_of_ble_eq_true rfl)⟩ dX8_rule_44 (fun G_11 h => ?_)
    refine aw_al_n F 0 dX8_rule_47 rfl rfl ?_
    refine gr8_0 F (lo_s rfl) (hP _ rfl) rfl w_1160 (hP _ rfl) dX8_rule_48 ?_
    refine aw_ic F dX8_rule_51 ic_2 ?_
    refine aw_il_n F 1 dX8_rule_52 rfl rfl ?_
    refine aw_iadd F dX8_rule_53 ?_
    refine aw_iald F 24 1 (lo_s rfl) (hP _ rfl) rfl h.1 dX8_rule_54 ?_
    replace h := h.2
    refine aw_top (fun y_13 ey_13 => ?_)
    replace h := h y_13 ey_13
    refine aw_is_n (lv1 := [(3, .int y_13), (0, .ref (sdX X 24 0)), (1, .int v1), (2, .int v2)]) F dX8_rule_55 rfl (by decide) rfl ?_
    refine aw_al_n F 1 dX8_rule_56 rfl rfl ?_
    refine gr8_0 F (lo_s rfl) (hP _ rfl) rfl w_1160 (hP _ rfl) dX8_rule_57 ?_
    refine aw_ic F dX8_rule_60 ic_2 ?_
    refine aw_il_n F 2 dX8_rule_61 rfl rfl ?_
    refine aw_iadd F dX8_rule_62 ?_
    refine aw_il_n F 3 dX8_rule_63 rfl rfl ?_
    refine aw_iast F 24 1 (lo_s rfl) (hP _ rfl) rfl h.1 dX8_rule_64 ?_
    refine aw_nG (fun G_14 eG_14 => ?_)
    replace h := h.2 G_14 eG_14
    refine aw_il_n F 0 dX8_rule_65 rfl rfl ?_
    exact aw_iret F T (Nat.le_of_ble_eq_true rfl) (Nat.le_of_ble_eq_true rfl) ⟨_, rfl, h⟩ dX8_rule_66
  · replace h := h.2 c_10
    refine aw_ic F dX8_rule_41 ic_0 ?_
    exact aw_iret F T (Nat.le_of_ble_eq_true rfl) (Nat.le_of_ble_eq_true rfl) ⟨_, rfl, h⟩ dX8_rule_42
set_option maxRecDepth 100000 in
set_option maxHeartbeats 4000000 in
theorem k_X8_rule {l : Launch} {E : Ev} {P : Nat → Prop} {sd : Nat → Nat → Nat} {G : GH} {post : Int32 → GH → Prop} {x1 x2 : Int32} (hPP : ∀ o, stt o = true → P o) (h : wp_X8_rule post x1 x2 G) : Ct l yX8_rule cX8_rule 4 (some .int) 1 0 0 E P sd G [.ref (sd 24 0), .int x1, .int x2] (pI post) := by
  refine ct_of (own := "MarkFieldModel") (by decide) rfl (Nat.le_of_ble_eq_true rfl) hPP (fun X F T el eP es => ?_)
  subst el; subst eP; subst es
  have hP := F.P
  change AW E X 4 0 [(0, .ref (sdX X 24 0)), (1, .int x1), (2, .int x2)] [] G 0 0
  refine aw_al_n F 0 dX8_rule_0 rfl rfl ?_
  refine aw_il_n F 1 dX8_rule_1 rfl rfl ?_
  refine aw_ic F dX8_rule_2 ic_0 ?_
  refine aw_ic F dX8_rule_3 ic_5 ?_
  refine aw_cSb (stk := [.ref (sdX X 24 0)]) F T.room [.int x1, .int (0 : Int32), .int (5 : Int32)] (k_X8_within hP h) ms_X8_within w_1427 rfl rfl (Nat.le_of_ble_eq_true rfl) ⟨(Nat.le_of_ble_eq_true rfl), (Nat.le_of_ble_eq_true rfl)⟩ ⟨(Nat.le_of_ble_eq_true rfl), (Nat.le_of_ble_eq_true rfl)⟩ dX8_rule_4 (fun b_2 G_1 h => ?_)
  refine aw_if_ne (tgt := 14) F dX8_rule_7 (by decide) (fun c_3 => ?_) (fun c_3 => ?_)
  · replace h := h.2 (bI_1 c_3)
    refine aw_il_n F 2 dX8_rule_14 rfl rfl ?_
    refine aw_ic F dX8_rule_15 ic_0 ?_
    refine aw_il_n F 1 dX8_rule_16 rfl rfl ?_
    refine aw_cSi (stk := [.int (0 : Int32), .int x2, .ref (sdX X 24 0)]) F T.room [.int x1] (k_X8_mostOf hP h) ms_X8_mostOf w_1617 rfl rfl (Nat.le_of_ble_eq_true rfl) ⟨(Nat.le_of_ble_eq_true rfl), (Nat.le_of_ble_eq_true rfl)⟩ ⟨(Nat.le_of_ble_eq_true rfl), (Nat.le_of_ble_eq_true rfl)⟩ dX8_rule_17 (fun r_5 G_4 h => ?_)
    refine aw_cSb (stk := [.ref (sdX X 24 0)]) F T.room [.int x2, .int (0 : Int32), .int r_5] (k_X8_within hP h) ms_X8_within w_1427 rfl rfl (Nat.le_of_ble_eq_true rfl) ⟨(Nat.le_of_ble_eq_true rfl), (Nat.le_of_ble_eq_true rfl)⟩ ⟨(Nat.le_of_ble_eq_true rfl), (Nat.le_of_ble_eq_true rfl)⟩ dX8_rule_20 (fun b_7 G_6 h => ?_)
    refine aw_if_ne (tgt := 30) F dX8_rule_23 (by decide) (fun c_8 => ?_) (fun c_8 => ?_)
    · replace h := h.2 (bI_1 c_8)
      refine aw_ic F dX8_rule_30 ic_0 ?_
      exact kj_X8_rule_31 F T h
    · replace h := h.1 (bI_2 c_8)
      refine aw_ic F dX8_rule_26 ic_2 ?_
      refine aw_go (tgt := 31) F dX8_rule_27 (by decide) ?_
      exact kj_X8_rule_31 F T h
  · replace h := h.1 (bI_2 c_3)
    refine aw_ic F dX8_rule_10 ic_1 ?_
    refine aw_go (tgt := 31) F dX8_rule_11 (by decide) ?_
    exact kj_X8_rule_31 F T h
-- X8_joins (height 0)
def j_X8_joins_69 (post : GH → Prop) (o0 k0 m0 : Nat) (s1 s2 : Int32) (G : GH) : Prop :=
  (vp_in s1 m0 ∧ (∀ G_4 : GH, G_4 = gs G o0 k0 (upd (G o0 k0) s1.toNatClampNeg s2) → post G_4))
def j_X8_joins_34 (post : GH → Prop) (o0 k0 m0 : Nat) (v1 v2 v3 s1 s2 : Int32) (G : GH) : Prop :=
  (vp_in s1 m0 ∧ (∀ G_2 : GH, G_2 = gs G o0 k0 (upd (G o0 k0) s1.toNatClampNeg s2) → ((v3 = 0 → (vp_in ((8 : Int32) + v2) m0 ∧ j_X8_joins_69 post o0 k0 m0 ((8 : Int32) + v2) ((G_2 o0 k0 ((8 : Int32) + v2).toNatClampNeg) &&& (((1 : Int32) <<< (v1 &&& 31)) ^^^ (-1 : Int32))) G_2)) ∧ (¬ v3 = 0 → (vp_in ((8 : Int32) + v2) m0 ∧ j_X8_joins_69 post o0 k0 m0 ((8 : Int32) + v2) ((G_2 o0 k0 ((8 : Int32) + v2).toNatClampNeg) ||| ((1 : Int32) <<< (v1 &&& 31))) G_2)))))
def wp_X8_joins (post : GH → Prop) (o0 k0 m0 : Nat) (x1 x2 x3 : Int32) (G : GH) : Prop :=
  ((x3 = 0 → (vp_in ((8 : Int32) + x1) m0 ∧ j_X8_joins_34 post o0 k0 m0 x1 x2 x3 ((8 : Int32) + x1) ((G o0 k0 ((8 : Int32) + x1).toNatClampNeg) &&& (((1 : Int32) <<< (x2 &&& 31)) ^^^ (-1 : Int32))) G)) ∧ (¬ x3 = 0 → (vp_in ((8 : Int32) + x1) m0 ∧ j_X8_joins_34 post o0 k0 m0 x1 x2 x3 ((8 : Int32) + x1) ((G o0 k0 ((8 : Int32) + x1).toNatClampNeg) ||| ((1 : Int32) <<< (x2 &&& 31))) G)))
set_option maxRecDepth 100000 in
set_option maxHeartbeats 4000000 in
theorem kj_X8_joins_69 {E : Ev} {X : Cx} {post : GH → Prop} {o0 k0 m0 : Nat} {s1 s2 : Int32} {G : GH} (F : Fx E X "MarkFieldModel" cX8_joins 4) (T : RT E X 0 0 0 none (pV post)) (hs0 : stt o0 = true) (ha0 : al (oc o0) k0 = some (0, m0)) (h : j_X8_joins_69 post o0 k0 m0 s1 s2 G) : AW E X 4 69 [] [.int s2, .int s1, .ref (sdX X o0 k0)] G 0 0 := by
  have hP := F.P
  refine aw_iast F o0 k0 (lo_s hs0) (hP _ hs0) ha0 h.1 dX8_joins_69 ?_
  refine aw_nG (fun G_4 eG_4 => ?_)
  replace h := h.2 G_4 eG_4
  exact aw_vret F T (Nat.le_of_ble_eq_true rfl) (Nat.le_of_ble_eq_true rfl) ⟨rfl, h⟩ dX8_joins_70
set_option maxRecDepth 100000 in
set_option maxHeartbeats 4000000 in
theorem kj_X8_joins_34 {E : Ev} {X : Cx} {post : GH → Prop} {o0 k0 m0 : Nat} {v1 v2 v3 s1 s2 : Int32} {G : GH} (F : Fx E X "MarkFieldModel" cX8_joins 4) (T : RT E X 0 0 0 none (pV post)) (hs0 : stt o0 = true) (ha0 : al (oc o0) k0 = some (0, m0)) (h : j_X8_joins_34 post o0 k0 m0 v1 v2 v3 s1 s2 G) : AW E X 4 34 [(0, .ref (sdX X o0 k0)), (1, .int v1), (2, .int v2), (3, .int v3)] [.int s2, .int s1, .ref (sdX X o0 k0)] G 0 0 := by
  have hP := F.P
  refine aw_iast F o0 k0 (lo_s hs0) (hP _ hs0) ha0 h.1 dX8_joins_34 ?_
  refine aw_nG (fun G_2 eG_2 => ?_)
  replace h := h.2 G_2 eG_2
  refine aw_al_n F 0 dX8_joins_35 rfl rfl ?_
  refine aw_bi F dX8_joins_36 bi_8 ?_
  refine aw_il_n F 2 dX8_joins_38 rfl rfl ?_
  refine aw_iadd F dX8_joins_39 ?_
  refine aw_il_n F 3 dX8_joins_40 rfl rfl ?_
  refine aw_if_eq (tgt := 57) F dX8_joins_41 (by decide) (fun c_3 => ?_) (fun c_3 => ?_)
  · replace h := h.1 c_3
    refine aw_al_n F 0 dX8_joins_57 rfl rfl ?_
    refine aw_bi F dX8_joins_58 bi_8 ?_
    refine aw_il_n F 2 dX8_joins_60 rfl rfl ?_
    refine aw_iadd F dX8_joins_61 ?_
    refine aw_iald F o0 k0 (lo_s hs0) (hP _ hs0) ha0 h.1 dX8_joins_62 ?_
    replace h := h.2
    refine aw_ic F dX8_joins_63 ic_1 ?_
    refine aw_il_n F 1 dX8_joins_64 rfl rfl ?_
    refine aw_ishl F dX8_joins_65 ?_
    refine aw_ic F dX8_joins_66 ic_m1 ?_
    refine aw_ixor F dX8_joins_67 ?_
    refine aw_iand F dX8_joins_68 ?_
    refine aw_sub [] rfl ?_
    exact kj_X8_joins_69 F T hs0 ha0 h
  · replace h := h.2 c_3
    refine aw_al_n F 0 dX8_joins_44 rfl rfl ?_
    refine aw_bi F dX8_joins_45 bi_8 ?_
    refine aw_il_n F 2 dX8_joins_47 rfl rfl ?_
    refine aw_iadd F dX8_joins_48 ?_
    refine aw_iald F o0 k0 (lo_s hs0) (hP _ hs0) ha0 h.1 dX8_joins_49 ?_
    replace h := h.2
    refine aw_ic F dX8_joins_50 ic_1 ?_
    refine aw_il_n F 1 dX8_joins_51 rfl rfl ?_
    refine aw_ishl F dX8_joins_52 ?_
    refine aw_ior F dX8_joins_53 ?_
    refine aw_go (tgt := 69) F dX8_joins_54 (by decide) ?_
    refine aw_sub [] rfl ?_
    exact kj_X8_joins_69 F T hs0 ha0 h
set_option maxRecDepth 100000 in
set_option maxHeartbeats 4000000 in
theorem k_X8_joins {l : Launch} {E : Ev} {P : Nat → Prop} {sd : Nat → Nat → Nat} {G : GH} {post : GH → Prop} {o0 k0 m0 : Nat} {x1 x2 x3 : Int32} (hPP : ∀ o, stt o = true → P o) (hs0 : stt o0 = true) (ha0 : al (oc o0) k0 = some (0, m0)) (h : wp_X8_joins post o0 k0 m0 x1 x2 x3 G) : Ct l yX8_joins cX8_joins 4 none 0 0 0 E P sd G [.ref (sd o0 k0), .int x1, .int x2, .int x3] (pV post) := by
  refine ct_of (own := "MarkFieldModel") (by decide) rfl (Nat.le_of_ble_eq_true rfl) hPP (fun X F T el eP es => ?_)
  subst el; subst eP; subst es
  have hP := F.P
  change AW E X 4 0 [(0, .ref (sdX X o0 k0)), (1, .int x1), (2, .int x2), (3, .int x3)] [] G 0 0
  refine aw_al_n F 0 dX8_joins_0 rfl rfl ?_
  refine aw_bi F dX8_joins_1 bi_8 ?_
  refine aw_il_n F 1 dX8_joins_3 rfl rfl ?_
  refine aw_iadd F dX8_joins_4 ?_
  refine aw_il_n F 3 dX8_joins_5 rfl rfl ?_
  refine aw_if_eq (tgt := 22) F dX8_joins_6 (by decide) (fun c_1 => ?_) (fun c_1 => ?_)
  · replace h := h.1 c_1
    refine aw_al_n F 0 dX8_joins_22 rfl rfl ?_
    refine aw_bi F dX8_joins_23 bi_8 ?_
    refine aw_il_n F 1 dX8_joins_25 rfl rfl ?_
    refine aw_iadd F dX8_joins_26 ?_
    refine aw_iald F o0 k0 (lo_s hs0) (hP _ hs0) ha0 h.1 dX8_joins_27 ?_
    replace h := h.2
    refine aw_ic F dX8_joins_28 ic_1 ?_
    refine aw_il_n F 2 dX8_joins_29 rfl rfl ?_
    refine aw_ishl F dX8_joins_30 ?_
    refine aw_ic F dX8_joins_31 ic_m1 ?_
    refine aw_ixor F dX8_joins_32 ?_
    refine aw_iand F dX8_joins_33 ?_
    exact kj_X8_joins_34 F T hs0 ha0 h
  · replace h := h.2 c_1
    refine aw_al_n F 0 dX8_joins_9 rfl rfl ?_
    refine aw_bi F dX8_joins_10 bi_8 ?_
    refine aw_il_n F 1 dX8_joins_12 rfl rfl ?_
    refine aw_iadd F dX8_joins_13 ?_
    refine aw_iald F o0 k0 (lo_s hs0) (hP _ hs0) ha0 h.1 dX8_joins_14 ?_
    replace h := h.2
    refine aw_ic F dX8_joins_15 ic_1 ?_
    refine aw_il_n F 2 dX8_joins_16 rfl rfl ?_
    refine aw_ishl F dX8_joins_17 ?_
    refine aw_ior F dX8_joins_18 ?_
    refine aw_go (tgt := 34) F dX8_joins_19 (by decide) ?_
    exact kj_X8_joins_34 F T hs0 ha0 h
-- X8_near (height 2)
def j_X8_near_25 (post : Bool → GH → Prop) (v1 v2 v3 s1 : Int32) (G : GH) : Prop :=
  (∀ G_4 : GH, G_4 = gs G 24 0 (upd (G 24 0) 5 s1) → (((G_4 24 0 5) ≤ 0 → (vp_in ((8 : Int32) + v1) 681 ∧ wp_X8_has (fun (b_7 : Bool) (G_6 : GH) => wp_X8_keep (fun (G_8 : GH) => wp_X8_joins (fun (G_10 : GH) => post b_7 G_10) 24 1 681 v1 v2 v3 G_8) G_6) (G_4 24 1 ((8 : Int32) + v1).toNatClampNeg) v2 G_4)) ∧ (¬ (G_4 24 0 5) ≤ 0 → post false G_4)))
def j_X8_near_24 (post : Bool → GH → Prop) (v1 v2 v3 : Int32) (G : GH) : Prop :=
  j_X8_near_25 post v1 v2 v3 (1 : Int32) G
def wp_X8_near (post : Bool → GH → Prop) (x1 x2 x3 : Int32) (G : GH) : Prop :=
  wp_X8_isClass (fun (b_2 : Bool) (G_1 : GH) => ((b_2 = false → j_X8_near_24 post x1 x2 x3 G_1) ∧ (b_2 = true → wp_X8_isClass (fun (b_13 : Bool) (G_12 : GH) => ((b_13 = false → j_X8_near_24 post x1 x2 x3 G_12) ∧ (b_13 = true → ((x1 = x2 → j_X8_near_24 post x1 x2 x3 G_12) ∧ (¬ x1 = x2 → j_X8_near_25 post x1 x2 x3 (0 : Int32) G_12))))) x2 G_1))) x1 G
set_option maxRecDepth 100000 in
set_option maxHeartbeats 4000000 in
theorem kj_X8_near_25 {E : Ev} {X : Cx} {post : Bool → GH → Prop} {v1 v2 v3 s1 : Int32} {G : GH} (F : Fx E X "MarkFieldModel" cX8_near 5) (T : RT E X 2 0 0 (some .boolean) (pB post)) (h : j_X8_near_25 post v1 v2 v3 s1 G) : AW E X 5 25 [(0, .ref (sdX X 24 0)), (1, .int v1), (2, .int v2), (3, .int v3)] [.int s1, .ref (sdX X 24 0)] G 0 0 := by
  have hP := F.P
  refine pf8_5 F (lo_s rfl) (hP _ rfl) rfl w_1165 dX8_near_25 (fun G_4 eG_4 => ?_)
  replace h := h G_4 eG_4
  refine aw_al_n F 0 dX8_near_28 rfl rfl ?_
  refine gf8_5 F (lo_s rfl) (hP _ rfl) rfl w_1165 dX8_near_29 ?_
  refine aw_if_le (tgt := 37) F dX8_near_32 (by decide) (fun c_5 => ?_) (fun c_5 => ?_)
  · replace h := h.1 c_5
    refine aw_al_n F 0 dX8_near_37 rfl rfl ?_
    refine gr8_0 F (lo_s rfl) (hP _ rfl) rfl w_1160 (hP _ rfl) dX8_near_38 ?_
    refine aw_bi F dX8_near_41 bi_8 ?_
    refine aw_il_n F 1 dX8_near_43 rfl rfl ?_
    refine aw_iadd F dX8_near_44 ?_
    refine aw_iald F 24 1 (lo_s rfl) (hP _ rfl) rfl h.1 dX8_near_45 ?_
    replace h := h.2
    refine aw_il_n F 2 dX8_near_46 rfl rfl ?_
    refine aw_cSb (stk := []) F T.room [.int (G_4 24 1 ((8 : Int32) + v1).toNatClampNeg), .int v2] (k_X8_has hP h) ms_X8_has w_1385 rfl rfl (Nat.le_of_ble_eq_true rfl) ⟨(Nat.le_of_ble_eq_true rfl), (Nat.le_of_ble_eq_true rfl)⟩ ⟨(Nat.le_of_ble_eq_true rfl), (Nat.le_of_ble_eq_true rfl)⟩ dX8_near_47 (fun b_7 G_6 h => ?_)
    refine aw_is (lv1 := [(4, .int (bI b_7)), (0, .ref (sdX X 24 0)), (1, .int v1), (2, .int v2), (3, .int v3)]) F dX8_near_50 (by decide) rfl ?_
    refine aw_al_n F 1 dX8_near_52 rfl rfl ?_
    refine aw_cVv (stk := []) F T.room [] (k_X8_keep hP h) mv_X8_keep w_1593 cf8 (lo_s rfl) (hP _ rfl) rfl (by decide) rfl rfl (Nat.le_of_ble_eq_true rfl) ⟨(Nat.le_of_ble_eq_true rfl), (Nat.le_of_ble_eq_true rfl)⟩ ⟨(Nat.le_of_ble_eq_true rfl), (Nat.le_of_ble_eq_true rfl)⟩ dX8_near_53 (fun G_8 h => ?_)
    refine aw_al_n F 1 dX8_near_56 rfl rfl ?_
    refine gr8_0 F (lo_s rfl) (hP _ rfl) rfl w_1160 (hP _ rfl) dX8_near_57 ?_
    refine aw_il_n F 2 dX8_near_60 rfl rfl ?_
    refine aw_il_n F 3 dX8_near_61 rfl rfl ?_
    refine aw_il_n F 4 dX8_near_62 rfl rfl ?_
    refine aw_cSv (stk := []) F T.room [.ref (sdX X 24 1), .int v1, .int v2, .int v3] (k_X8_joins hP rfl rfl h) ms_X8_joins w_1624 rfl rfl (Nat.le_of_ble_eq_true rfl) ⟨(Nat.le_of_ble_eq_true rfl), (Nat.le_of_ble_eq_true rfl)⟩ ⟨(Nat.le_of_ble_eq_true rfl), (Nat.le_of_ble_eq_true rfl)⟩ dX8_near_63 (fun G_10 h => ?_)
    refine aw_il F 0 dX8_near_66 rfl ?_
    exact aw_zret F T b_7 rfl (Nat.le_of_ble_eq_true rfl) (Nat.le_of_ble_eq_true rfl) ⟨_, rfl, h⟩ dX8_near_68
  · replace h := h.2 c_5
    refine aw_ic F dX8_near_35 ic_0 ?_
    exact aw_zret F T false rfl (Nat.le_of_ble_eq_true rfl) (Nat.le_of_ble_eq_true rfl) ⟨_, rfl, h⟩ dX8_near_36
set_option maxRecDepth 100000 in
set_option maxHeartbeats 4000000 in
theorem kj_X8_near_24 {E : Ev} {X : Cx} {post : Bool → GH → Prop} {v1 v2 v3 : Int32} {G : GH} (F : Fx E X "MarkFieldModel" cX8_near 5) (T : RT E X 2 0 0 (some .boolean) (pB post)) (h : j_X8_near_24 post v1 v2 v3 G) : AW E X 5 24 [(0, .ref (sdX X 24 0)), (1, .int v1), (2, .int v2), (3, .int v3)] [.ref (sdX X 24 0)] G 0 0 := by
  have hP := F.P
  refine aw_ic F dX8_near_24 ic_1 ?_
  exact kj_X8_near_25 F T h
set_option maxRecDepth 100000 in
set_option maxHeartbeats 4000000 in
theorem k_X8_near {l : Launch} {E : Ev} {P : Nat → Prop} {sd : Nat → Nat → Nat} {G : GH} {post : Bool → GH → Prop} {x1 x2 x3 : Int32} (hPP : ∀ o, stt o = true → P o) (h : wp_X8_near post x1 x2 x3 G) : Ct l yX8_near cX8_near 5 (some .boolean) 2 0 0 E P sd G [.ref (sd 24 0), .int x1, .int x2, .int x3] (pB post) := by
  refine ct_of (own := "MarkFieldModel") (by decide) rfl (Nat.le_of_ble_eq_true rfl) hPP (fun X F T el eP es => ?_)
  subst el; subst eP; subst es
  have hP := F.P
  change AW E X 5 0 [(0, .ref (sdX X 24 0)), (1, .int x1), (2, .int x2), (3, .int x3)] [] G 0 0
  refine aw_al_n F 0 dX8_near_0 rfl rfl ?_
  refine aw_il_n F 1 dX8_near_1 rfl rfl ?_
  refine aw_cSb (stk := [.ref (sdX X 24 0)]) F T.room [.int x1] (k_X8_isClass hP h) ms_X8_isClass w_1450 rfl rfl (Nat.le_of_ble_eq_true rfl) ⟨(Nat.le_of_ble_eq_true rfl), (Nat.le_of_ble_eq_true rfl)⟩ ⟨(Nat.le_of_ble_eq_true rfl), (Nat.le_of_ble_eq_true rfl)⟩ dX8_near_2 (fun b_2 G_1 h => ?_)
  refine aw_if_eq (tgt := 24) F dX8_near_5 (by decide) (fun c_3 => ?_) (fun c_3 => ?_)
  · replace h := h.1 (bI_2 c_3)
    exact kj_X8_near_24 F T h
  · replace h := h.2 (bI_1 c_3)
    refine aw_il_n F 2 dX8_near_8 rfl rfl ?_
    refine aw_cSb (stk := [.ref (sdX X 24 0)]) F T.room [.int x2] (k_X8_isClass hP h) ms_X8_isClass w_1450 rfl rfl (Nat.le_of_ble_eq_true rfl) ⟨(Nat.le_of_ble_eq_true rfl), (Nat.le_of_ble_eq_true rfl)⟩ ⟨(Nat.le_of_ble_eq_true rfl), (Nat.le_of_ble_eq_true rfl)⟩ dX8_near_9 (fun b_13 G_12 h => ?_)
    refine aw_if_eq (tgt := 24) F dX8_near_12 (by decide) (fun c_14 => ?_) (fun c_14 => ?_)
    · replace h := h.1 (bI_2 c_14)
      exact kj_X8_near_24 F T h
    · replace h := h.2 (bI_1 c_14)
      refine aw_il_n F 1 dX8_near_15 rfl rfl ?_
      refine aw_il_n F 2 dX8_near_16 rfl rfl ?_
      refine aw_icmp_eq (tgt := 24) F dX8_near_17 (by decide) (fun c_15 => ?_) (fun c_15 => ?_)
      · replace h := h.1 c_15
        exact kj_X8_near_24 F T h
      · replace h := h.2 c_15
        refine aw_ic F dX8_near_20 ic_0 ?_
        refine aw_go (tgt := 25) F dX8_near_21 (by decide) ?_
        exact kj_X8_near_25 F T h
-- X8_image (height 0)
def lb_X8_image_7 (post : GH → Prop) (P7 : Int32 → GH → Prop) (v1 : Int32) (G : GH) : Prop :=
  (((681 : Int32) ≤ v1 → (∀ G_3 : GH, G_3 = gs G 24 0 (upd (G 24 0) 6 (1 : Int32)) → post G_3)) ∧ (¬ (681 : Int32) ≤ v1 → (vp_in v1 681 ∧ (vp_in v1 681 ∧ (∀ G_4 : GH, G_4 = gs G 24 3 (upd (G 24 3) v1.toNatClampNeg (G 24 1 v1.toNatClampNeg)) → P7 (v1 + (1 : Int32)) G_4)))))
def lp_X8_image_7 (post : GH → Prop) (v1 : Int32) (G : GH) : Prop := ∀ P7 : Int32 → GH → Prop, (∀ (v1 : Int32) (G : GH), lb_X8_image_7 post P7 v1 G → P7 v1 G) → P7 v1 G
def wp_X8_image (post : GH → Prop) (G : GH) : Prop :=
  (∀ G_1 : GH, G_1 = gs G 24 0 (upd (G 24 0) 5 (0 : Int32)) → lp_X8_image_7 post (0 : Int32) G_1)
set_option maxRecDepth 100000 in
set_option maxHeartbeats 4000000 in
theorem kl_X8_image_7 {E : Ev} {X : Cx} {post : GH → Prop} {v1 : Int32} {G : GH} (F : Fx E X "MarkFieldModel" cX8_image 2) (T : RT E X 0 0 0 none (pV post)) (h : lp_X8_image_7 post v1 G) : AW E X 2 7 [(0, .ref (sdX X 24 0)), (1, .int v1)] [] G 0 0 := by
  have hP := F.P
  have K7 : ∀ (v1 : Int32) (G : GH), AW E X 2 7 [(0, .ref (sdX X 24 0)), (1, .int v1)] [] G 0 0 → AW E X 2 7 [(0, .ref (sdX X 24 0)), (1, .int v1)] [] G 0 0 := fun _ _ q => q
  refine h (fun (v1 : Int32) (G : GH) => AW E X 2 7 [(0, .ref (sdX X 24 0)), (1, .int v1)] [] G 0 0) (fun (v1 : Int32) (G : GH) h => ?_)
  refine aw_il_n F 1 dX8_image_7 rfl rfl ?_
  refine aw_si F dX8_image_8 si_681 ?_
  refine aw_icmp_ge (tgt := 32) F dX8_image_11 (by decide) (fun c_2 => ?_) (fun c_2 => ?_)
  · replace h := h.1 c_2
    refine aw_al_n F 0 dX8_image_32 rfl rfl ?_
    refine aw_ic F dX8_image_33 ic_1 ?_
    refine pf8_6 F (lo_s rfl) (hP _ rfl) rfl w_1166 (Or.inr rfl) dX8_image_34 (fun G_3 eG_3 => ?_)
    replace h := h G_3 eG_3
    exact aw_vret F T (Nat.le_of_ble_eq_true rfl) (Nat.le_of_ble_eq_true rfl) ⟨rfl, h⟩ dX8_image_37
  · replace h := h.2 c_2
    refine aw_al_n F 0 dX8_image_14 rfl rfl ?_
    refine gr8_2 F (lo_s rfl) (hP _ rfl) rfl w_1162 (hP _ rfl) dX8_image_15 ?_
    refine aw_il_n F 1 dX8_image_18 rfl rfl ?_
    refine aw_al_n F 0 dX8_image_19 rfl rfl ?_
    refine gr8_0 F (lo_s rfl) (hP _ rfl) rfl w_1160 (hP _ rfl) dX8_image_20 ?_
    refine aw_il_n F 1 dX8_image_23 rfl rfl ?_
    refine aw_iald F 24 1 (lo_s rfl) (hP _ rfl) rfl h.1 dX8_image_24 ?_
    replace h := h.2
    refine aw_iast F 24 3 (lo_s rfl) (hP _ rfl) rfl h.1 dX8_image_25 ?_
    refine aw_nG (fun G_4 eG_4 => ?_)
    replace h := h.2 G_4 eG_4
    refine aw_inc (lv1 := [(1, .int (v1 + (1 : Int32))), (0, .ref (sdX X 24 0))]) F 1 dX8_image_26 rfl (in_1 _) (by decide) rfl ?_
    refine aw_go (tgt := 7) F dX8_image_29 (by decide) ?_
    refine aw_sub [1, 0] rfl ?_
    exact K7 _ _ h
set_option maxRecDepth 100000 in
set_option maxHeartbeats 4000000 in
theorem k_X8_image {l : Launch} {E : Ev} {P : Nat → Prop} {sd : Nat → Nat → Nat} {G : GH} {post : GH → Prop} (hPP : ∀ o, stt o = true → P o) (h : wp_X8_image post G) : Ct l yX8_image cX8_image 2 none 0 0 0 E P sd G [.ref (sd 24 0)] (pV post) := by
  refine ct_of (own := "MarkFieldModel") (by decide) rfl (Nat.le_of_ble_eq_true rfl) hPP (fun X F T el eP es => ?_)
  subst el; subst eP; subst es
  have hP := F.P
  change AW E X 2 0 [(0, .ref (sdX X 24 0))] [] G 0 0
  refine aw_al_n F 0 dX8_image_0 rfl rfl ?_
  refine aw_ic F dX8_image_1 ic_0 ?_
  refine pf8_5 F (lo_s rfl) (hP _ rfl) rfl w_1165 dX8_image_2 (fun G_1 eG_1 => ?_)
  replace h := h G_1 eG_1
  refine aw_ic F dX8_image_5 ic_0 ?_
  refine aw_is_n (lv1 := [(1, .int (0 : Int32)), (0, .ref (sdX X 24 0))]) F dX8_image_6 rfl (by decide) rfl ?_
  refine aw_sub [1, 0] rfl ?_
  exact kl_X8_image_7 F T h
-- X8_back (height 0)
def lb_X8_back_16 (post : Bool → GH → Prop) (P16 : Int32 → GH → Prop) (v1 : Int32) (G : GH) : Prop :=
  (((681 : Int32) ≤ v1 → (∀ G_4 : GH, G_4 = gs G 24 0 (upd (G 24 0) 4 (0 : Int32)) → (∀ G_5 : GH, G_5 = gs G_4 24 0 (upd (G_4 24 0) 7 (0 : Int32)) → post true G_5))) ∧ (¬ (681 : Int32) ≤ v1 → (vp_in v1 681 ∧ (vp_in v1 681 ∧ (∀ G_6 : GH, G_6 = gs G 24 1 (upd (G 24 1) v1.toNatClampNeg (G 24 3 v1.toNatClampNeg)) → P16 (v1 + (1 : Int32)) G_6)))))
def lp_X8_back_16 (post : Bool → GH → Prop) (v1 : Int32) (G : GH) : Prop := ∀ P16 : Int32 → GH → Prop, (∀ (v1 : Int32) (G : GH), lb_X8_back_16 post P16 v1 G → P16 v1 G) → P16 v1 G
def wp_X8_back (post : Bool → GH → Prop) (G : GH) : Prop :=
  (∀ G_1 : GH, G_1 = gs G 24 0 (upd (G 24 0) 5 (0 : Int32)) → (((G_1 24 0 6) = 0 → post false G_1) ∧ (¬ (G_1 24 0 6) = 0 → lp_X8_back_16 post (0 : Int32) G_1)))
set_option maxRecDepth 100000 in
set_option maxHeartbeats 4000000 in
theorem kl_X8_back_16 {E : Ev} {X : Cx} {post : Bool → GH → Prop} {v1 : Int32} {G : GH} (F : Fx E X "MarkFieldModel" cX8_back 2) (T : RT E X 0 0 0 (some .boolean) (pB post)) (h : lp_X8_back_16 post v1 G) : AW E X 2 16 [(0, .ref (sdX X 24 0)), (1, .int v1)] [] G 0 0 := by
  have hP := F.P
  have K16 : ∀ (v1 : Int32) (G : GH), AW E X 2 16 [(0, .ref (sdX X 24 0)), (1, .int v1)] [] G 0 0 → AW E X 2 16 [(0, .ref (sdX X 24 0)), (1, .int v1)] [] G 0 0 := fun _ _ q => q
  refine h (fun (v1 : Int32) (G : GH) => AW E X 2 16 [(0, .ref (sdX X 24 0)), (1, .int v1)] [] G 0 0) (fun (v1 : Int32) (G : GH) h => ?_)
  refine aw_il_n F 1 dX8_back_16 rfl rfl ?_
  refine aw_si F dX8_back_17 si_681 ?_
  refine aw_icmp_ge (tgt := 41) F dX8_back_20 (by decide) (fun c_3 => ?_) (fun c_3 => ?_)
  · replace h := h.1 c_3
    refine aw_al_n F 0 dX8_back_41 rfl rfl ?_
    refine aw_ic F dX8_back_42 ic_0 ?_
    refine pf8_4 F (lo_s rfl) (hP _ rfl) rfl w_1164 dX8_back_43 (fun G_4 eG_4 => ?_)
    replace h := h G_4 eG_4
    refine aw_al_n F 0 dX8_back_46 rfl rfl ?_
    refine aw_ic F dX8_back_47 ic_0 ?_
    refine pf8_7 F (lo_s rfl) (hP _ rfl) rfl w_1167 (Or.inl rfl) dX8_back_48 (fun G_5 eG_5 => ?_)
    replace h := h G_5 eG_5
    refine aw_ic F dX8_back_51 ic_1 ?_
    exact aw_zret F T true rfl (Nat.le_of_ble_eq_true rfl) (Nat.le_of_ble_eq_true rfl) ⟨_, rfl, h⟩ dX8_back_52
  · replace h := h.2 c_3
    refine aw_al_n F 0 dX8_back_23 rfl rfl ?_
    refine gr8_0 F (lo_s rfl) (hP _ rfl) rfl w_1160 (hP _ rfl) dX8_back_24 ?_
    refine aw_il_n F 1 dX8_back_27 rfl rfl ?_
    refine aw_al_n F 0 dX8_back_28 rfl rfl ?_
    refine gr8_2 F (lo_s rfl) (hP _ rfl) rfl w_1162 (hP _ rfl) dX8_back_29 ?_
    refine aw_il_n F 1 dX8_back_32 rfl rfl ?_
    refine aw_iald F 24 3 (lo_s rfl) (hP _ rfl) rfl h.1 dX8_back_33 ?_
    replace h := h.2
    refine aw_iast F 24 1 (lo_s rfl) (hP _ rfl) rfl h.1 dX8_back_34 ?_
    refine aw_nG (fun G_6 eG_6 => ?_)
    replace h := h.2 G_6 eG_6
    refine aw_inc (lv1 := [(1, .int (v1 + (1 : Int32))), (0, .ref (sdX X 24 0))]) F 1 dX8_back_35 rfl (in_1 _) (by decide) rfl ?_
    refine aw_go (tgt := 16) F dX8_back_38 (by decide) ?_
    refine aw_sub [1, 0] rfl ?_
    exact K16 _ _ h
set_option maxRecDepth 100000 in
set_option maxHeartbeats 4000000 in
theorem k_X8_back {l : Launch} {E : Ev} {P : Nat → Prop} {sd : Nat → Nat → Nat} {G : GH} {post : Bool → GH → Prop} (hPP : ∀ o, stt o = true → P o) (h : wp_X8_back post G) : Ct l yX8_back cX8_back 2 (some .boolean) 0 0 0 E P sd G [.ref (sd 24 0)] (pB post) := by
  refine ct_of (own := "MarkFieldModel") (by decide) rfl (Nat.le_of_ble_eq_true rfl) hPP (fun X F T el eP es => ?_)
  subst el; subst eP; subst es
  have hP := F.P
  change AW E X 2 0 [(0, .ref (sdX X 24 0))] [] G 0 0
  refine aw_al_n F 0 dX8_back_0 rfl rfl ?_
  refine aw_ic F dX8_back_1 ic_0 ?_
  refine pf8_5 F (lo_s rfl) (hP _ rfl) rfl w_1165 dX8_back_2 (fun G_1 eG_1 => ?_)
  replace h := h G_1 eG_1
  refine aw_al_n F 0 dX8_back_5 rfl rfl ?_
  refine gf8_6 F (lo_s rfl) (hP _ rfl) rfl w_1166 dX8_back_6 ?_
  refine aw_if_ne (tgt := 14) F dX8_back_9 (by decide) (fun c_2 => ?_) (fun c_2 => ?_)
  · replace h := h.2 c_2
    refine aw_ic F dX8_back_14 ic_0 ?_
    refine aw_is_n (lv1 := [(1, .int (0 : Int32)), (0, .ref (sdX X 24 0))]) F dX8_back_15 rfl (by decide) rfl ?_
    refine aw_sub [1, 0] rfl ?_
    exact kl_X8_back_16 F T h
  · replace h := h.1 c_2
    refine aw_ic F dX8_back_12 ic_0 ?_
    exact aw_zret F T false rfl (Nat.le_of_ble_eq_true rfl) (Nat.le_of_ble_eq_true rfl) ⟨_, rfl, h⟩ dX8_back_13
-- X8_feed (height 0)
def j_X8_feed_76 (post : Int32 → GH → Prop) (P23 : Int32 → Int32 → Int32 → Int32 → Int32 → Int32 → GH → Prop) (v1 v2 v3 v4 v5 v6 s0 : Int32) (G : GH) : Prop :=
  (vp_in (G 24 0 32) 700 ∧ (∀ G_8 : GH, G_8 = gs G 24 32 (upd (G 24 32) (G 24 0 32).toNatClampNeg ((s0 >>> (((24 : Int32) - ((8 : Int32) * (v6 - v6 / (4 : Int32) * (4 : Int32)))) &&& 31)) &&& (255 : Int32))) → (∀ G_9 : GH, G_9 = gs G_8 24 0 (upd (G_8 24 0) 32 ((G_8 24 0 32) + (1 : Int32))) → P23 v1 v2 v3 v4 v5 (v6 + (1 : Int32)) G_9)))
def lb_X8_feed_23 (post : Int32 → GH → Prop) (P23 : Int32 → Int32 → Int32 → Int32 → Int32 → Int32 → GH → Prop) (v1 v2 v3 v4 v5 v6 : Int32) (G : GH) : Prop :=
  (((20 : Int32) ≤ v6 → post (G 24 0 32) G) ∧ (¬ (20 : Int32) ≤ v6 → (((4 : Int32) ≤ v6 → (((8 : Int32) ≤ v6 → (((12 : Int32) ≤ v6 → (((16 : Int32) ≤ v6 → j_X8_feed_76 post P23 v1 v2 v3 v4 v5 v6 v5 G) ∧ (¬ (16 : Int32) ≤ v6 → j_X8_feed_76 post P23 v1 v2 v3 v4 v5 v6 v4 G))) ∧ (¬ (12 : Int32) ≤ v6 → j_X8_feed_76 post P23 v1 v2 v3 v4 v5 v6 v3 G))) ∧ (¬ (8 : Int32) ≤ v6 → j_X8_feed_76 post P23 v1 v2 v3 v4 v5 v6 v2 G))) ∧ (¬ (4 : Int32) ≤ v6 → j_X8_feed_76 post P23 v1 v2 v3 v4 v5 v6 v1 G))))
def lp_X8_feed_23 (post : Int32 → GH → Prop) (v1 v2 v3 v4 v5 v6 : Int32) (G : GH) : Prop := ∀ P23 : Int32 → Int32 → Int32 → Int32 → Int32 → Int32 → GH → Prop, (∀ (v1 v2 v3 v4 v5 v6 : Int32) (G : GH), lb_X8_feed_23 post P23 v1 v2 v3 v4 v5 v6 G → P23 v1 v2 v3 v4 v5 v6 G) → P23 v1 v2 v3 v4 v5 v6 G
def wp_X8_feed (post : Int32 → GH → Prop) (x1 x2 x3 x4 x5 : Int32) (G : GH) : Prop :=
  (∀ G_1 : GH, G_1 = gs G 24 0 (upd (G 24 0) 5 (0 : Int32)) → ((((G_1 24 0 32) + (20 : Int32)) ≤ (700 : Int32) → lp_X8_feed_23 post x1 x2 x3 x4 x5 (0 : Int32) G_1) ∧ (¬ ((G_1 24 0 32) + (20 : Int32)) ≤ (700 : Int32) → post (-1 : Int32) G_1)))
set_option maxRecDepth 100000 in
set_option maxHeartbeats 4000000 in
theorem kj_X8_feed_76 {E : Ev} {X : Cx} {post : Int32 → GH → Prop} {P23 : Int32 → Int32 → Int32 → Int32 → Int32 → Int32 → GH → Prop} {v1 v2 v3 v4 v5 v6 s0 : Int32} {G : GH} (F : Fx E X "MarkFieldModel" cX8_feed 8) (T : RT E X 0 0 0 (some .int) (pI post)) (K23 : ∀ (v1 v2 v3 v4 v5 v6 : Int32) (G : GH), P23 v1 v2 v3 v4 v5 v6 G → AW E X 8 23 [(0, .ref (sdX X 24 0)), (1, .int v1), (2, .int v2), (3, .int v3), (4, .int v4), (5, .int v5), (6, .int v6)] [] G 0 0) (h : j_X8_feed_76 post P23 v1 v2 v3 v4 v5 v6 s0 G) : AW E X 8 76 [(0, .ref (sdX X 24 0)), (1, .int v1), (2, .int v2), (3, .int v3), (4, .int v4), (5, .int v5), (6, .int v6)] [.int s0] G 0 0 := by
  have hP := F.P
  refine aw_is (lv1 := [(7, .int s0), (0, .ref (sdX X 24 0)), (1, .int v1), (2, .int v2), (3, .int v3), (4, .int v4), (5, .int v5), (6, .int v6)]) F dX8_feed_76 (by decide) rfl ?_
  refine aw_al_n F 1 dX8_feed_78 rfl rfl ?_
  refine gr8_31 F (lo_s rfl) (hP _ rfl) rfl w_1191 (hP _ rfl) dX8_feed_79 ?_
  refine aw_al_n F 1 dX8_feed_82 rfl rfl ?_
  refine gf8_32 F (lo_s rfl) (hP _ rfl) rfl w_1192 dX8_feed_83 ?_
  refine aw_il F 0 dX8_feed_86 rfl ?_
  refine aw_bi F dX8_feed_88 bi_24 ?_
  refine aw_bi F dX8_feed_90 bi_8 ?_
  refine aw_il F 7 dX8_feed_92 rfl ?_
  refine aw_ic F dX8_feed_94 ic_4 ?_
  refine aw_irem F dX8_feed_95 (by decide) ?_
  refine aw_imul F dX8_feed_96 ?_
  refine aw_isub F dX8_feed_97 ?_
  refine aw_ishr F dX8_feed_98 ?_
  refine aw_si F dX8_feed_99 si_255 ?_
  refine aw_iand F dX8_feed_102 ?_
  refine aw_iast F 24 32 (lo_s rfl) (hP _ rfl) rfl h.1 dX8_feed_103 ?_
  refine aw_nG (fun G_8 eG_8 => ?_)
  replace h := h.2 G_8 eG_8
  refine aw_al_n F 1 dX8_feed_104 rfl rfl ?_
  refine aw_dup F dX8_feed_105 rfl ?_
  refine gf8_32 F (lo_s rfl) (hP _ rfl) rfl w_1192 dX8_feed_106 ?_
  refine aw_ic F dX8_feed_109 ic_1 ?_
  refine aw_iadd F dX8_feed_110 ?_
  refine pf8_32 F (lo_s rfl) (hP _ rfl) rfl w_1192 dX8_feed_111 (fun G_9 eG_9 => ?_)
  replace h := h G_9 eG_9
  refine aw_inc (lv1 := [(6, .int (v6 + (1 : Int32))), (7, .int s0), (0, .ref (sdX X 24 0)), (1, .int v1), (2, .int v2), (3, .int v3), (4, .int v4), (5, .int v5)]) F 7 dX8_feed_114 rfl (in_1 _) (by decide) rfl ?_
  refine aw_go (tgt := 23) F dX8_feed_117 (by decide) ?_
  refine aw_sub [2, 3, 4, 5, 6, 7, 0] rfl ?_
  exact K23 _ _ _ _ _ _ _ h
set_option maxRecDepth 100000 in
set_option maxHeartbeats 4000000 in
theorem kl_X8_feed_23 {E : Ev} {X : Cx} {post : Int32 → GH → Prop} {v1 v2 v3 v4 v5 v6 : Int32} {G : GH} (F : Fx E X "MarkFieldModel" cX8_feed 8) (T : RT E X 0 0 0 (some .int) (pI post)) (h : lp_X8_feed_23 post v1 v2 v3 v4 v5 v6 G) : AW E X 8 23 [(0, .ref (sdX X 24 0)), (1, .int v1), (2, .int v2), (3, .int v3), (4, .int v4), (5, .int v5), (6, .int v6)] [] G 0 0 := by
  have hP := F.P
  have K23 : ∀ (v1 v2 v3 v4 v5 v6 : Int32) (G : GH), AW E X 8 23 [(0, .ref (sdX X 24 0)), (1, .int v1), (2, .int v2), (3, .int v3), (4, .int v4), (5, .int v5), (6, .int v6)] [] G 0 0 → AW E X 8 23 [(0, .ref (sdX X 24 0)), (1, .int v1), (2, .int v2), (3, .int v3), (4, .int v4), (5, .int v5), (6, .int v6)] [] G 0 0 := fun _ _ _ _ _ _ _ q => q
  refine h (fun (v1 v2 v3 v4 v5 v6 : Int32) (G : GH) => AW E X 8 23 [(0, .ref (sdX X 24 0)), (1, .int v1), (2, .int v2), (3, .int v3), (4, .int v4), (5, .int v5), (6, .int v6)] [] G 0 0) (fun (v1 v2 v3 v4 v5 v6 : Int32) (G : GH) h => ?_)
  refine aw_il F 6 dX8_feed_23 rfl ?_
  refine aw_bi F dX8_feed_25 bi_20 ?_
  refine aw_icmp_ge (tgt := 120) F dX8_feed_27 (by decide) (fun c_3 => ?_) (fun c_3 => ?_)
  · replace h := h.1 c_3
    refine aw_al_n F 0 dX8_feed_120 rfl rfl ?_
    refine gf8_32 F (lo_s rfl) (hP _ rfl) rfl w_1192 dX8_feed_121 ?_
    exact aw_iret F T (Nat.le_of_ble_eq_true rfl) (Nat.le_of_ble_eq_true rfl) ⟨_, rfl, h⟩ dX8_feed_124
  · replace h := h.2 c_3
    refine aw_il F 6 dX8_feed_30 rfl ?_
    refine aw_ic F dX8_feed_32 ic_4 ?_
    refine aw_icmp_ge (tgt := 40) F dX8_feed_33 (by decide) (fun c_4 => ?_) (fun c_4 => ?_)
    · replace h := h.1 c_4
      refine aw_il F 6 dX8_feed_40 rfl ?_
      refine aw_bi F dX8_feed_42 bi_8 ?_
      refine aw_icmp_ge (tgt := 51) F dX8_feed_44 (by decide) (fun c_5 => ?_) (fun c_5 => ?_)
      · replace h := h.1 c_5
        refine aw_il F 6 dX8_feed_51 rfl ?_
        refine aw_bi F dX8_feed_53 bi_12 ?_
        refine aw_icmp_ge (tgt := 62) F dX8_feed_55 (by decide) (fun c_6 => ?_) (fun c_6 => ?_)
        · replace h := h.1 c_6
          refine aw_il F 6 dX8_feed_62 rfl ?_
          refine aw_bi F dX8_feed_64 bi_16 ?_
          refine aw_icmp_ge (tgt := 74) F dX8_feed_66 (by decide) (fun c_7 => ?_) (fun c_7 => ?_)
          · replace h := h.1 c_7
            refine aw_il F 5 dX8_feed_74 rfl ?_
            exact kj_X8_feed_76 F T K23 h
          · replace h := h.2 c_7
            refine aw_il F 4 dX8_feed_69 rfl ?_
            refine aw_go (tgt := 76) F dX8_feed_71 (by decide) ?_
            exact kj_X8_feed_76 F T K23 h
        · replace h := h.2 c_6
          refine aw_il_n F 3 dX8_feed_58 rfl rfl ?_
          refine aw_go (tgt := 76) F dX8_feed_59 (by decide) ?_
          exact kj_X8_feed_76 F T K23 h
      · replace h := h.2 c_5
        refine aw_il_n F 2 dX8_feed_47 rfl rfl ?_
        refine aw_go (tgt := 76) F dX8_feed_48 (by decide) ?_
        exact kj_X8_feed_76 F T K23 h
    · replace h := h.2 c_4
      refine aw_il_n F 1 dX8_feed_36 rfl rfl ?_
      refine aw_go (tgt := 76) F dX8_feed_37 (by decide) ?_
      exact kj_X8_feed_76 F T K23 h
set_option maxRecDepth 100000 in
set_option maxHeartbeats 4000000 in
theorem k_X8_feed {l : Launch} {E : Ev} {P : Nat → Prop} {sd : Nat → Nat → Nat} {G : GH} {post : Int32 → GH → Prop} {x1 x2 x3 x4 x5 : Int32} (hPP : ∀ o, stt o = true → P o) (h : wp_X8_feed post x1 x2 x3 x4 x5 G) : Ct l yX8_feed cX8_feed 8 (some .int) 0 0 0 E P sd G [.ref (sd 24 0), .int x1, .int x2, .int x3, .int x4, .int x5] (pI post) := by
  refine ct_of (own := "MarkFieldModel") (by decide) rfl (Nat.le_of_ble_eq_true rfl) hPP (fun X F T el eP es => ?_)
  subst el; subst eP; subst es
  have hP := F.P
  change AW E X 8 0 [(0, .ref (sdX X 24 0)), (1, .int x1), (2, .int x2), (3, .int x3), (4, .int x4), (5, .int x5)] [] G 0 0
  refine aw_al_n F 0 dX8_feed_0 rfl rfl ?_
  refine aw_ic F dX8_feed_1 ic_0 ?_
  refine pf8_5 F (lo_s rfl) (hP _ rfl) rfl w_1165 dX8_feed_2 (fun G_1 eG_1 => ?_)
  replace h := h G_1 eG_1
  refine aw_al_n F 0 dX8_feed_5 rfl rfl ?_
  refine gf8_32 F (lo_s rfl) (hP _ rfl) rfl w_1192 dX8_feed_6 ?_
  refine aw_bi F dX8_feed_9 bi_20 ?_
  refine aw_iadd F dX8_feed_11 ?_
  refine aw_si F dX8_feed_12 si_700 ?_
  refine aw_icmp_le (tgt := 20) F dX8_feed_15 (by decide) (fun c_2 => ?_) (fun c_2 => ?_)
  · replace h := h.1 c_2
    refine aw_ic F dX8_feed_20 ic_0 ?_
    refine aw_is (lv1 := [(6, .int (0 : Int32)), (0, .ref (sdX X 24 0)), (1, .int x1), (2, .int x2), (3, .int x3), (4, .int x4), (5, .int x5)]) F dX8_feed_21 (by decide) rfl ?_
    refine aw_sub [1, 2, 3, 4, 5, 6, 0] rfl ?_
    exact kl_X8_feed_23 F T h
  · replace h := h.2 c_2
    refine aw_ic F dX8_feed_18 ic_m1 ?_
    exact aw_iret F T (Nat.le_of_ble_eq_true rfl) (Nat.le_of_ble_eq_true rfl) ⟨_, rfl, h⟩ dX8_feed_19
-- X8_fault (height 0)
def wp_X8_fault (post : Int32 → GH → Prop) (G : GH) : Prop :=
  (∀ G_1 : GH, G_1 = gs G 24 0 (upd (G 24 0) 5 (0 : Int32)) → post (G_1 24 0 40) G_1)
set_option maxRecDepth 100000 in
set_option maxHeartbeats 4000000 in
theorem k_X8_fault {l : Launch} {E : Ev} {P : Nat → Prop} {sd : Nat → Nat → Nat} {G : GH} {post : Int32 → GH → Prop} (hPP : ∀ o, stt o = true → P o) (h : wp_X8_fault post G) : Ct l yX8_fault cX8_fault 1 (some .int) 0 0 0 E P sd G [.ref (sd 24 0)] (pI post) := by
  refine ct_of (own := "MarkFieldModel") (by decide) rfl (Nat.le_of_ble_eq_true rfl) hPP (fun X F T el eP es => ?_)
  subst el; subst eP; subst es
  have hP := F.P
  change AW E X 1 0 [(0, .ref (sdX X 24 0))] [] G 0 0
  refine aw_al_n F 0 dX8_fault_0 rfl rfl ?_
  refine aw_ic F dX8_fault_1 ic_0 ?_
  refine pf8_5 F (lo_s rfl) (hP _ rfl) rfl w_1165 dX8_fault_2 (fun G_1 eG_1 => ?_)
  replace h := h G_1 eG_1
  refine aw_al_n F 0 dX8_fault_5 rfl rfl ?_
  refine gf8_40 F (lo_s rfl) (hP _ rfl) rfl w_1200 dX8_fault_6 ?_
  exact aw_iret F T (Nat.le_of_ble_eq_true rfl) (Nat.le_of_ble_eq_true rfl) ⟨_, rfl, h⟩ dX8_fault_9
-- X8_byteAt (height 0)
def wp_X8_byteAt (post : Int32 → GH → Prop) (x1 : Int32) (G : GH) : Prop :=
  (((G 24 0 33) ≤ x1 → post (-1 : Int32) G) ∧ (¬ (G 24 0 33) ≤ x1 → (vp_in x1 700 ∧ post (G 24 32 x1.toNatClampNeg) G)))
set_option maxRecDepth 100000 in
set_option maxHeartbeats 4000000 in
theorem k_X8_byteAt {l : Launch} {E : Ev} {P : Nat → Prop} {sd : Nat → Nat → Nat} {G : GH} {post : Int32 → GH → Prop} {x1 : Int32} (hPP : ∀ o, stt o = true → P o) (h : wp_X8_byteAt post x1 G) : Ct l yX8_byteAt cX8_byteAt 2 (some .int) 0 0 0 E P sd G [.ref (sd 24 0), .int x1] (pI post) := by
  refine ct_of (own := "MarkFieldModel") (by decide) rfl (Nat.le_of_ble_eq_true rfl) hPP (fun X F T el eP es => ?_)
  subst el; subst eP; subst es
  have hP := F.P
  change AW E X 2 0 [(0, .ref (sdX X 24 0)), (1, .int x1)] [] G 0 0
  refine aw_il_n F 1 dX8_byteAt_0 rfl rfl ?_
  refine aw_al_n F 0 dX8_byteAt_1 rfl rfl ?_
  refine gf8_33 F (lo_s rfl) (hP _ rfl) rfl w_1193 dX8_byteAt_2 ?_
  refine aw_icmp_ge (tgt := 17) F dX8_byteAt_5 (by decide) (fun c_1 => ?_) (fun c_1 => ?_)
  · replace h := h.1 c_1
    refine aw_ic F dX8_byteAt_17 ic_m1 ?_
    exact aw_iret F T (Nat.le_of_ble_eq_true rfl) (Nat.le_of_ble_eq_true rfl) ⟨_, rfl, h⟩ dX8_byteAt_18
  · replace h := h.2 c_1
    refine aw_al_n F 0 dX8_byteAt_8 rfl rfl ?_
    refine gr8_31 F (lo_s rfl) (hP _ rfl) rfl w_1191 (hP _ rfl) dX8_byteAt_9 ?_
    refine aw_il_n F 1 dX8_byteAt_12 rfl rfl ?_
    refine aw_iald F 24 32 (lo_s rfl) (hP _ rfl) rfl h.1 dX8_byteAt_13 ?_
    replace h := h.2
    refine aw_go (tgt := 18) F dX8_byteAt_14 (by decide) ?_
    exact aw_iret F T (Nat.le_of_ble_eq_true rfl) (Nat.le_of_ble_eq_true rfl) ⟨_, rfl, h⟩ dX8_byteAt_18
-- X8_isSmall (height 0)
def wp_X8_isSmall (post : Bool → GH → Prop) (x0 : Int32) (G : GH) : Prop :=
  ((x0 < (97 : Int32) → post false G) ∧ (¬ x0 < (97 : Int32) → (((122 : Int32) < x0 → post false G) ∧ (¬ (122 : Int32) < x0 → post true G))))
set_option maxRecDepth 100000 in
set_option maxHeartbeats 4000000 in
theorem k_X8_isSmall {l : Launch} {E : Ev} {P : Nat → Prop} {sd : Nat → Nat → Nat} {G : GH} {post : Bool → GH → Prop} {x0 : Int32} (hPP : ∀ o, stt o = true → P o) (h : wp_X8_isSmall post x0 G) : Ct l yX8_isSmall cX8_isSmall 1 (some .boolean) 0 0 0 E P sd G [.int x0] (pB post) := by
  refine ct_of (own := "MarkFieldModel") (by decide) rfl (Nat.le_of_ble_eq_true rfl) hPP (fun X F T el eP es => ?_)
  subst el; subst eP; subst es
  have hP := F.P
  change AW E X 1 0 [(0, .int x0)] [] G 0 0
  refine aw_il_n F 0 dX8_isSmall_0 rfl rfl ?_
  refine aw_bi F dX8_isSmall_1 bi_97 ?_
  refine aw_icmp_lt (tgt := 16) F dX8_isSmall_3 (by decide) (fun c_1 => ?_) (fun c_1 => ?_)
  · replace h := h.1 c_1
    refine aw_ic F dX8_isSmall_16 ic_0 ?_
    exact aw_zret F T false rfl (Nat.le_of_ble_eq_true rfl) (Nat.le_of_ble_eq_true rfl) ⟨_, rfl, h⟩ dX8_isSmall_17
  · replace h := h.2 c_1
    refine aw_il_n F 0 dX8_isSmall_6 rfl rfl ?_
    refine aw_bi F dX8_isSmall_7 bi_122 ?_
    refine aw_icmp_gt (tgt := 16) F dX8_isSmall_9 (by decide) (fun c_2 => ?_) (fun c_2 => ?_)
    · replace h := h.1 c_2
      refine aw_ic F dX8_isSmall_16 ic_0 ?_
      exact aw_zret F T false rfl (Nat.le_of_ble_eq_true rfl) (Nat.le_of_ble_eq_true rfl) ⟨_, rfl, h⟩ dX8_isSmall_17
    · replace h := h.2 c_2
      refine aw_ic F dX8_isSmall_12 ic_1 ?_
      refine aw_go (tgt := 17) F dX8_isSmall_13 (by decide) ?_
      exact aw_zret F T true rfl (Nat.le_of_ble_eq_true rfl) (Nat.le_of_ble_eq_true rfl) ⟨_, rfl, h⟩ dX8_isSmall_17
-- X8_isFigure (height 0)
def wp_X8_isFigure (post : Bool → GH → Prop) (x0 : Int32) (G : GH) : Prop :=
  ((x0 < (48 : Int32) → post false G) ∧ (¬ x0 < (48 : Int32) → (((57 : Int32) < x0 → post false G) ∧ (¬ (57 : Int32) < x0 → post true G))))
set_option maxRecDepth 100000 in
set_option maxHeartbeats 4000000 in
theorem k_X8_isFigure {l : Launch} {E : Ev} {P : Nat → Prop} {sd : Nat → Nat → Nat} {G : GH} {post : Bool → GH → Prop} {x0 : Int32} (hPP : ∀ o, stt o = true → P o) (h : wp_X8_isFigure post x0 G) : Ct l yX8_isFigure cX8_isFigure 1 (some .boolean) 0 0 0 E P sd G [.int x0] (pB post) := by
  refine ct_of (own := "MarkFieldModel") (by decide) rfl (Nat.le_of_ble_eq_true rfl) hPP (fun X F T el eP es => ?_)
  subst el; subst eP; subst es
  have hP := F.P
  change AW E X 1 0 [(0, .int x0)] [] G 0 0
  refine aw_il_n F 0 dX8_isFigure_0 rfl rfl ?_
  refine aw_bi F dX8_isFigure_1 bi_48 ?_
  refine aw_icmp_lt (tgt := 16) F dX8_isFigure_3 (by decide) (fun c_1 => ?_) (fun c_1 => ?_)
  · replace h := h.1 c_1
    refine aw_ic F dX8_isFigure_16 ic_0 ?_
    exact aw_zret F T false rfl (Nat.le_of_ble_eq_true rfl) (Nat.le_of_ble_eq_true rfl) ⟨_, rfl, h⟩ dX8_isFigure_17
  · replace h := h.2 c_1
    refine aw_il_n F 0 dX8_isFigure_6 rfl rfl ?_
    refine aw_bi F dX8_isFigure_7 bi_57 ?_
    refine aw_icmp_gt (tgt := 16) F dX8_isFigure_9 (by decide) (fun c_2 => ?_) (fun c_2 => ?_)
    · replace h := h.1 c_2
      refine aw_ic F dX8_isFigure_16 ic_0 ?_
      exact aw_zret F T false rfl (Nat.le_of_ble_eq_true rfl) (Nat.le_of_ble_eq_true rfl) ⟨_, rfl, h⟩ dX8_isFigure_17
    · replace h := h.2 c_2
      refine aw_ic F dX8_isFigure_12 ic_1 ?_
      refine aw_go (tgt := 17) F dX8_isFigure_13 (by decide) ?_
      exact aw_zret F T true rfl (Nat.le_of_ble_eq_true rfl) (Nat.le_of_ble_eq_true rfl) ⟨_, rfl, h⟩ dX8_isFigure_17
-- X8_step (height 1)
def j_X8_step_26 (post : GH → Prop) (P0 : GH → Prop) (G : GH) : Prop :=
  (∀ G_4 : GH, G_4 = gs G 24 0 (upd (G 24 0) 34 ((G 24 0 34) + (1 : Int32))) → P0 G_4)
def j_X8_step_168 (post : GH → Prop) (G : GH) : Prop :=
  (∀ G_20 : GH, G_20 = gs G 24 0 (upd (G 24 0) 37 (G 24 0 34)) → post G_20)
def lb_X8_step_118 (post : GH → Prop) (P118 : GH → Prop) (G : GH) : Prop :=
  wp_X8_byteAt (fun (r_22 : Int32) (G_21 : GH) => wp_X8_isFigure (fun (b_24 : Bool) (G_23 : GH) => ((b_24 = false → (∀ G_26 : GH, G_26 = gs G_23 24 0 (upd (G_23 24 0) 35 (2 : Int32)) → j_X8_step_168 post G_26)) ∧ (b_24 = true → (∀ G_27 : GH, G_27 = gs G_23 24 0 (upd (G_23 24 0) 34 ((G_23 24 0 34) + (1 : Int32))) → P118 G_27)))) r_22 G_21) (G 24 0 34) G
def lp_X8_step_118 (post : GH → Prop) (G : GH) : Prop := ∀ P118 : GH → Prop, (∀ (G : GH), lb_X8_step_118 post P118 G → P118 G) → P118 G
def lb_X8_step_76 (post : GH → Prop) (P76 : GH → Prop) (G : GH) : Prop :=
  wp_X8_byteAt (fun (r_29 : Int32) (G_28 : GH) => wp_X8_isSmall (fun (b_31 : Bool) (G_30 : GH) => ((b_31 = false → (∀ G_33 : GH, G_33 = gs G_30 24 0 (upd (G_30 24 0) 35 (1 : Int32)) → j_X8_step_168 post G_33)) ∧ (b_31 = true → (∀ G_34 : GH, G_34 = gs G_30 24 0 (upd (G_30 24 0) 34 ((G_30 24 0 34) + (1 : Int32))) → P76 G_34)))) r_29 G_28) (G 24 0 34) G
def lp_X8_step_76 (post : GH → Prop) (G : GH) : Prop := ∀ P76 : GH → Prop, (∀ (G : GH), lb_X8_step_76 post P76 G → P76 G) → P76 G
def lb_X8_step_0 (post : GH → Prop) (P0 : GH → Prop) (G : GH) : Prop :=
  wp_X8_byteAt (fun (r_2 : Int32) (G_1 : GH) => ((r_2 = (32 : Int32) → j_X8_step_26 post P0 G_1) ∧ (¬ r_2 = (32 : Int32) → wp_X8_byteAt (fun (r_6 : Int32) (G_5 : GH) => ((r_6 = (10 : Int32) → j_X8_step_26 post P0 G_5) ∧ (¬ r_6 = (10 : Int32) → (∀ G_8 : GH, G_8 = gs G_5 24 0 (upd (G_5 24 0) 36 (G_5 24 0 34)) → wp_X8_byteAt (fun (r_10 : Int32) (G_9 : GH) => ((r_10 = (-1 : Int32) → (∀ G_35 : GH, G_35 = gs G_9 24 0 (upd (G_9 24 0) 35 (0 : Int32)) → j_X8_step_168 post G_35)) ∧ (¬ r_10 = (-1 : Int32) → wp_X8_isSmall (fun (b_13 : Bool) (G_12 : GH) => ((b_13 = false → wp_X8_isFigure (fun (b_16 : Bool) (G_15 : GH) => ((b_16 = false → (∀ G_18 : GH, G_18 = gs G_15 24 0 (upd (G_15 24 0) 34 ((G_15 24 0 34) + (1 : Int32))) → (∀ G_19 : GH, G_19 = gs G_18 24 0 (upd (G_18 24 0) 35 (3 : Int32)) → j_X8_step_168 post G_19))) ∧ (b_16 = true → lp_X8_step_118 post G_15))) r_10 G_12) ∧ (b_13 = true → lp_X8_step_76 post G_12))) r_10 G_9))) (G_8 24 0 34) G_8)))) (G_1 24 0 34) G_1))) (G 24 0 34) G
def lp_X8_step_0 (post : GH → Prop) (G : GH) : Prop := ∀ P0 : GH → Prop, (∀ (G : GH), lb_X8_step_0 post P0 G → P0 G) → P0 G
def wp_X8_step (post : GH → Prop) (G : GH) : Prop :=
  lp_X8_step_0 post G
set_option maxRecDepth 100000 in
set_option maxHeartbeats 4000000 in
theorem kj_X8_step_26 {E : Ev} {X : Cx} {post : GH → Prop} {P0 : GH → Prop} {G : GH} (F : Fx E X "MarkFieldModel" cX8_step 2) (T : RT E X 1 0 0 none (pV post)) (K0 : ∀ (G : GH), P0 G → AW E X 2 0 [(0, .ref (sdX X 24 0))] [] G 0 0) (h : j_X8_step_26 post P0 G) : AW E X 2 26 [(0, .ref (sdX X 24 0))] [] G 0 0 := by
  have hP := F.P
  refine aw_al_n F 0 dX8_step_26 rfl rfl ?_
  refine aw_dup F dX8_step_27 rfl ?_
  refine gf8_34 F (lo_s rfl) (hP _ rfl) rfl w_1194 dX8_step_28 ?_
  refine aw_ic F dX8_step_31 ic_1 ?_
  refine aw_iadd F dX8_step_32 ?_
  refine pf8_34 F (lo_s rfl) (hP _ rfl) rfl w_1194 dX8_step_33 (fun G_4 eG_4 => ?_)
  replace h := h G_4 eG_4
  refine aw_go (tgt := 0) F dX8_step_36 (by decide) ?_
  exact K0 _ h
set_option maxRecDepth 100000 in
set_option maxHeartbeats 4000000 in
theorem kj_X8_step_168 {E : Ev} {X : Cx} {post : GH → Prop} {G : GH} (F : Fx E X "MarkFieldModel" cX8_step 2) (T : RT E X 1 0 0 none (pV post)) (h : j_X8_step_168 post G) : AW E X 2 168 [(0, .ref (sdX X 24 0))] [] G 0 0 := by
  have hP := F.P
  refine aw_al_n F 0 dX8_step_168 rfl rfl ?_
  refine aw_al_n F 0 dX8_step_169 rfl rfl ?_
  refine gf8_34 F (lo_s rfl) (hP _ rfl) rfl w_1194 dX8_step_170 ?_
  refine pf8_37 F (lo_s rfl) (hP _ rfl) rfl w_1197 dX8_step_173 (fun G_20 eG_20 => ?_)
  replace h := h G_20 eG_20
  exact aw_vret F T (Nat.le_of_ble_eq_true rfl) (Nat.le_of_ble_eq_true rfl) ⟨rfl, h⟩ dX8_step_176
set_option maxRecDepth 100000 in
set_option maxHeartbeats 4000000 in
theorem kl_X8_step_118 {E : Ev} {X : Cx} {post : GH → Prop} {G : GH} (F : Fx E X "MarkFieldModel" cX8_step 2) (T : RT E X 1 0 0 none (pV post)) (h : lp_X8_step_118 post G) : AW E X 2 118 [(0, .ref (sdX X 24 0))] [] G 0 0 := by
  have hP := F.P
  have K118 : ∀ (G : GH), AW E X 2 118 [(0, .ref (sdX X 24 0))] [] G 0 0 → AW E X 2 118 [(0, .ref (sdX X 24 0))] [] G 0 0 := fun _ q => q
  refine h (fun (G : GH) => AW E X 2 118 [(0, .ref (sdX X 24 0))] [] G 0 0) (fun (G : GH) h => ?_)
  refine aw_al_n F 0 dX8_step_118 rfl rfl ?_
  refine aw_al_n F 0 dX8_step_119 rfl rfl ?_
  refine gf8_34 F (lo_s rfl) (hP _ rfl) rfl w_1194 dX8_step_120 ?_
  refine aw_cVi (stk := []) F T.room [.int (G 24 0 34)] (k_X8_byteAt hP h) mv_X8_byteAt w_1655 cf8 (lo_s rfl) (hP _ rfl) rfl (by decide) rfl rfl (Nat.le_of_ble_eq_true rfl) ⟨(Nat.le_of_ble_eq_true rfl), (Nat.le_of_ble_eq_true rfl)⟩ ⟨(Nat.le_of_ble_eq_true rfl), (Nat.le_of_ble_eq_true rfl)⟩ dX8_step_123 (fun r_22 G_21 h => ?_)
  refine aw_cSb (stk := []) F T.room [.int r_22] (k_X8_isFigure hP h) ms_X8_isFigure w_1662 rfl rfl (Nat.le_of_ble_eq_true rfl) ⟨(Nat.le_of_ble_eq_true rfl), (Nat.le_of_ble_eq_true rfl)⟩ ⟨(Nat.le_of_ble_eq_true rfl), (Nat.le_of_ble_eq_true rfl)⟩ dX8_step_126 (fun b_24 G_23 h => ?_)
  refine aw_if_eq (tgt := 145) F dX8_step_129 (by decide) (fun c_25 => ?_) (fun c_25 => ?_)
  · replace h := h.1 (bI_2 c_25)
    refine aw_al_n F 0 dX8_step_145 rfl rfl ?_
    refine aw_ic F dX8_step_146 ic_2 ?_
    refine pf8_35 F (lo_s rfl) (hP _ rfl) rfl w_1195 dX8_step_147 (fun G_26 eG_26 => ?_)
    replace h := h G_26 eG_26
    refine aw_go (tgt := 168) F dX8_step_150 (by decide) ?_
    exact kj_X8_step_168 F T h
  · replace h := h.2 (bI_1 c_25)
    refine aw_al_n F 0 dX8_step_132 rfl rfl ?_
    refine aw_dup F dX8_step_133 rfl ?_
    refine gf8_34 F (lo_s rfl) (hP _ rfl) rfl w_1194 dX8_step_134 ?_
    refine aw_ic F dX8_step_137 ic_1 ?_
    refine aw_iadd F dX8_step_138 ?_
    refine pf8_34 F (lo_s rfl) (hP _ rfl) rfl w_1194 dX8_step_139 (fun G_27 eG_27 => ?_)
    replace h := h G_27 eG_27
    refine aw_go (tgt := 118) F dX8_step_142 (by decide) ?_
    exact K118 _ h
set_option maxRecDepth 100000 in
set_option maxHeartbeats 4000000 in
theorem kl_X8_step_76 {E : Ev} {X : Cx} {post : GH → Prop} {G : GH} (F : Fx E X "MarkFieldModel" cX8_step 2) (T : RT E X 1 0 0 none (pV post)) (h : lp_X8_step_76 post G) : AW E X 2 76 [(0, .ref (sdX X 24 0))] [] G 0 0 := by
  have hP := F.P
  have K76 : ∀ (G : GH), AW E X 2 76 [(0, .ref (sdX X 24 0))] [] G 0 0 → AW E X 2 76 [(0, .ref (sdX X 24 0))] [] G 0 0 := fun _ q => q
  refine h (fun (G : GH) => AW E X 2 76 [(0, .ref (sdX X 24 0))] [] G 0 0) (fun (G : GH) h => ?_)
  refine aw_al_n F 0 dX8_step_76 rfl rfl ?_
  refine aw_al_n F 0 dX8_step_77 rfl rfl ?_
  refine gf8_34 F (lo_s rfl) (hP _ rfl) rfl w_1194 dX8_step_78 ?_
  refine aw_cVi (stk := []) F T.room [.int (G 24 0 34)] (k_X8_byteAt hP h) mv_X8_byteAt w_1655 cf8 (lo_s rfl) (hP _ rfl) rfl (by decide) rfl rfl (Nat.le_of_ble_eq_true rfl) ⟨(Nat.le_of_ble_eq_true rfl), (Nat.le_of_ble_eq_true rfl)⟩ ⟨(Nat.le_of_ble_eq_true rfl), (Nat.le_of_ble_eq_true rfl)⟩ dX8_step_81 (fun r_29 G_28 h => ?_)
  refine aw_cSb (stk := []) F T.room [.int r_29] (k_X8_isSmall hP h) ms_X8_isSmall w_1659 rfl rfl (Nat.le_of_ble_eq_true rfl) ⟨(Nat.le_of_ble_eq_true rfl), (Nat.le_of_ble_eq_true rfl)⟩ ⟨(Nat.le_of_ble_eq_true rfl), (Nat.le_of_ble_eq_true rfl)⟩ dX8_step_84 (fun b_31 G_30 h => ?_)
  refine aw_if_eq (tgt := 103) F dX8_step_87 (by decide) (fun c_32 => ?_) (fun c_32 => ?_)
  · replace h := h.1 (bI_2 c_32)
    refine aw_al_n F 0 dX8_step_103 rfl rfl ?_
    refine aw_ic F dX8_step_104 ic_1 ?_
    refine pf8_35 F (lo_s rfl) (hP _ rfl) rfl w_1195 dX8_step_105 (fun G_33 eG_33 => ?_)
    replace h := h G_33 eG_33
    refine aw_go (tgt := 168) F dX8_step_108 (by decide) ?_
    exact kj_X8_step_168 F T h
  · replace h := h.2 (bI_1 c_32)
    refine aw_al_n F 0 dX8_step_90 rfl rfl ?_
    refine aw_dup F dX8_step_91 rfl ?_
    refine gf8_34 F (lo_s rfl) (hP _ rfl) rfl w_1194 dX8_step_92 ?_
    refine aw_ic F dX8_step_95 ic_1 ?_
    refine aw_iadd F dX8_step_96 ?_
    refine pf8_34 F (lo_s rfl) (hP _ rfl) rfl w_1194 dX8_step_97 (fun G_34 eG_34 => ?_)
    replace h := h G_34 eG_34
    refine aw_go (tgt := 76) F dX8_step_100 (by decide) ?_
    exact K76 _ h
set_option maxRecDepth 100000 in
set_option maxHeartbeats 4000000 in
theorem kl_X8_step_0 {E : Ev} {X : Cx} {post : GH → Prop} {G : GH} (F : Fx E X "MarkFieldModel" cX8_step 2) (T : RT E X 1 0 0 none (pV post)) (h : lp_X8_step_0 post G) : AW E X 2 0 [(0, .ref (sdX X 24 0))] [] G 0 0 := by
  have hP := F.P
  have K0 : ∀ (G : GH), AW E X 2 0 [(0, .ref (sdX X 24 0))] [] G 0 0 → AW E X 2 0 [(0, .ref (sdX X 24 0))] [] G 0 0 := fun _ q => q
  refine h (fun (G : GH) => AW E X 2 0 [(0, .ref (sdX X 24 0))] [] G 0 0) (fun (G : GH) h => ?_)
  refine aw_al_n F 0 dX8_step_0 rfl rfl ?_
  refine aw_al_n F 0 dX8_step_1 rfl rfl ?_
  refine gf8_34 F (lo_s rfl) (hP _ rfl) rfl w_1194 dX8_step_2 ?_
  refine aw_cVi (stk := []) F T.room [.int (G 24 0 34)] (k_X8_byteAt hP h) mv_X8_byteAt w_1655 cf8 (lo_s rfl) (hP _ rfl) rfl (by decide) rfl rfl (Nat.le_of_ble_eq_true rfl) ⟨(Nat.le_of_ble_eq_true rfl), (Nat.le_of_ble_eq_true rfl)⟩ ⟨(Nat.le_of_ble_eq_true rfl), (Nat.le_of_ble_eq_true rfl)⟩ dX8_step_5 (fun r_2 G_1 h => ?_)
  refine aw_bi F dX8_step_8 bi_32 ?_
  refine aw_icmp_eq (tgt := 26) F dX8_step_10 (by decide) (fun c_3 => ?_) (fun c_3 => ?_)
  · replace h := h.1 c_3
    exact kj_X8_step_26 F T K0 h
  · replace h := h.2 c_3
    refine aw_al_n F 0 dX8_step_13 rfl rfl ?_
    refine aw_al_n F 0 dX8_step_14 rfl rfl ?_
    refine gf8_34 F (lo_s rfl) (hP _ rfl) rfl w_1194 dX8_step_15 ?_
    refine aw_cVi (stk := []) F T.room [.int (G_1 24 0 34)] (k_X8_byteAt hP h) mv_X8_byteAt w_1655 cf8 (lo_s rfl) (hP _ rfl) rfl (by decide) rfl rfl (Nat.le_of_ble_eq_true rfl) ⟨(Nat.le_of_ble_eq_true rfl), (Nat.le_of_ble_eq_true rfl)⟩ ⟨(Nat.le_of_ble_eq_true rfl), (Nat.le_of_ble_eq_true rfl)⟩ dX8_step_18 (fun r_6 G_5 h => ?_)
    refine aw_bi F dX8_step_21 bi_10 ?_
    refine aw_icmp_ne (tgt := 39) F dX8_step_23 (by decide) (fun c_7 => ?_) (fun c_7 => ?_)
    · replace h := h.2 c_7
      refine aw_al_n F 0 dX8_step_39 rfl rfl ?_
      refine aw_al_n F 0 dX8_step_40 rfl rfl ?_
      refine gf8_34 F (lo_s rfl) (hP _ rfl) rfl w_1194 dX8_step_41 ?_
      refine pf8_36 F (lo_s rfl) (hP _ rfl) rfl w_1196 dX8_step_44 (fun G_8 eG_8 => ?_)
      replace h := h G_8 eG_8
      refine aw_al_n F 0 dX8_step_47 rfl rfl ?_
      refine aw_al_n F 0 dX8_step_48 rfl rfl ?_
      refine gf8_34 F (lo_s rfl) (hP _ rfl) rfl w_1194 dX8_step_49 ?_
      refine aw_cVi (stk := []) F T.room [.int (G_8 24 0 34)] (k_X8_byteAt hP h) mv_X8_byteAt w_1655 cf8 (lo_s rfl) (hP _ rfl) rfl (by decide) rfl rfl (Nat.le_of_ble_eq_true rfl) ⟨(Nat.le_of_ble_eq_true rfl), (Nat.le_of_ble_eq_true rfl)⟩ ⟨(Nat.le_of_ble_eq_true rfl), (Nat.le_of_ble_eq_true rfl)⟩ dX8_step_52 (fun r_10 G_9 h => ?_)
      refine aw_is_n (lv1 := [(1, .int r_10), (0, .ref (sdX X 24 0))]) F dX8_step_55 rfl (by decide) rfl ?_
      refine aw_il_n F 0 dX8_step_56 rfl rfl ?_
      refine aw_ic F dX8_step_57 ic_m1 ?_
      refine aw_icmp_ne (tgt := 69) F dX8_step_58 (by decide) (fun c_11 => ?_) (fun c_11 => ?_)
      · replace h := h.2 c_11
        refine aw_il_n F 0 dX8_step_69 rfl rfl ?_
        refine aw_cSb (stk := []) F T.room [.int r_10] (k_X8_isSmall hP h) ms_X8_isSmall w_1659 rfl rfl (Nat.le_of_ble_eq_true rfl) ⟨(Nat.le_of_ble_eq_true rfl), (Nat.le_of_ble_eq_true rfl)⟩ ⟨(Nat.le_of_ble_eq_true rfl), (Nat.le_of_ble_eq_true rfl)⟩ dX8_step_70 (fun b_13 G_12 h => ?_)
        refine aw_if_eq (tgt := 111) F dX8_step_73 (by decide) (fun c_14 => ?_) (fun c_14 => ?_)
        · replace h := h.1 (bI_2 c_14)
          refine aw_il_n F 0 dX8_step_111 rfl rfl ?_
          refine aw_cSb (stk := []) F T.room [.int r_10] (k_X8_isFigure hP h) ms_X8_isFigure w_1662 rfl rfl (Nat.le_of_ble_eq_true rfl) ⟨(Nat.le_of_ble_eq_true rfl), (Nat.le_of_ble_eq_true rfl)⟩ ⟨(Nat.le_of_ble_eq_true rfl), (Nat.le_of_ble_eq_true rfl)⟩ dX8_step_112 (fun b_16 G_15 h => ?_)
          refine aw_if_eq (tgt := 153) F dX8_step_115 (by decide) (fun c_17 => ?_) (fun c_17 => ?_)
          · replace h := h.1 (bI_2 c_17)
            refine aw_al_n F 1 dX8_step_153 rfl rfl ?_
            refine aw_dup F dX8_step_154 rfl ?_
            refine gf8_34 F (lo_s rfl) (hP _ rfl) rfl w_1194 dX8_step_155 ?_
            refine aw_ic F dX8_step_158 ic_1 ?_
            refine aw_iadd F dX8_step_159 ?_
            refine pf8_34 F (lo_s rfl) (hP _ rfl) rfl w_1194 dX8_step_160 (fun G_18 eG_18 => ?_)
            replace h := h G_18 eG_18
            refine aw_al_n F 1 dX8_step_163 rfl rfl ?_
            refine aw_ic F dX8_step_164 ic_3 ?_
            refine pf8_35 F (lo_s rfl) (hP _ rfl) rfl w_1195 dX8_step_165 (fun G_19 eG_19 => ?_)
            replace h := h G_19 eG_19
            refine aw_sub [1] rfl ?_
            exact kj_X8_step_168 F T h
          · replace h := h.2 (bI_1 c_17)
            refine aw_sub [1] rfl ?_
            exact kl_X8_step_118 F T h
        · replace h := h.2 (bI_1 c_14)
          refine aw_sub [1] rfl ?_
          exact kl_X8_step_76 F T h
      · replace h := h.1 c_11
        refine aw_al_n F 1 dX8_step_61 rfl rfl ?_
        refine aw_ic F dX8_step_62 ic_0 ?_
        refine pf8_35 F (lo_s rfl) (hP _ rfl) rfl w_1195 dX8_step_63 (fun G_35 eG_35 => ?_)
        replace h := h G_35 eG_35
        refine aw_go (tgt := 168) F dX8_step_66 (by decide) ?_
        refine aw_sub [1] rfl ?_
        exact kj_X8_step_168 F T h
    · replace h := h.1 c_7
      exact kj_X8_step_26 F T K0 h
set_option maxRecDepth 100000 in
set_option maxHeartbeats 4000000 in
theorem k_X8_step {l : Launch} {E : Ev} {P : Nat → Prop} {sd : Nat → Nat → Nat} {G : GH} {post : GH → Prop} (hPP : ∀ o, stt o = true → P o) (h : wp_X8_step post G) : Ct l yX8_step cX8_step 2 none 1 0 0 E P sd G [.ref (sd 24 0)] (pV post) := by
  refine ct_of (own := "MarkFieldModel") (by decide) rfl (Nat.le_of_ble_eq_true rfl) hPP (fun X F T el eP es => ?_)
  subst el; subst eP; subst es
  have hP := F.P
  change AW E X 2 0 [(0, .ref (sdX X 24 0))] [] G 0 0
  exact kl_X8_step_0 F T h
-- X8_opens (height 2)
def wp_X8_opens (post : GH → Prop) (x1 : Int32) (G : GH) : Prop :=
  (∀ G_1 : GH, G_1 = gs G 24 0 (upd (G 24 0) 33 x1) → (∀ G_2 : GH, G_2 = gs G_1 24 0 (upd (G_1 24 0) 34 (0 : Int32)) → (∀ G_3 : GH, G_3 = gs G_2 24 0 (upd (G_2 24 0) 38 (0 : Int32)) → (∀ G_4 : GH, G_4 = gs G_3 24 0 (upd (G_3 24 0) 41 (0 : Int32)) → wp_X8_step (fun (G_5 : GH) => post G_5) G_4))))
set_option maxRecDepth 100000 in
set_option maxHeartbeats 4000000 in
theorem k_X8_opens {l : Launch} {E : Ev} {P : Nat → Prop} {sd : Nat → Nat → Nat} {G : GH} {post : GH → Prop} {x1 : Int32} (hPP : ∀ o, stt o = true → P o) (h : wp_X8_opens post x1 G) : Ct l yX8_opens cX8_opens 2 none 2 0 0 E P sd G [.ref (sd 24 0), .int x1] (pV post) := by
  refine ct_of (own := "MarkFieldModel") (by decide) rfl (Nat.le_of_ble_eq_true rfl) hPP (fun X F T el eP es => ?_)
  subst el; subst eP; subst es
  have hP := F.P
  change AW E X 2 0 [(0, .ref (sdX X 24 0)), (1, .int x1)] [] G 0 0
  refine aw_al_n F 0 dX8_opens_0 rfl rfl ?_
  refine aw_il_n F 1 dX8_opens_1 rfl rfl ?_
  refine pf8_33 F (lo_s rfl) (hP _ rfl) rfl w_1193 dX8_opens_2 (fun G_1 eG_1 => ?_)
  replace h := h G_1 eG_1
  refine aw_al_n F 0 dX8_opens_5 rfl rfl ?_
  refine aw_ic F dX8_opens_6 ic_0 ?_
  refine pf8_34 F (lo_s rfl) (hP _ rfl) rfl w_1194 dX8_opens_7 (fun G_2 eG_2 => ?_)
  replace h := h G_2 eG_2
  refine aw_al_n F 0 dX8_opens_10 rfl rfl ?_
  refine aw_ic F dX8_opens_11 ic_0 ?_
  refine pf8_38 F (lo_s rfl) (hP _ rfl) rfl w_1198 dX8_opens_12 (fun G_3 eG_3 => ?_)
  replace h := h G_3 eG_3
  refine aw_al_n F 0 dX8_opens_15 rfl rfl ?_
  refine aw_ic F dX8_opens_16 ic_0 ?_
  refine pf8_41 F (lo_s rfl) (hP _ rfl) rfl w_1201 dX8_opens_17 (fun G_4 eG_4 => ?_)
  replace h := h G_4 eG_4
  refine aw_al_n F 0 dX8_opens_20 rfl rfl ?_
  refine aw_cVv (stk := []) F T.room [] (k_X8_step hP h) mv_X8_step w_1651 cf8 (lo_s rfl) (hP _ rfl) rfl (by decide) rfl rfl (Nat.le_of_ble_eq_true rfl) ⟨(Nat.le_of_ble_eq_true rfl), (Nat.le_of_ble_eq_true rfl)⟩ ⟨(Nat.le_of_ble_eq_true rfl), (Nat.le_of_ble_eq_true rfl)⟩ dX8_opens_21 (fun G_5 h => ?_)
  exact aw_vret F T (Nat.le_of_ble_eq_true rfl) (Nat.le_of_ble_eq_true rfl) ⟨rfl, h⟩ dX8_opens_24
-- X8_wrong (height 0)
def wp_X8_wrong (post : GH → Prop) (x1 : Int32) (G : GH) : Prop :=
  (((G 24 0 38) = 0 → (∀ G_2 : GH, G_2 = gs G 24 0 (upd (G 24 0) 38 x1) → (∀ G_3 : GH, G_3 = gs G_2 24 0 (upd (G_2 24 0) 39 (G_2 24 0 36)) → post G_3))) ∧ (¬ (G 24 0 38) = 0 → post G))
set_option maxRecDepth 100000 in
set_option maxHeartbeats 4000000 in
theorem k_X8_wrong {l : Launch} {E : Ev} {P : Nat → Prop} {sd : Nat → Nat → Nat} {G : GH} {post : GH → Prop} {x1 : Int32} (hPP : ∀ o, stt o = true → P o) (h : wp_X8_wrong post x1 G) : Ct l yX8_wrong cX8_wrong 2 none 0 0 0 E P sd G [.ref (sd 24 0), .int x1] (pV post) := by
  refine ct_of (own := "MarkFieldModel") (by decide) rfl (Nat.le_of_ble_eq_true rfl) hPP (fun X F T el eP es => ?_)
  subst el; subst eP; subst es
  have hP := F.P
  change AW E X 2 0 [(0, .ref (sdX X 24 0)), (1, .int x1)] [] G 0 0
  refine aw_al_n F 0 dX8_wrong_0 rfl rfl ?_
  refine gf8_38 F (lo_s rfl) (hP _ rfl) rfl w_1198 dX8_wrong_1 ?_
  refine aw_if_eq (tgt := 8) F dX8_wrong_4 (by decide) (fun c_1 => ?_) (fun c_1 => ?_)
  · replace h := h.1 c_1
    refine aw_al_n F 0 dX8_wrong_8 rfl rfl ?_
    refine aw_il_n F 1 dX8_wrong_9 rfl rfl ?_
    refine pf8_38 F (lo_s rfl) (hP _ rfl) rfl w_1198 dX8_wrong_10 (fun G_2 eG_2 => ?_)
    replace h := h G_2 eG_2
    refine aw_al_n F 0 dX8_wrong_13 rfl rfl ?_
    refine aw_al_n F 0 dX8_wrong_14 rfl rfl ?_
    refine gf8_36 F (lo_s rfl) (hP _ rfl) rfl w_1196 dX8_wrong_15 ?_
    refine pf8_39 F (lo_s rfl) (hP _ rfl) rfl w_1199 dX8_wrong_18 (fun G_3 eG_3 => ?_)
    replace h := h G_3 eG_3
    exact aw_vret F T (Nat.le_of_ble_eq_true rfl) (Nat.le_of_ble_eq_true rfl) ⟨rfl, h⟩ dX8_wrong_21
  · replace h := h.2 c_1
    exact aw_vret F T (Nat.le_of_ble_eq_true rfl) (Nat.le_of_ble_eq_true rfl) ⟨rfl, h⟩ dX8_wrong_7
-- X8_pass (height 2)
def wp_X8_pass (post : GH → Prop) (G : GH) : Prop :=
  (((G 24 0 38) = 0 → wp_X8_step (fun (G_2 : GH) => post G_2) G) ∧ (¬ (G 24 0 38) = 0 → post G))
set_option maxRecDepth 100000 in
set_option maxHeartbeats 4000000 in
theorem k_X8_pass {l : Launch} {E : Ev} {P : Nat → Prop} {sd : Nat → Nat → Nat} {G : GH} {post : GH → Prop} (hPP : ∀ o, stt o = true → P o) (h : wp_X8_pass post G) : Ct l yX8_pass cX8_pass 1 none 2 0 0 E P sd G [.ref (sd 24 0)] (pV post) := by
  refine ct_of (own := "MarkFieldModel") (by decide) rfl (Nat.le_of_ble_eq_true rfl) hPP (fun X F T el eP es => ?_)
  subst el; subst eP; subst es
  have hP := F.P
  change AW E X 1 0 [(0, .ref (sdX X 24 0))] [] G 0 0
  refine aw_al_n F 0 dX8_pass_0 rfl rfl ?_
  refine gf8_38 F (lo_s rfl) (hP _ rfl) rfl w_1198 dX8_pass_1 ?_
  refine aw_if_ne (tgt := 11) F dX8_pass_4 (by decide) (fun c_1 => ?_) (fun c_1 => ?_)
  · replace h := h.2 c_1
    exact aw_vret F T (Nat.le_of_ble_eq_true rfl) (Nat.le_of_ble_eq_true rfl) ⟨rfl, h⟩ dX8_pass_11
  · replace h := h.1 c_1
    refine aw_al_n F 0 dX8_pass_7 rfl rfl ?_
    refine aw_cVv (stk := []) F T.room [] (k_X8_step hP h) mv_X8_step w_1651 cf8 (lo_s rfl) (hP _ rfl) rfl (by decide) rfl rfl (Nat.le_of_ble_eq_true rfl) ⟨(Nat.le_of_ble_eq_true rfl), (Nat.le_of_ble_eq_true rfl)⟩ ⟨(Nat.le_of_ble_eq_true rfl), (Nat.le_of_ble_eq_true rfl)⟩ dX8_pass_8 (fun G_2 h => ?_)
    exact aw_vret F T (Nat.le_of_ble_eq_true rfl) (Nat.le_of_ble_eq_true rfl) ⟨rfl, h⟩ dX8_pass_11
-- X8_isSign (height 0)
def wp_X8_isSign (post : Bool → GH → Prop) (x1 : Int32) (G : GH) : Prop :=
  (((G 24 0 38) = 0 → (((G 24 0 35) = (3 : Int32) → (vp_in (G 24 0 36) 700 ∧ (((G 24 32 (G 24 0 36).toNatClampNeg) = x1 → post true G) ∧ (¬ (G 24 32 (G 24 0 36).toNatClampNeg) = x1 → post false G)))) ∧ (¬ (G 24 0 35) = (3 : Int32) → post false G))) ∧ (¬ (G 24 0 38) = 0 → post false G))
set_option maxRecDepth 100000 in
set_option maxHeartbeats 4000000 in
theorem k_X8_isSign {l : Launch} {E : Ev} {P : Nat → Prop} {sd : Nat → Nat → Nat} {G : GH} {post : Bool → GH → Prop} {x1 : Int32} (hPP : ∀ o, stt o = true → P o) (h : wp_X8_isSign post x1 G) : Ct l yX8_isSign cX8_isSign 2 (some .boolean) 0 0 0 E P sd G [.ref (sd 24 0), .int x1] (pB post) := by
  refine ct_of (own := "MarkFieldModel") (by decide) rfl (Nat.le_of_ble_eq_true rfl) hPP (fun X F T el eP es => ?_)
  subst el; subst eP; subst es
  have hP := F.P
  change AW E X 2 0 [(0, .ref (sdX X 24 0)), (1, .int x1)] [] G 0 0
  refine aw_al_n F 0 dX8_isSign_0 rfl rfl ?_
  refine gf8_38 F (lo_s rfl) (hP _ rfl) rfl w_1198 dX8_isSign_1 ?_
  refine aw_if_ne (tgt := 32) F dX8_isSign_4 (by decide) (fun c_1 => ?_) (fun c_1 => ?_)
  · replace h := h.2 c_1
    refine aw_ic F dX8_isSign_32 ic_0 ?_
    exact aw_zret F T false rfl (Nat.le_of_ble_eq_true rfl) (Nat.le_of_ble_eq_true rfl) ⟨_, rfl, h⟩ dX8_isSign_33
  · replace h := h.1 c_1
    refine aw_al_n F 0 dX8_isSign_7 rfl rfl ?_
    refine gf8_35 F (lo_s rfl) (hP _ rfl) rfl w_1195 dX8_isSign_8 ?_
    refine aw_ic F dX8_isSign_11 ic_3 ?_
    refine aw_icmp_ne (tgt := 32) F dX8_isSign_12 (by decide) (fun c_2 => ?_) (fun c_2 => ?_)
    · replace h := h.2 c_2
      refine aw_ic F dX8_isSign_32 ic_0 ?_
      exact aw_zret F T false rfl (Nat.le_of_ble_eq_true rfl) (Nat.le_of_ble_eq_true rfl) ⟨_, rfl, h⟩ dX8_isSign_33
    · replace h := h.1 c_2
      refine aw_al_n F 0 dX8_isSign_15 rfl rfl ?_
      refine gr8_31 F (lo_s rfl) (hP _ rfl) rfl w_1191 (hP _ rfl) dX8_isSign_16 ?_
      refine aw_al_n F 0 dX8_isSign_19 rfl rfl ?_
      refine gf8_36 F (lo_s rfl) (hP _ rfl) rfl w_1196 dX8_isSign_20 ?_
      refine aw_iald F 24 32 (lo_s rfl) (hP _ rfl) rfl h.1 dX8_isSign_23 ?_
      replace h := h.2
      refine aw_il_n F 1 dX8_isSign_24 rfl rfl ?_
      refine aw_icmp_ne (tgt := 32) F dX8_isSign_25 (by decide) (fun c_3 => ?_) (fun c_3 => ?_)
      · replace h := h.2 c_3
        refine aw_ic F dX8_isSign_32 ic_0 ?_
        exact aw_zret F T false rfl (Nat.le_of_ble_eq_true rfl) (Nat.le_of_ble_eq_true rfl) ⟨_, rfl, h⟩ dX8_isSign_33
      · replace h := h.1 c_3
        refine aw_ic F dX8_isSign_28 ic_1 ?_
        refine aw_go (tgt := 33) F dX8_isSign_29 (by decide) ?_
        exact aw_zret F T true rfl (Nat.le_of_ble_eq_true rfl) (Nat.le_of_ble_eq_true rfl) ⟨_, rfl, h⟩ dX8_isSign_33
-- X8_isWord (height 7)
def lb_X8_isWord_39 (post : Bool → GH → Prop) (w1 : Nat) (P39 : Int32 → Int32 → GH → Prop) (v2 v3 : Int32) (G : GH) : Prop :=
  ((v2 = 0 → (∃ bq : Bool, v2 = bI bq ∧ post bq G)) ∧ (¬ v2 = 0 → (((nI (sxL w1)) ≤ v3 → (∃ bq : Bool, v2 = bI bq ∧ post bq G)) ∧ (¬ (nI (sxL w1)) ≤ v3 → (vp_in v3 (sxL w1) ∧ (vp_in ((G 24 0 36) + v3) 700 ∧ (((nI (sxC w1 v3.toNatClampNeg)) = (G 24 32 ((G 24 0 36) + v3).toNatClampNeg) → P39 (1 : Int32) (v3 + (1 : Int32)) G) ∧ (¬ (nI (sxC w1 v3.toNatClampNeg)) = (G 24 32 ((G 24 0 36) + v3).toNatClampNeg) → P39 (0 : Int32) (v3 + (1 : Int32)) G))))))))
def lp_X8_isWord_39 (post : Bool → GH → Prop) (w1 : Nat) (v2 v3 : Int32) (G : GH) : Prop := ∀ P39 : Int32 → Int32 → GH → Prop, (∀ (v2 v3 : Int32) (G : GH), lb_X8_isWord_39 post w1 P39 v2 v3 G → P39 v2 v3 G) → P39 v2 v3 G
def j_X8_isWord_36 (post : Bool → GH → Prop) (w1 : Nat) (s0 : Int32) (G : GH) : Prop :=
  lp_X8_isWord_39 post w1 s0 (0 : Int32) G
def j_X8_isWord_35 (post : Bool → GH → Prop) (w1 : Nat) (G : GH) : Prop :=
  j_X8_isWord_36 post w1 (0 : Int32) G
def wp_X8_isWord (post : Bool → GH → Prop) (w1 : Nat) (G : GH) : Prop :=
  (((G 24 0 38) = 0 → (((G 24 0 35) = (1 : Int32) → (((nI (sxL w1)) = ((G 24 0 37) - (G 24 0 36)) → j_X8_isWord_36 post w1 (1 : Int32) G) ∧ (¬ (nI (sxL w1)) = ((G 24 0 37) - (G 24 0 36)) → j_X8_isWord_35 post w1 G))) ∧ (¬ (G 24 0 35) = (1 : Int32) → j_X8_isWord_35 post w1 G))) ∧ (¬ (G 24 0 38) = 0 → j_X8_isWord_35 post w1 G))
set_option maxRecDepth 100000 in
set_option maxHeartbeats 4000000 in
theorem kl_X8_isWord_39 {E : Ev} {X : Cx} {post : Bool → GH → Prop} {w1 : Nat} {v2 v3 : Int32} {G : GH} (F : Fx E X "MarkFieldModel" cX8_isWord 4) (T : RT E X 7 0 0 (some .boolean) (pB post)) (hw1 : w1 < nsx) (h : lp_X8_isWord_39 post w1 v2 v3 G) : AW E X 4 39 [(0, .ref (sdX X 24 0)), (1, .ref (E.2.2.2.1 w1)), (2, .int v2), (3, .int v3)] [] G 0 0 := by
  have hP := F.P
  have K39 : ∀ (v2 v3 : Int32) (G : GH), AW E X 4 39 [(0, .ref (sdX X 24 0)), (1, .ref (E.2.2.2.1 w1)), (2, .int v2), (3, .int v3)] [] G 0 0 → AW E X 4 39 [(0, .ref (sdX X 24 0)), (1, .ref (E.2.2.2.1 w1)), (2, .int v2), (3, .int v3)] [] G 0 0 := fun _ _ _ q => q
  refine h (fun (v2 v3 : Int32) (G : GH) => AW E X 4 39 [(0, .ref (sdX X 24 0)), (1, .ref (E.2.2.2.1 w1)), (2, .int v2), (3, .int v3)] [] G 0 0) (fun (v2 v3 : Int32) (G : GH) h => ?_)
  refine aw_il_n F 2 dX8_isWord_39 rfl rfl ?_
  refine aw_if_eq (tgt := 82) F dX8_isWord_40 (by decide) (fun c_2 => ?_) (fun c_2 => ?_)
  · replace h := h.1 c_2
    refine aw_il_n F 2 dX8_isWord_82 rfl rfl ?_
    obtain ⟨bq, hbq, h⟩ := h
    exact aw_zret F T bq hbq (Nat.le_of_ble_eq_true rfl) (Nat.le_of_ble_eq_true rfl) ⟨_, rfl, h⟩ dX8_isWord_83
  · replace h := h.2 c_2
    refine aw_il_n F 3 dX8_isWord_43 rfl rfl ?_
    refine aw_al_n F 1 dX8_isWord_44 rfl rfl ?_
    refine aw_slen F T.room hw1 w_1670 (Nat.le_of_ble_eq_true rfl) (Nat.le_of_ble_eq_true rfl) ⟨(Nat.le_of_ble_eq_true rfl), (Nat.le_of_ble_eq_true rfl)⟩ dX8_isWord_45 ?_
    refine aw_icmp_ge (tgt := 82) F dX8_isWord_48 (by decide) (fun c_3 => ?_) (fun c_3 => ?_)
    · replace h := h.1 c_3
      refine aw_il_n F 2 dX8_isWord_82 rfl rfl ?_
      obtain ⟨bq, hbq, h⟩ := h
      exact aw_zret F T bq hbq (Nat.le_of_ble_eq_true rfl) (Nat.le_of_ble_eq_true rfl) ⟨_, rfl, h⟩ dX8_isWord_83
    · replace h := h.2 c_3
      refine aw_al_n F 1 dX8_isWord_51 rfl rfl ?_
      refine aw_il_n F 3 dX8_isWord_52 rfl rfl ?_
      refine aw_sch F T.room hw1 w_1671 h.1 (Nat.le_of_ble_eq_true rfl) (Nat.le_of_ble_eq_true rfl) ⟨(Nat.le_of_ble_eq_true rfl), (Nat.le_of_ble_eq_true rfl)⟩ dX8_isWord_53 ?_
      replace h := h.2
      refine aw_al_n F 0 dX8_isWord_56 rfl rfl ?_
      refine gr8_31 F (lo_s rfl) (hP _ rfl) rfl w_1191 (hP _ rfl) dX8_isWord_57 ?_
      refine aw_al_n F 0 dX8_isWord_60 rfl rfl ?_
      refine gf8_36 F (lo_s rfl) (hP _ rfl) rfl w_1196 dX8_isWord_61 ?_
      refine aw_il_n F 3 dX8_isWord_64 rfl rfl ?_
      refine aw_iadd F dX8_isWord_65 ?_
      refine aw_iald F 24 32 (lo_s rfl) (hP _ rfl) rfl h.1 dX8_isWord_66 ?_
      replace h := h.2
      refine aw_icmp_ne (tgt := 74) F dX8_isWord_67 (by decide) (fun c_4 => ?_) (fun c_4 => ?_)
      · replace h := h.2 c_4
        refine aw_ic F dX8_isWord_74 ic_0 ?_
        refine aw_is_n (lv1 := [(2, .int (0 : Int32)), (0, .ref (sdX X 24 0)), (1, .ref (E.2.2.2.1 w1)), (3, .int v3)]) F dX8_isWord_75 rfl (by decide) rfl ?_
        refine aw_inc (lv1 := [(3, .int (v3 + (1 : Int32))), (2, .int (0 : Int32)), (0, .ref (sdX X 24 0)), (1, .ref (E.2.2.2.1 w1))]) F 3 dX8_isWord_76 rfl (in_1 _) (by decide) rfl ?_
        refine aw_go (tgt := 39) F dX8_isWord_79 (by decide) ?_
        refine aw_sub [2, 3, 1, 0] rfl ?_
        exact K39 _ _ _ h
      · replace h := h.1 c_4
        refine aw_ic F dX8_isWord_70 ic_1 ?_
        refine aw_go (tgt := 75) F dX8_isWord_71 (by decide) ?_
        refine aw_is_n (lv1 := [(2, .int (1 : Int32)), (0, .ref (sdX X 24 0)), (1, .ref (E.2.2.2.1 w1)), (3, .int v3)]) F dX8_isWord_75 rfl (by decide) rfl ?_
        refine aw_inc (lv1 := [(3, .int (v3 + (1 : Int32))), (2, .int (1 : Int32)), (0, .ref (sdX X 24 0)), (1, .ref (E.2.2.2.1 w1))]) F 3 dX8_isWord_76 rfl (in_1 _) (by decide) rfl ?_
        refine aw_go (tgt := 39) F dX8_isWord_79 (by decide) ?_
        refine aw_sub [2, 3, 1, 0] rfl ?_
        exact K39 _ _ _ h
set_option maxRecDepth 100000 in
set_option maxHeartbeats 4000000 in
theorem kj_X8_isWord_36 {E : Ev} {X : Cx} {post : Bool → GH → Prop} {w1 : Nat} {s0 : Int32} {G : GH} (F : Fx E X "MarkFieldModel" cX8_isWord 4) (T : RT E X 7 0 0 (some .boolean) (pB post)) (hw1 : w1 < nsx) (h : j_X8_isWord_36 post w1 s0 G) : AW E X 4 36 [(0, .ref (sdX X 24 0)), (1, .ref (E.2.2.2.1 w1))] [.int s0] G 0 0 := by
  have hP := F.P
  refine aw_is_n (lv1 := [(2, .int s0), (0, .ref (sdX X 24 0)), (1, .ref (E.2.2.2.1 w1))]) F dX8_isWord_36 rfl (by decide) rfl ?_
  refine aw_ic F dX8_isWord_37 ic_0 ?_
  refine aw_is_n (lv1 := [(3, .int (0 : Int32)), (2, .int s0), (0, .ref (sdX X 24 0)), (1, .ref (E.2.2.2.1 w1))]) F dX8_isWord_38 rfl (by decide) rfl ?_
  refine aw_sub [2, 3, 1, 0] rfl ?_
  exact kl_X8_isWord_39 F T hw1 h
set_option maxRecDepth 100000 in
set_option maxHeartbeats 4000000 in
theorem kj_X8_isWord_35 {E : Ev} {X : Cx} {post : Bool → GH → Prop} {w1 : Nat} {G : GH} (F : Fx E X "MarkFieldModel" cX8_isWord 4) (T : RT E X 7 0 0 (some .boolean) (pB post)) (hw1 : w1 < nsx) (h : j_X8_isWord_35 post w1 G) : AW E X 4 35 [(0, .ref (sdX X 24 0)), (1, .ref (E.2.2.2.1 w1))] [] G 0 0 := by
  have hP := F.P
  refine aw_ic F dX8_isWord_35 ic_0 ?_
  exact kj_X8_isWord_36 F T hw1 h
set_option maxRecDepth 100000 in
set_option maxHeartbeats 4000000 in
theorem k_X8_isWord {l : Launch} {E : Ev} {P : Nat → Prop} {sd : Nat → Nat → Nat} {G : GH} {post : Bool → GH → Prop} {w1 : Nat} (hPP : ∀ o, stt o = true → P o) (hw1 : w1 < nsx) (h : wp_X8_isWord post w1 G) : Ct l yX8_isWord cX8_isWord 4 (some .boolean) 7 0 0 E P sd G [.ref (sd 24 0), .ref (E.2.2.2.1 w1)] (pB post) := by
  refine ct_of (own := "MarkFieldModel") (by decide) rfl (Nat.le_of_ble_eq_true rfl) hPP (fun X F T el eP es => ?_)
  subst el; subst eP; subst es
  have hP := F.P
  change AW E X 4 0 [(0, .ref (sdX X 24 0)), (1, .ref (E.2.2.2.1 w1))] [] G 0 0
  refine aw_al_n F 0 dX8_isWord_0 rfl rfl ?_
  refine gf8_38 F (lo_s rfl) (hP _ rfl) rfl w_1198 dX8_isWord_1 ?_
  refine aw_if_ne (tgt := 35) F dX8_isWord_4 (by decide) (fun c_1 => ?_) (fun c_1 => ?_)
  · replace h := h.2 c_1
    exact kj_X8_isWord_35 F T hw1 h
  · replace h := h.1 c_1
    refine aw_al_n F 0 dX8_isWord_7 rfl rfl ?_
    refine gf8_35 F (lo_s rfl) (hP _ rfl) rfl w_1195 dX8_isWord_8 ?_
    refine aw_ic F dX8_isWord_11 ic_1 ?_
    refine aw_icmp_ne (tgt := 35) F dX8_isWord_12 (by decide) (fun c_5 => ?_) (fun c_5 => ?_)
    · replace h := h.2 c_5
      exact kj_X8_isWord_35 F T hw1 h
    · replace h := h.1 c_5
      refine aw_al_n F 1 dX8_isWord_15 rfl rfl ?_
      refine aw_slen F T.room hw1 w_1670 (Nat.le_of_ble_eq_true rfl) (Nat.le_of_ble_eq_true rfl) ⟨(Nat.le_of_ble_eq_true rfl), (Nat.le_of_ble_eq_true rfl)⟩ dX8_isWord_16 ?_
      refine aw_al_n F 0 dX8_isWord_19 rfl rfl ?_
      refine gf8_37 F (lo_s rfl) (hP _ rfl) rfl w_1197 dX8_isWord_20 ?_
      refine aw_al_n F 0 dX8_isWord_23 rfl rfl ?_
      refine gf8_36 F (lo_s rfl) (hP _ rfl) rfl w_1196 dX8_isWord_24 ?_
      refine aw_isub F dX8_isWord_27 ?_
      refine aw_icmp_ne (tgt := 35) F dX8_isWord_28 (by decide) (fun c_6 => ?_) (fun c_6 => ?_)
      · replace h := h.2 c_6
        exact kj_X8_isWord_35 F T hw1 h
      · replace h := h.1 c_6
        refine aw_ic F dX8_isWord_31 ic_1 ?_
        refine aw_go (tgt := 36) F dX8_isWord_32 (by decide) ?_
        exact kj_X8_isWord_36 F T hw1 h
-- X8_isNumber (height 0)
def wp_X8_isNumber (post : Bool → GH → Prop) (G : GH) : Prop :=
  (((G 24 0 38) = 0 → (((G 24 0 35) = (2 : Int32) → post true G) ∧ (¬ (G 24 0 35) = (2 : Int32) → post false G))) ∧ (¬ (G 24 0 38) = 0 → post false G))
set_option maxRecDepth 100000 in
set_option maxHeartbeats 4000000 in
theorem k_X8_isNumber {l : Launch} {E : Ev} {P : Nat → Prop} {sd : Nat → Nat → Nat} {G : GH} {post : Bool → GH → Prop} (hPP : ∀ o, stt o = true → P o) (h : wp_X8_isNumber post G) : Ct l yX8_isNumber cX8_isNumber 1 (some .boolean) 0 0 0 E P sd G [.ref (sd 24 0)] (pB post) := by
  refine ct_of (own := "MarkFieldModel") (by decide) rfl (Nat.le_of_ble_eq_true rfl) hPP (fun X F T el eP es => ?_)
  subst el; subst eP; subst es
  have hP := F.P
  change AW E X 1 0 [(0, .ref (sdX X 24 0))] [] G 0 0
  refine aw_al_n F 0 dX8_isNumber_0 rfl rfl ?_
  refine gf8_38 F (lo_s rfl) (hP _ rfl) rfl w_1198 dX8_isNumber_1 ?_
  refine aw_if_ne (tgt := 19) F dX8_isNumber_4 (by decide) (fun c_1 => ?_) (fun c_1 => ?_)
  · replace h := h.2 c_1
    refine aw_ic F dX8_isNumber_19 ic_0 ?_
    exact aw_zret F T false rfl (Nat.le_of_ble_eq_true rfl) (Nat.le_of_ble_eq_true rfl) ⟨_, rfl, h⟩ dX8_isNumber_20
  · replace h := h.1 c_1
    refine aw_al_n F 0 dX8_isNumber_7 rfl rfl ?_
    refine gf8_35 F (lo_s rfl) (hP _ rfl) rfl w_1195 dX8_isNumber_8 ?_
    refine aw_ic F dX8_isNumber_11 ic_2 ?_
    refine aw_icmp_ne (tgt := 19) F dX8_isNumber_12 (by decide) (fun c_2 => ?_) (fun c_2 => ?_)
    · replace h := h.2 c_2
      refine aw_ic F dX8_isNumber_19 ic_0 ?_
      exact aw_zret F T false rfl (Nat.le_of_ble_eq_true rfl) (Nat.le_of_ble_eq_true rfl) ⟨_, rfl, h⟩ dX8_isNumber_20
    · replace h := h.1 c_2
      refine aw_ic F dX8_isNumber_15 ic_1 ?_
      refine aw_go (tgt := 20) F dX8_isNumber_16 (by decide) ?_
      exact aw_zret F T true rfl (Nat.le_of_ble_eq_true rfl) (Nat.le_of_ble_eq_true rfl) ⟨_, rfl, h⟩ dX8_isNumber_20
-- X8_must (height 3)
def j_X8_must_13 (post : GH → Prop) (G : GH) : Prop :=
  wp_X8_pass (fun (G_4 : GH) => post G_4) G
def wp_X8_must (post : GH → Prop) (x1 : Int32) (G : GH) : Prop :=
  wp_X8_isSign (fun (b_2 : Bool) (G_1 : GH) => ((b_2 = false → wp_X8_wrong (fun (G_6 : GH) => j_X8_must_13 post G_6) (1 : Int32) G_1) ∧ (b_2 = true → j_X8_must_13 post G_1))) x1 G
set_option maxRecDepth 100000 in
set_option maxHeartbeats 4000000 in
theorem kj_X8_must_13 {E : Ev} {X : Cx} {post : GH → Prop} {G : GH} (F : Fx E X "MarkFieldModel" cX8_must 2) (T : RT E X 3 0 0 none (pV post)) (h : j_X8_must_13 post G) : AW E X 2 13 [(0, .ref (sdX X 24 0))] [] G 0 0 := by
  have hP := F.P
  refine aw_al_n F 0 dX8_must_13 rfl rfl ?_
  refine aw_cVv (stk := []) F T.room [] (k_X8_pass hP h) mv_X8_pass w_1676 cf8 (lo_s rfl) (hP _ rfl) rfl (by decide) rfl rfl (Nat.le_of_ble_eq_true rfl) ⟨(Nat.le_of_ble_eq_true rfl), (Nat.le_of_ble_eq_true rfl)⟩ ⟨(Nat.le_of_ble_eq_true rfl), (Nat.le_of_ble_eq_true rfl)⟩ dX8_must_14 (fun G_4 h => ?_)
  exact aw_vret F T (Nat.le_of_ble_eq_true rfl) (Nat.le_of_ble_eq_true rfl) ⟨rfl, h⟩ dX8_must_17
set_option maxRecDepth 100000 in
set_option maxHeartbeats 4000000 in
theorem k_X8_must {l : Launch} {E : Ev} {P : Nat → Prop} {sd : Nat → Nat → Nat} {G : GH} {post : GH → Prop} {x1 : Int32} (hPP : ∀ o, stt o = true → P o) (h : wp_X8_must post x1 G) : Ct l yX8_must cX8_must 2 none 3 0 0 E P sd G [.ref (sd 24 0), .int x1] (pV post) := by
  refine ct_of (own := "MarkFieldModel") (by decide) rfl (Nat.le_of_ble_eq_true rfl) hPP (fun X F T el eP es => ?_)
  subst el; subst eP; subst es
  have hP := F.P
  change AW E X 2 0 [(0, .ref (sdX X 24 0)), (1, .int x1)] [] G 0 0
  refine aw_al_n F 0 dX8_must_0 rfl rfl ?_
  refine aw_il_n F 1 dX8_must_1 rfl rfl ?_
  refine aw_cVb (stk := []) F T.room [.int x1] (k_X8_isSign hP h) mv_X8_isSign w_1696 cf8 (lo_s rfl) (hP _ rfl) rfl (by decide) rfl rfl (Nat.le_of_ble_eq_true rfl) ⟨(Nat.le_of_ble_eq_true rfl), (Nat.le_of_ble_eq_true rfl)⟩ ⟨(Nat.le_of_ble_eq_true rfl), (Nat.le_of_ble_eq_true rfl)⟩ dX8_must_2 (fun b_2 G_1 h => ?_)
  refine aw_if_ne (tgt := 13) F dX8_must_5 (by decide) (fun c_3 => ?_) (fun c_3 => ?_)
  · replace h := h.2 (bI_1 c_3)
    refine aw_sub [0] rfl ?_
    exact kj_X8_must_13 F T h
  · replace h := h.1 (bI_2 c_3)
    refine aw_al_n F 0 dX8_must_8 rfl rfl ?_
    refine aw_ic F dX8_must_9 ic_1 ?_
    refine aw_cVv (stk := []) F T.room [.int (1 : Int32)] (k_X8_wrong hP h) mv_X8_wrong w_1672 cf8 (lo_s rfl) (hP _ rfl) rfl (by decide) rfl rfl (Nat.le_of_ble_eq_true rfl) ⟨(Nat.le_of_ble_eq_true rfl), (Nat.le_of_ble_eq_true rfl)⟩ ⟨(Nat.le_of_ble_eq_true rfl), (Nat.le_of_ble_eq_true rfl)⟩ dX8_must_10 (fun G_6 h => ?_)
    refine aw_sub [0] rfl ?_
    exact kj_X8_must_13 F T h
-- X8_numberHere (height 1)
def lb_X8_numberHere_7 (post : Int32 → GH → Prop) (P7 : Int32 → Int32 → GH → Prop) (v1 v2 : Int32) (G : GH) : Prop :=
  wp_X8_isNumber (fun (b_3 : Bool) (G_2 : GH) => ((b_3 = false → post v1 G_2) ∧ (b_3 = true → (((G_2 24 0 37) ≤ v2 → post v1 G_2) ∧ (¬ (G_2 24 0 37) ≤ v2 → (vp_in v2 700 ∧ (∀ y_6 : Int32, y_6 = (imin (1000000 : Int32) ((((10 : Int32) * v1) + (G_2 24 32 v2.toNatClampNeg)) - (48 : Int32))) → P7 y_6 (v2 + (1 : Int32)) G_2))))))) G
def lp_X8_numberHere_7 (post : Int32 → GH → Prop) (v1 v2 : Int32) (G : GH) : Prop := ∀ P7 : Int32 → Int32 → GH → Prop, (∀ (v1 v2 : Int32) (G : GH), lb_X8_numberHere_7 post P7 v1 v2 G → P7 v1 v2 G) → P7 v1 v2 G
def wp_X8_numberHere (post : Int32 → GH → Prop) (G : GH) : Prop :=
  (∀ y_1 : Int32, y_1 = (G 24 0 36) → lp_X8_numberHere_7 post (0 : Int32) y_1 G)
set_option maxRecDepth 100000 in
set_option maxHeartbeats 4000000 in
theorem kl_X8_numberHere_7 {E : Ev} {X : Cx} {post : Int32 → GH → Prop} {v1 v2 : Int32} {G : GH} (F : Fx E X "MarkFieldModel" cX8_numberHere 3) (T : RT E X 1 0 0 (some .int) (pI post)) (h : lp_X8_numberHere_7 post v1 v2 G) : AW E X 3 7 [(0, .ref (sdX X 24 0)), (1, .int v1), (2, .int v2)] [] G 0 0 := by
  have hP := F.P
  have K7 : ∀ (v1 v2 : Int32) (G : GH), AW E X 3 7 [(0, .ref (sdX X 24 0)), (1, .int v1), (2, .int v2)] [] G 0 0 → AW E X 3 7 [(0, .ref (sdX X 24 0)), (1, .int v1), (2, .int v2)] [] G 0 0 := fun _ _ _ q => q
  refine h (fun (v1 v2 : Int32) (G : GH) => AW E X 3 7 [(0, .ref (sdX X 24 0)), (1, .int v1), (2, .int v2)] [] G 0 0) (fun (v1 v2 : Int32) (G : GH) h => ?_)
  refine aw_al_n F 0 dX8_numberHere_7 rfl rfl ?_
  refine aw_cVb (stk := []) F T.room [] (k_X8_isNumber hP h) mv_X8_isNumber w_1684 cf8 (lo_s rfl) (hP _ rfl) rfl (by decide) rfl rfl (Nat.le_of_ble_eq_true rfl) ⟨(Nat.le_of_ble_eq_true rfl), (Nat.le_of_ble_eq_true rfl)⟩ ⟨(Nat.le_of_ble_eq_true rfl), (Nat.le_of_ble_eq_true rfl)⟩ dX8_numberHere_8 (fun b_3 G_2 h => ?_)
  refine aw_if_eq (tgt := 48) F dX8_numberHere_11 (by decide) (fun c_4 => ?_) (fun c_4 => ?_)
  · replace h := h.1 (bI_2 c_4)
    refine aw_il_n F 1 dX8_numberHere_48 rfl rfl ?_
    exact aw_iret F T (Nat.le_of_ble_eq_true rfl) (Nat.le_of_ble_eq_true rfl) ⟨_, rfl, h⟩ dX8_numberHere_49
  · replace h := h.2 (bI_1 c_4)
    refine aw_il_n F 2 dX8_numberHere_14 rfl rfl ?_
    refine aw_al_n F 0 dX8_numberHere_15 rfl rfl ?_
    refine gf8_37 F (lo_s rfl) (hP _ rfl) rfl w_1197 dX8_numberHere_16 ?_
    refine aw_icmp_ge (tgt := 48) F dX8_numberHere_19 (by decide) (fun c_5 => ?_) (fun c_5 => ?_)
    · replace h := h.1 c_5
      refine aw_il_n F 1 dX8_numberHere_48 rfl rfl ?_
      exact aw_iret F T (Nat.le_of_ble_eq_true rfl) (Nat.le_of_ble_eq_true rfl) ⟨_, rfl, h⟩ dX8_numberHere_49
    · replace h := h.2 c_5
      refine aw_ldc F dX8_numberHere_22 w_1354 ?_
      refine aw_bi F dX8_numberHere_24 bi_10 ?_
      refine aw_il_n F 1 dX8_numberHere_26 rfl rfl ?_
      refine aw_imul F dX8_numberHere_27 ?_
      refine aw_al_n F 0 dX8_numberHere_28 rfl rfl ?_
      refine gr8_31 F (lo_s rfl) (hP _ rfl) rfl w_1191 (hP _ rfl) dX8_numberHere_29 ?_
      refine aw_il_n F 2 dX8_numberHere_32 rfl rfl ?_
      refine aw_iald F 24 32 (lo_s rfl) (hP _ rfl) rfl h.1 dX8_numberHere_33 ?_
      replace h := h.2
      refine aw_iadd F dX8_numberHere_34 ?_
      refine aw_bi F dX8_numberHere_35 bi_48 ?_
      refine aw_isub F dX8_numberHere_37 ?_
      refine aw_min F T.room w_1355 w_479 w_16 w_480 (Nat.le_of_ble_eq_true rfl) (Nat.le_of_ble_eq_true rfl) ⟨(Nat.le_of_ble_eq_true rfl), (Nat.le_of_ble_eq_true rfl)⟩ dX8_numberHere_38 ?_
      refine aw_top (fun y_6 ey_6 => ?_)
      replace h := h y_6 ey_6
      refine aw_is_n (lv1 := [(1, .int y_6), (0, .ref (sdX X 24 0)), (2, .int v2)]) F dX8_numberHere_41 rfl (by decide) rfl ?_
      refine aw_inc (lv1 := [(2, .int (v2 + (1 : Int32))), (1, .int y_6), (0, .ref (sdX X 24 0))]) F 2 dX8_numberHere_42 rfl (in_1 _) (by decide) rfl ?_
      refine aw_go (tgt := 7) F dX8_numberHere_45 (by decide) ?_
      refine aw_sub [2, 1, 0] rfl ?_
      exact K7 _ _ _ h
set_option maxRecDepth 100000 in
set_option maxHeartbeats 4000000 in
theorem k_X8_numberHere {l : Launch} {E : Ev} {P : Nat → Prop} {sd : Nat → Nat → Nat} {G : GH} {post : Int32 → GH → Prop} (hPP : ∀ o, stt o = true → P o) (h : wp_X8_numberHere post G) : Ct l yX8_numberHere cX8_numberHere 3 (some .int) 1 0 0 E P sd G [.ref (sd 24 0)] (pI post) := by
  refine ct_of (own := "MarkFieldModel") (by decide) rfl (Nat.le_of_ble_eq_true rfl) hPP (fun X F T el eP es => ?_)
  subst el; subst eP; subst es
  have hP := F.P
  change AW E X 3 0 [(0, .ref (sdX X 24 0))] [] G 0 0
  refine aw_ic F dX8_numberHere_0 ic_0 ?_
  refine aw_is_n (lv1 := [(1, .int (0 : Int32)), (0, .ref (sdX X 24 0))]) F dX8_numberHere_1 rfl (by decide) rfl ?_
  refine aw_al_n F 1 dX8_numberHere_2 rfl rfl ?_
  refine gf8_36 F (lo_s rfl) (hP _ rfl) rfl w_1196 dX8_numberHere_3 ?_
  refine aw_top (fun y_1 ey_1 => ?_)
  replace h := h y_1 ey_1
  refine aw_is_n (lv1 := [(2, .int y_1), (1, .int (0 : Int32)), (0, .ref (sdX X 24 0))]) F dX8_numberHere_6 rfl (by decide) rfl ?_
  refine aw_sub [2, 1, 0] rfl ?_
  exact kl_X8_numberHere_7 F T h
-- X8_number (height 3)
def j_X8_number_38 (post : Int32 → GH → Prop) (v1 v3 : Int32) (G : GH) : Prop :=
  wp_X8_pass (fun (G_7 : GH) => (((G_7 24 0 38) = 0 → post v3 G_7) ∧ (¬ (G_7 24 0 38) = 0 → post v1 G_7))) G
def j_X8_number_12 (post : Int32 → GH → Prop) (v1 v2 : Int32) (G : GH) : Prop :=
  wp_X8_numberHere (fun (r_5 : Int32) (G_4 : GH) => (((G_4 24 0 38) = 0 → wp_X8_within (fun (b_11 : Bool) (G_10 : GH) => ((b_11 = false → wp_X8_wrong (fun (G_13 : GH) => j_X8_number_38 post v1 r_5 G_13) (2 : Int32) G_10) ∧ (b_11 = true → j_X8_number_38 post v1 r_5 G_10))) r_5 v1 v2 G_4) ∧ (¬ (G_4 24 0 38) = 0 → j_X8_number_38 post v1 r_5 G_4))) G
def wp_X8_number (post : Int32 → GH → Prop) (x1 x2 : Int32) (G : GH) : Prop :=
  wp_X8_isNumber (fun (b_2 : Bool) (G_1 : GH) => ((b_2 = false → wp_X8_wrong (fun (G_15 : GH) => j_X8_number_12 post x1 x2 G_15) (1 : Int32) G_1) ∧ (b_2 = true → j_X8_number_12 post x1 x2 G_1))) G
set_option maxRecDepth 100000 in
set_option maxHeartbeats 4000000 in
theorem kj_X8_number_38 {E : Ev} {X : Cx} {post : Int32 → GH → Prop} {v1 v3 : Int32} {G : GH} (F : Fx E X "MarkFieldModel" cX8_number 4) (T : RT E X 3 0 0 (some .int) (pI post)) (h : j_X8_number_38 post v1 v3 G) : AW E X 4 38 [(0, .ref (sdX X 24 0)), (1, .int v1), (3, .int v3)] [] G 0 0 := by
  have hP := F.P
  refine aw_al_n F 0 dX8_number_38 rfl rfl ?_
  refine aw_cVv (stk := []) F T.room [] (k_X8_pass hP h) mv_X8_pass w_1676 cf8 (lo_s rfl) (hP _ rfl) rfl (by decide) rfl rfl (Nat.le_of_ble_eq_true rfl) ⟨(Nat.le_of_ble_eq_true rfl), (Nat.le_of_ble_eq_true rfl)⟩ ⟨(Nat.le_of_ble_eq_true rfl), (Nat.le_of_ble_eq_true rfl)⟩ dX8_number_39 (fun G_7 h => ?_)
  refine aw_al_n F 0 dX8_number_42 rfl rfl ?_
  refine gf8_38 F (lo_s rfl) (hP _ rfl) rfl w_1198 dX8_number_43 ?_
  refine aw_if_ne (tgt := 53) F dX8_number_46 (by decide) (fun c_9 => ?_) (fun c_9 => ?_)
  · replace h := h.2 c_9
    refine aw_il_n F 1 dX8_number_53 rfl rfl ?_
    exact aw_iret F T (Nat.le_of_ble_eq_true rfl) (Nat.le_of_ble_eq_true rfl) ⟨_, rfl, h⟩ dX8_number_54
  · replace h := h.1 c_9
    refine aw_il_n F 2 dX8_number_49 rfl rfl ?_
    refine aw_go (tgt := 54) F dX8_number_50 (by decide) ?_
    exact aw_iret F T (Nat.le_of_ble_eq_true rfl) (Nat.le_of_ble_eq_true rfl) ⟨_, rfl, h⟩ dX8_number_54
set_option maxRecDepth 100000 in
set_option maxHeartbeats 4000000 in
theorem kj_X8_number_12 {E : Ev} {X : Cx} {post : Int32 → GH → Prop} {v1 v2 : Int32} {G : GH} (F : Fx E X "MarkFieldModel" cX8_number 4) (T : RT E X 3 0 0 (some .int) (pI post)) (h : j_X8_number_12 post v1 v2 G) : AW E X 4 12 [(0, .ref (sdX X 24 0)), (1, .int v1), (2, .int v2)] [] G 0 0 := by
  have hP := F.P
  refine aw_al_n F 0 dX8_number_12 rfl rfl ?_
  refine aw_cVi (stk := []) F T.room [] (k_X8_numberHere hP h) mv_X8_numberHere w_1688 cf8 (lo_s rfl) (hP _ rfl) rfl (by decide) rfl rfl (Nat.le_of_ble_eq_true rfl) ⟨(Nat.le_of_ble_eq_true rfl), (Nat.le_of_ble_eq_true rfl)⟩ ⟨(Nat.le_of_ble_eq_true rfl), (Nat.le_of_ble_eq_true rfl)⟩ dX8_number_13 (fun r_5 G_4 h => ?_)
  refine aw_is_n (lv1 := [(3, .int r_5), (0, .ref (sdX X 24 0)), (1, .int v1), (2, .int v2)]) F dX8_number_16 rfl (by decide) rfl ?_
  refine aw_al_n F 1 dX8_number_17 rfl rfl ?_
  refine gf8_38 F (lo_s rfl) (hP _ rfl) rfl w_1198 dX8_number_18 ?_
  refine aw_if_ne (tgt := 38) F dX8_number_21 (by decide) (fun c_6 => ?_) (fun c_6 => ?_)
  · replace h := h.2 c_6
    refine aw_sub [1, 2, 0] rfl ?_
    exact kj_X8_number_38 F T h
  · replace h := h.1 c_6
    refine aw_il_n F 0 dX8_number_24 rfl rfl ?_
    refine aw_il_n F 2 dX8_number_25 rfl rfl ?_
    refine aw_il_n F 3 dX8_number_26 rfl rfl ?_
    refine aw_cSb (stk := []) F T.room [.int r_5, .int v1, .int v2] (k_X8_within hP h) ms_X8_within w_1427 rfl rfl (Nat.le_of_ble_eq_true rfl) ⟨(Nat.le_of_ble_eq_true rfl), (Nat.le_of_ble_eq_true rfl)⟩ ⟨(Nat.le_of_ble_eq_true rfl), (Nat.le_of_ble_eq_true rfl)⟩ dX8_number_27 (fun b_11 G_10 h => ?_)
    refine aw_if_ne (tgt := 38) F dX8_number_30 (by decide) (fun c_12 => ?_) (fun c_12 => ?_)
    · replace h := h.2 (bI_1 c_12)
      refine aw_sub [1, 2, 0] rfl ?_
      exact kj_X8_number_38 F T h
    · replace h := h.1 (bI_2 c_12)
      refine aw_al_n F 1 dX8_number_33 rfl rfl ?_
      refine aw_ic F dX8_number_34 ic_2 ?_
      refine aw_cVv (stk := []) F T.room [.int (2 : Int32)] (k_X8_wrong hP h) mv_X8_wrong w_1672 cf8 (lo_s rfl) (hP _ rfl) rfl (by decide) rfl rfl (Nat.le_of_ble_eq_true rfl) ⟨(Nat.le_of_ble_eq_true rfl), (Nat.le_of_ble_eq_true rfl)⟩ ⟨(Nat.le_of_ble_eq_true rfl), (Nat.le_of_ble_eq_true rfl)⟩ dX8_number_35 (fun G_13 h => ?_)
      refine aw_sub [1, 2, 0] rfl ?_
      exact kj_X8_number_38 F T h
set_option maxRecDepth 100000 in
set_option maxHeartbeats 4000000 in
theorem k_X8_number {l : Launch} {E : Ev} {P : Nat → Prop} {sd : Nat → Nat → Nat} {G : GH} {post : Int32 → GH → Prop} {x1 x2 : Int32} (hPP : ∀ o, stt o = true → P o) (h : wp_X8_number post x1 x2 G) : Ct l yX8_number cX8_number 4 (some .int) 3 0 0 E P sd G [.ref (sd 24 0), .int x1, .int x2] (pI post) := by
  refine ct_of (own := "MarkFieldModel") (by decide) rfl (Nat.le_of_ble_eq_true rfl) hPP (fun X F T el eP es => ?_)
  subst el; subst eP; subst es
  have hP := F.P
  change AW E X 4 0 [(0, .ref (sdX X 24 0)), (1, .int x1), (2, .int x2)] [] G 0 0
  refine aw_al_n F 0 dX8_number_0 rfl rfl ?_
  refine aw_cVb (stk := []) F T.room [] (k_X8_isNumber hP h) mv_X8_isNumber w_1684 cf8 (lo_s rfl) (hP _ rfl) rfl (by decide) rfl rfl (Nat.le_of_ble_eq_true rfl) ⟨(Nat.le_of_ble_eq_true rfl), (Nat.le_of_ble_eq_true rfl)⟩ ⟨(Nat.le_of_ble_eq_true rfl), (Nat.le_of_ble_eq_true rfl)⟩ dX8_number_1 (fun b_2 G_1 h => ?_)
  refine aw_if_ne (tgt := 12) F dX8_number_4 (by decide) (fun c_3 => ?_) (fun c_3 => ?_)
  · replace h := h.2 (bI_1 c_3)
    exact kj_X8_number_12 F T h
  · replace h := h.1 (bI_2 c_3)
    refine aw_al_n F 0 dX8_number_7 rfl rfl ?_
    refine aw_ic F dX8_number_8 ic_1 ?_
    refine aw_cVv (stk := []) F T.room [.int (1 : Int32)] (k_X8_wrong hP h) mv_X8_wrong w_1672 cf8 (lo_s rfl) (hP _ rfl) rfl (by decide) rfl rfl (Nat.le_of_ble_eq_true rfl) ⟨(Nat.le_of_ble_eq_true rfl), (Nat.le_of_ble_eq_true rfl)⟩ ⟨(Nat.le_of_ble_eq_true rfl), (Nat.le_of_ble_eq_true rfl)⟩ dX8_number_9 (fun G_15 h => ?_)
    exact kj_X8_number_12 F T h
-- X8_otherNumber (height 4)
def j_X8_otherNumber_20 (post : Int32 → GH → Prop) (v2 : Int32) (G : GH) : Prop :=
  wp_X8_number (fun (r_5 : Int32) (G_4 : GH) => post r_5 G_4) (0 : Int32) v2 G
def wp_X8_otherNumber (post : Int32 → GH → Prop) (x1 x2 : Int32) (G : GH) : Prop :=
  wp_X8_isNumber (fun (b_2 : Bool) (G_1 : GH) => ((b_2 = false → j_X8_otherNumber_20 post x2 G_1) ∧ (b_2 = true → wp_X8_numberHere (fun (r_7 : Int32) (G_6 : GH) => ((r_7 = x1 → wp_X8_wrong (fun (G_9 : GH) => j_X8_otherNumber_20 post x2 G_9) (2 : Int32) G_6) ∧ (¬ r_7 = x1 → j_X8_otherNumber_20 post x2 G_6))) G_1))) G
set_option maxRecDepth 100000 in
set_option maxHeartbeats 4000000 in
theorem kj_X8_otherNumber_20 {E : Ev} {X : Cx} {post : Int32 → GH → Prop} {v2 : Int32} {G : GH} (F : Fx E X "MarkFieldModel" cX8_otherNumber 3) (T : RT E X 4 0 0 (some .int) (pI post)) (h : j_X8_otherNumber_20 post v2 G) : AW E X 3 20 [(0, .ref (sdX X 24 0)), (2, .int v2)] [] G 0 0 := by
  have hP := F.P
  refine aw_al_n F 0 dX8_otherNumber_20 rfl rfl ?_
  refine aw_ic F dX8_otherNumber_21 ic_0 ?_
  refine aw_il_n F 1 dX8_otherNumber_22 rfl rfl ?_
  refine aw_cVi (stk := []) F T.room [.int (0 : Int32), .int v2] (k_X8_number hP h) mv_X8_number w_1680 cf8 (lo_s rfl) (hP _ rfl) rfl (by decide) rfl rfl (Nat.le_of_ble_eq_true rfl) ⟨(Nat.le_of_ble_eq_true rfl), (Nat.le_of_ble_eq_true rfl)⟩ ⟨(Nat.le_of_ble_eq_true rfl), (Nat.le_of_ble_eq_true rfl)⟩ dX8_otherNumber_23 (fun r_5 G_4 h => ?_)
  exact aw_iret F T (Nat.le_of_ble_eq_true rfl) (Nat.le_of_ble_eq_true rfl) ⟨_, rfl, h⟩ dX8_otherNumber_26
set_option maxRecDepth 100000 in
set_option maxHeartbeats 4000000 in
theorem k_X8_otherNumber {l : Launch} {E : Ev} {P : Nat → Prop} {sd : Nat → Nat → Nat} {G : GH} {post : Int32 → GH → Prop} {x1 x2 : Int32} (hPP : ∀ o, stt o = true → P o) (h : wp_X8_otherNumber post x1 x2 G) : Ct l yX8_otherNumber cX8_otherNumber 3 (some .int) 4 0 0 E P sd G [.ref (sd 24 0), .int x1, .int x2] (pI post) := by
  refine ct_of (own := "MarkFieldModel") (by decide) rfl (Nat.le_of_ble_eq_true rfl) hPP (fun X F T el eP es => ?_)
  subst el; subst eP; subst es
  have hP := F.P
  change AW E X 3 0 [(0, .ref (sdX X 24 0)), (1, .int x1), (2, .int x2)] [] G 0 0
  refine aw_al_n F 0 dX8_otherNumber_0 rfl rfl ?_
  refine aw_cVb (stk := []) F T.room [] (k_X8_isNumber hP h) mv_X8_isNumber w_1684 cf8 (lo_s rfl) (hP _ rfl) rfl (by decide) rfl rfl (Nat.le_of_ble_eq_true rfl) ⟨(Nat.le_of_ble_eq_true rfl), (Nat.le_of_ble_eq_true rfl)⟩ ⟨(Nat.le_of_ble_eq_true rfl), (Nat.le_of_ble_eq_true rfl)⟩ dX8_otherNumber_1 (fun b_2 G_1 h => ?_)
  refine aw_if_eq (tgt := 20) F dX8_otherNumber_4 (by decide) (fun c_3 => ?_) (fun c_3 => ?_)
  · replace h := h.1 (bI_2 c_3)
    refine aw_sub [0, 2] rfl ?_
    exact kj_X8_otherNumber_20 F T h
  · replace h := h.2 (bI_1 c_3)
    refine aw_al_n F 0 dX8_otherNumber_7 rfl rfl ?_
    refine aw_cVi (stk := []) F T.room [] (k_X8_numberHere hP h) mv_X8_numberHere w_1688 cf8 (lo_s rfl) (hP _ rfl) rfl (by decide) rfl rfl (Nat.le_of_ble_eq_true rfl) ⟨(Nat.le_of_ble_eq_true rfl), (Nat.le_of_ble_eq_true rfl)⟩ ⟨(Nat.le_of_ble_eq_true rfl), (Nat.le_of_ble_eq_true rfl)⟩ dX8_otherNumber_8 (fun r_7 G_6 h => ?_)
    refine aw_il_n F 1 dX8_otherNumber_11 rfl rfl ?_
    refine aw_icmp_ne (tgt := 20) F dX8_otherNumber_12 (by decide) (fun c_8 => ?_) (fun c_8 => ?_)
    · replace h := h.2 c_8
      refine aw_sub [0, 2] rfl ?_
      exact kj_X8_otherNumber_20 F T h
    · replace h := h.1 c_8
      refine aw_al_n F 0 dX8_otherNumber_15 rfl rfl ?_
      refine aw_ic F dX8_otherNumber_16 ic_2 ?_
      refine aw_cVv (stk := []) F T.room [.int (2 : Int32)] (k_X8_wrong hP h) mv_X8_wrong w_1672 cf8 (lo_s rfl) (hP _ rfl) rfl (by decide) rfl rfl (Nat.le_of_ble_eq_true rfl) ⟨(Nat.le_of_ble_eq_true rfl), (Nat.le_of_ble_eq_true rfl)⟩ ⟨(Nat.le_of_ble_eq_true rfl), (Nat.le_of_ble_eq_true rfl)⟩ dX8_otherNumber_17 (fun G_9 h => ?_)
      refine aw_sub [0, 2] rfl ?_
      exact kj_X8_otherNumber_20 F T h
-- X8_ends (height 0)
def j_X8_ends_21 (post : Int32 → GH → Prop) (s1 : Int32) (G : GH) : Prop :=
  (∀ G_3 : GH, G_3 = gs G 24 0 (upd (G 24 0) 40 s1) → post (G_3 24 0 38) G_3)
def wp_X8_ends (post : Int32 → GH → Prop) (G : GH) : Prop :=
  (∀ G_1 : GH, G_1 = gs G 24 0 (upd (G 24 0) 32 (0 : Int32)) → (((G_1 24 0 38) = 0 → j_X8_ends_21 post (-1 : Int32) G_1) ∧ (¬ (G_1 24 0 38) = 0 → j_X8_ends_21 post (G_1 24 0 39) G_1)))
set_option maxRecDepth 100000 in
set_option maxHeartbeats 4000000 in
theorem kj_X8_ends_21 {E : Ev} {X : Cx} {post : Int32 → GH → Prop} {s1 : Int32} {G : GH} (F : Fx E X "MarkFieldModel" cX8_ends 1) (T : RT E X 0 0 0 (some .int) (pI post)) (h : j_X8_ends_21 post s1 G) : AW E X 1 21 [(0, .ref (sdX X 24 0))] [.int s1, .ref (sdX X 24 0)] G 0 0 := by
  have hP := F.P
  refine pf8_40 F (lo_s rfl) (hP _ rfl) rfl w_1200 dX8_ends_21 (fun G_3 eG_3 => ?_)
  replace h := h G_3 eG_3
  refine aw_al_n F 0 dX8_ends_24 rfl rfl ?_
  refine gf8_38 F (lo_s rfl) (hP _ rfl) rfl w_1198 dX8_ends_25 ?_
  exact aw_iret F T (Nat.le_of_ble_eq_true rfl) (Nat.le_of_ble_eq_true rfl) ⟨_, rfl, h⟩ dX8_ends_28
set_option maxRecDepth 100000 in
set_option maxHeartbeats 4000000 in
theorem k_X8_ends {l : Launch} {E : Ev} {P : Nat → Prop} {sd : Nat → Nat → Nat} {G : GH} {post : Int32 → GH → Prop} (hPP : ∀ o, stt o = true → P o) (h : wp_X8_ends post G) : Ct l yX8_ends cX8_ends 1 (some .int) 0 0 0 E P sd G [.ref (sd 24 0)] (pI post) := by
  refine ct_of (own := "MarkFieldModel") (by decide) rfl (Nat.le_of_ble_eq_true rfl) hPP (fun X F T el eP es => ?_)
  subst el; subst eP; subst es
  have hP := F.P
  change AW E X 1 0 [(0, .ref (sdX X 24 0))] [] G 0 0
  refine aw_al_n F 0 dX8_ends_0 rfl rfl ?_
  refine aw_ic F dX8_ends_1 ic_0 ?_
  refine pf8_32 F (lo_s rfl) (hP _ rfl) rfl w_1192 dX8_ends_2 (fun G_1 eG_1 => ?_)
  replace h := h G_1 eG_1
  refine aw_al_n F 0 dX8_ends_5 rfl rfl ?_
  refine aw_al_n F 0 dX8_ends_6 rfl rfl ?_
  refine gf8_38 F (lo_s rfl) (hP _ rfl) rfl w_1198 dX8_ends_7 ?_
  refine aw_if_ne (tgt := 17) F dX8_ends_10 (by decide) (fun c_2 => ?_) (fun c_2 => ?_)
  · replace h := h.2 c_2
    refine aw_al_n F 0 dX8_ends_17 rfl rfl ?_
    refine gf8_39 F (lo_s rfl) (hP _ rfl) rfl w_1199 dX8_ends_18 ?_
    exact kj_X8_ends_21 F T h
  · replace h := h.1 c_2
    refine aw_ic F dX8_ends_13 ic_m1 ?_
    refine aw_go (tgt := 21) F dX8_ends_14 (by decide) ?_
    exact kj_X8_ends_21 F T h
-- X8_readNear (height 5)
def wp_X8_readNear (post : GH → Prop) (G : GH) : Prop :=
  wp_X8_pass (fun (G_1 : GH) => wp_X8_number (fun (r_4 : Int32) (G_3 : GH) => wp_X8_otherNumber (fun (r_6 : Int32) (G_5 : GH) => (((G_5 24 0 38) = 0 → wp_X8_joins (fun (G_8 : GH) => post G_8) 24 2 681 r_4 r_6 (1 : Int32) G_5) ∧ (¬ (G_5 24 0 38) = 0 → post G_5))) r_4 (9 : Int32) G_3) (0 : Int32) (9 : Int32) G_1) G
set_option maxRecDepth 100000 in
set_option maxHeartbeats 4000000 in
theorem k_X8_readNear {l : Launch} {E : Ev} {P : Nat → Prop} {sd : Nat → Nat → Nat} {G : GH} {post : GH → Prop} (hPP : ∀ o, stt o = true → P o) (h : wp_X8_readNear post G) : Ct l yX8_readNear cX8_readNear 3 none 5 0 0 E P sd G [.ref (sd 24 0)] (pV post) := by
  refine ct_of (own := "MarkFieldModel") (by decide) rfl (Nat.le_of_ble_eq_true rfl) hPP (fun X F T el eP es => ?_)
  subst el; subst eP; subst es
  have hP := F.P
  change AW E X 3 0 [(0, .ref (sdX X 24 0))] [] G 0 0
  refine aw_al_n F 0 dX8_readNear_0 rfl rfl ?_
  refine aw_cVv (stk := []) F T.room [] (k_X8_pass hP h) mv_X8_pass w_1676 cf8 (lo_s rfl) (hP _ rfl) rfl (by decide) rfl rfl (Nat.le_of_ble_eq_true rfl) ⟨(Nat.le_of_ble_eq_true rfl), (Nat.le_of_ble_eq_true rfl)⟩ ⟨(Nat.le_of_ble_eq_true rfl), (Nat.le_of_ble_eq_true rfl)⟩ dX8_readNear_1 (fun G_1 h => ?_)
  refine aw_al_n F 0 dX8_readNear_4 rfl rfl ?_
  refine aw_ic F dX8_readNear_5 ic_0 ?_
  refine aw_bi F dX8_readNear_6 bi_9 ?_
  refine aw_cVi (stk := []) F T.room [.int (0 : Int32), .int (9 : Int32)] (k_X8_number hP h) mv_X8_number w_1680 cf8 (lo_s rfl) (hP _ rfl) rfl (by decide) rfl rfl (Nat.le_of_ble_eq_true rfl) ⟨(Nat.le_of_ble_eq_true rfl), (Nat.le_of_ble_eq_true rfl)⟩ ⟨(Nat.le_of_ble_eq_true rfl), (Nat.le_of_ble_eq_true rfl)⟩ dX8_readNear_8 (fun r_4 G_3 h => ?_)
  refine aw_is_n (lv1 := [(1, .int r_4), (0, .ref (sdX X 24 0))]) F dX8_readNear_11 rfl (by decide) rfl ?_
  refine aw_al_n F 1 dX8_readNear_12 rfl rfl ?_
  refine aw_il_n F 0 dX8_readNear_13 rfl rfl ?_
  refine aw_bi F dX8_readNear_14 bi_9 ?_
  refine aw_cVi (stk := []) F T.room [.int r_4, .int (9 : Int32)] (k_X8_otherNumber hP h) mv_X8_otherNumber w_1709 cf8 (lo_s rfl) (hP _ rfl) rfl (by decide) rfl rfl (Nat.le_of_ble_eq_true rfl) ⟨(Nat.le_of_ble_eq_true rfl), (Nat.le_of_ble_eq_true rfl)⟩ ⟨(Nat.le_of_ble_eq_true rfl), (Nat.le_of_ble_eq_true rfl)⟩ dX8_readNear_16 (fun r_6 G_5 h => ?_)
  refine aw_is_n (lv1 := [(2, .int r_6), (1, .int r_4), (0, .ref (sdX X 24 0))]) F dX8_readNear_19 rfl (by decide) rfl ?_
  refine aw_al_n F 2 dX8_readNear_20 rfl rfl ?_
  refine gf8_38 F (lo_s rfl) (hP _ rfl) rfl w_1198 dX8_readNear_21 ?_
  refine aw_if_ne (tgt := 37) F dX8_readNear_24 (by decide) (fun c_7 => ?_) (fun c_7 => ?_)
  · replace h := h.2 c_7
    exact aw_vret F T (Nat.le_of_ble_eq_true rfl) (Nat.le_of_ble_eq_true rfl) ⟨rfl, h⟩ dX8_readNear_37
  · replace h := h.1 c_7
    refine aw_al_n F 2 dX8_readNear_27 rfl rfl ?_
    refine gr8_1 F (lo_s rfl) (hP _ rfl) rfl w_1161 (hP _ rfl) dX8_readNear_28 ?_
    refine aw_il_n F 1 dX8_readNear_31 rfl rfl ?_
    refine aw_il_n F 0 dX8_readNear_32 rfl rfl ?_
    refine aw_ic F dX8_readNear_33 ic_1 ?_
    refine aw_cSv (stk := []) F T.room [.ref (sdX X 24 2), .int r_4, .int r_6, .int (1 : Int32)] (k_X8_joins hP rfl rfl h) ms_X8_joins w_1624 rfl rfl (Nat.le_of_ble_eq_true rfl) ⟨(Nat.le_of_ble_eq_true rfl), (Nat.le_of_ble_eq_true rfl)⟩ ⟨(Nat.le_of_ble_eq_true rfl), (Nat.le_of_ble_eq_true rfl)⟩ dX8_readNear_34 (fun G_8 h => ?_)
    exact aw_vret F T (Nat.le_of_ble_eq_true rfl) (Nat.le_of_ble_eq_true rfl) ⟨rfl, h⟩ dX8_readNear_37
-- X8_readName (height 3)
def lb_X8_readName_76 (post : GH → Prop) (P76 : Int32 → Int32 → GH → Prop) (v1 v2 : Int32) (G : GH) : Prop :=
  (((G 24 0 37) ≤ v2 → wp_X8_pass (fun (G_7 : GH) => post G_7) G) ∧ (¬ (G 24 0 37) ≤ v2 → (vp_in v2 700 ∧ (vp_in (((v1 + (1 : Int32)) + v2) - (G 24 0 36)) 681 ∧ (∀ G_9 : GH, G_9 = gs G 24 2 (upd (G 24 2) (((v1 + (1 : Int32)) + v2) - (G 24 0 36)).toNatClampNeg (G 24 32 v2.toNatClampNeg)) → P76 v1 (v2 + (1 : Int32)) G_9)))))
def lp_X8_readName_76 (post : GH → Prop) (v1 v2 : Int32) (G : GH) : Prop := ∀ P76 : Int32 → Int32 → GH → Prop, (∀ (v1 v2 : Int32) (G : GH), lb_X8_readName_76 post P76 v1 v2 G → P76 v1 v2 G) → P76 v1 v2 G
def j_X8_readName_46 (post : GH → Prop) (v1 : Int32) (G : GH) : Prop :=
  (((G 24 0 38) = 0 → (vp_in (v1 + (0 : Int32)) 681 ∧ (∀ G_4 : GH, G_4 = gs G 24 2 (upd (G 24 2) (v1 + (0 : Int32)).toNatClampNeg ((G 24 0 37) - (G 24 0 36))) → (∀ y_5 : Int32, y_5 = (G_4 24 0 36) → lp_X8_readName_76 post v1 y_5 G_4)))) ∧ (¬ (G 24 0 38) = 0 → post G))
def j_X8_readName_20 (post : GH → Prop) (v1 : Int32) (G : GH) : Prop :=
  (((G 24 0 38) = 0 → ((((G 24 0 37) - (G 24 0 36)) ≤ (10 : Int32) → j_X8_readName_46 post v1 G) ∧ (¬ ((G 24 0 37) - (G 24 0 36)) ≤ (10 : Int32) → wp_X8_wrong (fun (G_11 : GH) => j_X8_readName_46 post v1 G_11) (3 : Int32) G))) ∧ (¬ (G 24 0 38) = 0 → j_X8_readName_46 post v1 G))
def wp_X8_readName (post : GH → Prop) (x1 : Int32) (G : GH) : Prop :=
  (((G 24 0 38) = 0 → (((G 24 0 35) = (1 : Int32) → j_X8_readName_20 post x1 G) ∧ (¬ (G 24 0 35) = (1 : Int32) → wp_X8_wrong (fun (G_14 : GH) => j_X8_readName_20 post x1 G_14) (1 : Int32) G))) ∧ (¬ (G 24 0 38) = 0 → j_X8_readName_20 post x1 G))
set_option maxRecDepth 100000 in
set_option maxHeartbeats 4000000 in
theorem kl_X8_readName_76 {E : Ev} {X : Cx} {post : GH → Prop} {v1 v2 : Int32} {G : GH} (F : Fx E X "MarkFieldModel" cX8_readName 3) (T : RT E X 3 0 0 none (pV post)) (h : lp_X8_readName_76 post v1 v2 G) : AW E X 3 76 [(0, .ref (sdX X 24 0)), (1, .int v1), (2, .int v2)] [] G 0 0 := by
  have hP := F.P
  have K76 : ∀ (v1 v2 : Int32) (G : GH), AW E X 3 76 [(0, .ref (sdX X 24 0)), (1, .int v1), (2, .int v2)] [] G 0 0 → AW E X 3 76 [(0, .ref (sdX X 24 0)), (1, .int v1), (2, .int v2)] [] G 0 0 := fun _ _ _ q => q
  refine h (fun (v1 v2 : Int32) (G : GH) => AW E X 3 76 [(0, .ref (sdX X 24 0)), (1, .int v1), (2, .int v2)] [] G 0 0) (fun (v1 v2 : Int32) (G : GH) h => ?_)
  refine aw_il_n F 2 dX8_readName_76 rfl rfl ?_
  refine aw_al_n F 0 dX8_readName_77 rfl rfl ?_
  refine gf8_37 F (lo_s rfl) (hP _ rfl) rfl w_1197 dX8_readName_78 ?_
  refine aw_icmp_ge (tgt := 111) F dX8_readName_81 (by decide) (fun c_6 => ?_) (fun c_6 => ?_)
  · replace h := h.1 c_6
    refine aw_al_n F 0 dX8_readName_111 rfl rfl ?_
    refine aw_cVv (stk := []) F T.room [] (k_X8_pass hP h) mv_X8_pass w_1676 cf8 (lo_s rfl) (hP _ rfl) rfl (by decide) rfl rfl (Nat.le_of_ble_eq_true rfl) ⟨(Nat.le_of_ble_eq_true rfl), (Nat.le_of_ble_eq_true rfl)⟩ ⟨(Nat.le_of_ble_eq_true rfl), (Nat.le_of_ble_eq_true rfl)⟩ dX8_readName_112 (fun G_7 h => ?_)
    exact aw_vret F T (Nat.le_of_ble_eq_true rfl) (Nat.le_of_ble_eq_true rfl) ⟨rfl, h⟩ dX8_readName_115
  · replace h := h.2 c_6
    refine aw_al_n F 0 dX8_readName_84 rfl rfl ?_
    refine gr8_1 F (lo_s rfl) (hP _ rfl) rfl w_1161 (hP _ rfl) dX8_readName_85 ?_
    refine aw_il_n F 1 dX8_readName_88 rfl rfl ?_
    refine aw_ic F dX8_readName_89 ic_1 ?_
    refine aw_iadd F dX8_readName_90 ?_
    refine aw_il_n F 2 dX8_readName_91 rfl rfl ?_
    refine aw_iadd F dX8_readName_92 ?_
    refine aw_al_n F 0 dX8_readName_93 rfl rfl ?_
    refine gf8_36 F (lo_s rfl) (hP _ rfl) rfl w_1196 dX8_readName_94 ?_
    refine aw_isub F dX8_readName_97 ?_
    refine aw_al_n F 0 dX8_readName_98 rfl rfl ?_
    refine gr8_31 F (lo_s rfl) (hP _ rfl) rfl w_1191 (hP _ rfl) dX8_readName_99 ?_
    refine aw_il_n F 2 dX8_readName_102 rfl rfl ?_
    refine aw_iald F 24 32 (lo_s rfl) (hP _ rfl) rfl h.1 dX8_readName_103 ?_
    replace h := h.2
    refine aw_iast F 24 2 (lo_s rfl) (hP _ rfl) rfl h.1 dX8_readName_104 ?_
    refine aw_nG (fun G_9 eG_9 => ?_)
    replace h := h.2 G_9 eG_9
    refine aw_inc (lv1 := [(2, .int (v2 + (1 : Int32))), (0, .ref (sdX X 24 0)), (1, .int v1)]) F 2 dX8_readName_105 rfl (in_1 _) (by decide) rfl ?_
    refine aw_go (tgt := 76) F dX8_readName_108 (by decide) ?_
    refine aw_sub [1, 2, 0] rfl ?_
    exact K76 _ _ _ h
set_option maxRecDepth 100000 in
set_option maxHeartbeats 4000000 in
theorem kj_X8_readName_46 {E : Ev} {X : Cx} {post : GH → Prop} {v1 : Int32} {G : GH} (F : Fx E X "MarkFieldModel" cX8_readName 3) (T : RT E X 3 0 0 none (pV post)) (h : j_X8_readName_46 post v1 G) : AW E X 3 46 [(0, .ref (sdX X 24 0)), (1, .int v1)] [] G 0 0 := by
  have hP := F.P
  refine aw_al_n F 0 dX8_readName_46 rfl rfl ?_
  refine gf8_38 F (lo_s rfl) (hP _ rfl) rfl w_1198 dX8_readName_47 ?_
  refine aw_if_eq (tgt := 54) F dX8_readName_50 (by decide) (fun c_3 => ?_) (fun c_3 => ?_)
  · replace h := h.1 c_3
    refine aw_al_n F 0 dX8_readName_54 rfl rfl ?_
    refine gr8_1 F (lo_s rfl) (hP _ rfl) rfl w_1161 (hP _ rfl) dX8_readName_55 ?_
    refine aw_il_n F 1 dX8_readName_58 rfl rfl ?_
    refine aw_ic F dX8_readName_59 ic_0 ?_
    refine aw_iadd F dX8_readName_60 ?_
    refine aw_al_n F 0 dX8_readName_61 rfl rfl ?_
    refine gf8_37 F (lo_s rfl) (hP _ rfl) rfl w_1197 dX8_readName_62 ?_
    refine aw_al_n F 0 dX8_readName_65 rfl rfl ?_
    refine gf8_36 F (lo_s rfl) (hP _ rfl) rfl w_1196 dX8_readName_66 ?_
    refine aw_isub F dX8_readName_69 ?_
    refine aw_iast F 24 2 (lo_s rfl) (hP _ rfl) rfl h.1 dX8_readName_70 ?_
    refine aw_nG (fun G_4 eG_4 => ?_)
    replace h := h.2 G_4 eG_4
    refine aw_al_n F 0 dX8_readName_71 rfl rfl ?_
    refine gf8_36 F (lo_s rfl) (hP _ rfl) rfl w_1196 dX8_readName_72 ?_
    refine aw_top (fun y_5 ey_5 => ?_)
    replace h := h y_5 ey_5
    refine aw_is_n (lv1 := [(2, .int y_5), (0, .ref (sdX X 24 0)), (1, .int v1)]) F dX8_readName_75 rfl (by decide) rfl ?_
    refine aw_sub [1, 2, 0] rfl ?_
    exact kl_X8_readName_76 F T h
  · replace h := h.2 c_3
    exact aw_vret F T (Nat.le_of_ble_eq_true rfl) (Nat.le_of_ble_eq_true rfl) ⟨rfl, h⟩ dX8_readName_53
set_option maxRecDepth 100000 in
set_option maxHeartbeats 4000000 in
theorem kj_X8_readName_20 {E : Ev} {X : Cx} {post : GH → Prop} {v1 : Int32} {G : GH} (F : Fx E X "MarkFieldModel" cX8_readName 3) (T : RT E X 3 0 0 none (pV post)) (h : j_X8_readName_20 post v1 G) : AW E X 3 20 [(0, .ref (sdX X 24 0)), (1, .int v1)] [] G 0 0 := by
  have hP := F.P
  refine aw_al_n F 0 dX8_readName_20 rfl rfl ?_
  refine gf8_38 F (lo_s rfl) (hP _ rfl) rfl w_1198 dX8_readName_21 ?_
  refine aw_if_ne (tgt := 46) F dX8_readName_24 (by decide) (fun c_2 => ?_) (fun c_2 => ?_)
  · replace h := h.2 c_2
    exact kj_X8_readName_46 F T h
  · replace h := h.1 c_2
    refine aw_al_n F 0 dX8_readName_27 rfl rfl ?_
    refine gf8_37 F (lo_s rfl) (hP _ rfl) rfl w_1197 dX8_readName_28 ?_
    refine aw_al_n F 0 dX8_readName_31 rfl rfl ?_
    refine gf8_36 F (lo_s rfl) (hP _ rfl) rfl w_1196 dX8_readName_32 ?_
    refine aw_isub F dX8_readName_35 ?_
    refine aw_bi F dX8_readName_36 bi_10 ?_
    refine aw_icmp_le (tgt := 46) F dX8_readName_38 (by decide) (fun c_10 => ?_) (fun c_10 => ?_)
    · replace h := h.1 c_10
      exact kj_X8_readName_46 F T h
    · replace h := h.2 c_10
      refine aw_al_n F 0 dX8_readName_41 rfl rfl ?_
      refine aw_ic F dX8_readName_42 ic_3 ?_
      refine aw_cVv (stk := []) F T.room [.int (3 : Int32)] (k_X8_wrong hP h) mv_X8_wrong w_1672 cf8 (lo_s rfl) (hP _ rfl) rfl (by decide) rfl rfl (Nat.le_of_ble_eq_true rfl) ⟨(Nat.le_of_ble_eq_true rfl), (Nat.le_of_ble_eq_true rfl)⟩ ⟨(Nat.le_of_ble_eq_true rfl), (Nat.le_of_ble_eq_true rfl)⟩ dX8_readName_43 (fun G_11 h => ?_)
      exact kj_X8_readName_46 F T h
set_option maxRecDepth 100000 in
set_option maxHeartbeats 4000000 in
theorem k_X8_readName {l : Launch} {E : Ev} {P : Nat → Prop} {sd : Nat → Nat → Nat} {G : GH} {post : GH → Prop} {x1 : Int32} (hPP : ∀ o, stt o = true → P o) (h : wp_X8_readName post x1 G) : Ct l yX8_readName cX8_readName 3 none 3 0 0 E P sd G [.ref (sd 24 0), .int x1] (pV post) := by
  refine ct_of (own := "MarkFieldModel") (by decide) rfl (Nat.le_of_ble_eq_true rfl) hPP (fun X F T el eP es => ?_)
  subst el; subst eP; subst es
  have hP := F.P
  change AW E X 3 0 [(0, .ref (sdX X 24 0)), (1, .int x1)] [] G 0 0
  refine aw_al_n F 0 dX8_readName_0 rfl rfl ?_
  refine gf8_38 F (lo_s rfl) (hP _ rfl) rfl w_1198 dX8_readName_1 ?_
  refine aw_if_ne (tgt := 20) F dX8_readName_4 (by decide) (fun c_1 => ?_) (fun c_1 => ?_)
  · replace h := h.2 c_1
    exact kj_X8_readName_20 F T h
  · replace h := h.1 c_1
    refine aw_al_n F 0 dX8_readName_7 rfl rfl ?_
    refine gf8_35 F (lo_s rfl) (hP _ rfl) rfl w_1195 dX8_readName_8 ?_
    refine aw_ic F dX8_readName_11 ic_1 ?_
    refine aw_icmp_eq (tgt := 20) F dX8_readName_12 (by decide) (fun c_13 => ?_) (fun c_13 => ?_)
    · replace h := h.1 c_13
      exact kj_X8_readName_20 F T h
    · replace h := h.2 c_13
      refine aw_al_n F 0 dX8_readName_15 rfl rfl ?_
      refine aw_ic F dX8_readName_16 ic_1 ?_
      refine aw_cVv (stk := []) F T.room [.int (1 : Int32)] (k_X8_wrong hP h) mv_X8_wrong w_1672 cf8 (lo_s rfl) (hP _ rfl) rfl (by decide) rfl rfl (Nat.le_of_ble_eq_true rfl) ⟨(Nat.le_of_ble_eq_true rfl), (Nat.le_of_ble_eq_true rfl)⟩ ⟨(Nat.le_of_ble_eq_true rfl), (Nat.le_of_ble_eq_true rfl)⟩ dX8_readName_17 (fun G_14 h => ?_)
      exact kj_X8_readName_20 F T h
-- X8_readMark (height 4)
def j_X8_readMark_91 (post : GH → Prop) (P57 : Int32 → Int32 → Int32 → GH → Prop) (v1 v2 v3 : Int32) (G : GH) : Prop :=
  wp_X8_number (fun (r_21 : Int32) (G_20 : GH) => (∀ y_22 : Int32, y_22 = (v3 ||| ((1 : Int32) <<< (r_21 &&& 31))) → P57 v1 v2 y_22 G_20)) (0 : Int32) (9 : Int32) G
def lb_X8_readMark_57 (post : GH → Prop) (P57 : Int32 → Int32 → Int32 → GH → Prop) (v1 v2 v3 : Int32) (G : GH) : Prop :=
  wp_X8_isNumber (fun (b_11 : Bool) (G_10 : GH) => ((b_11 = false → (((G_10 24 0 38) = 0 → (vp_in (v1 + (12 : Int32)) 681 ∧ (∀ G_14 : GH, G_14 = gs G_10 24 2 (upd (G_10 24 2) (v1 + (12 : Int32)).toNatClampNeg v2) → (vp_in (v1 + (11 : Int32)) 681 ∧ (∀ G_15 : GH, G_15 = gs G_14 24 2 (upd (G_14 24 2) (v1 + (11 : Int32)).toNatClampNeg v3) → (∀ G_16 : GH, G_16 = gs G_15 24 2 (upd (G_15 24 2) 1 ((G_15 24 2 1) + (1 : Int32))) → post G_16)))))) ∧ (¬ (G_10 24 0 38) = 0 → post G_10))) ∧ (b_11 = true → wp_X8_numberHere (fun (r_18 : Int32) (G_17 : GH) => (((10 : Int32) ≤ r_18 → j_X8_readMark_91 post P57 v1 v2 v3 G_17) ∧ (¬ (10 : Int32) ≤ r_18 → wp_X8_has (fun (b_24 : Bool) (G_23 : GH) => ((b_24 = false → j_X8_readMark_91 post P57 v1 v2 v3 G_23) ∧ (b_24 = true → wp_X8_wrong (fun (G_26 : GH) => j_X8_readMark_91 post P57 v1 v2 v3 G_26) (2 : Int32) G_23))) v3 r_18 G_17))) G_10))) G
def lp_X8_readMark_57 (post : GH → Prop) (v1 v2 v3 : Int32) (G : GH) : Prop := ∀ P57 : Int32 → Int32 → Int32 → GH → Prop, (∀ (v1 v2 v3 : Int32) (G : GH), lb_X8_readMark_57 post P57 v1 v2 v3 G → P57 v1 v2 v3 G) → P57 v1 v2 v3 G
def j_X8_readMark_16 (post : GH → Prop) (G : GH) : Prop :=
  wp_X8_pass (fun (G_2 : GH) => (((G_2 24 0 38) = 0 → (∀ y_5 : Int32, y_5 = ((18 : Int32) + ((51 : Int32) * (G_2 24 2 1))) → wp_X8_readName (fun (G_6 : GH) => wp_X8_number (fun (r_9 : Int32) (G_8 : GH) => lp_X8_readMark_57 post y_5 r_9 (0 : Int32) G_8) (0 : Int32) (9999 : Int32) G_6) y_5 G_2)) ∧ (¬ (G_2 24 0 38) = 0 → post G_2))) G
def wp_X8_readMark (post : GH → Prop) (G : GH) : Prop :=
  (((G 24 2 1) = (12 : Int32) → wp_X8_wrong (fun (G_28 : GH) => j_X8_readMark_16 post G_28) (4 : Int32) G) ∧ (¬ (G 24 2 1) = (12 : Int32) → j_X8_readMark_16 post G))
set_option maxRecDepth 100000 in
set_option maxHeartbeats 4000000 in
theorem kj_X8_readMark_91 {E : Ev} {X : Cx} {post : GH → Prop} {P57 : Int32 → Int32 → Int32 → GH → Prop} {v1 v2 v3 : Int32} {G : GH} (F : Fx E X "MarkFieldModel" cX8_readMark 5) (T : RT E X 4 0 0 none (pV post)) (K57 : ∀ (v1 v2 v3 : Int32) (G : GH), P57 v1 v2 v3 G → AW E X 5 57 [(0, .ref (sdX X 24 0)), (1, .int v1), (2, .int v2), (3, .int v3)] [] G 0 0) (h : j_X8_readMark_91 post P57 v1 v2 v3 G) : AW E X 5 91 [(0, .ref (sdX X 24 0)), (1, .int v1), (2, .int v2), (3, .int v3)] [] G 0 0 := by
  have hP := F.P
  refine aw_al_n F 0 dX8_readMark_91 rfl rfl ?_
  refine aw_ic F dX8_readMark_92 ic_0 ?_
  refine aw_bi F dX8_readMark_93 bi_9 ?_
  refine aw_cVi (stk := []) F T.room [.int (0 : Int32), .int (9 : Int32)] (k_X8_number hP h) mv_X8_number w_1680 cf8 (lo_s rfl) (hP _ rfl) rfl (by decide) rfl rfl (Nat.le_of_ble_eq_true rfl) ⟨(Nat.le_of_ble_eq_true rfl), (Nat.le_of_ble_eq_true rfl)⟩ ⟨(Nat.le_of_ble_eq_true rfl), (Nat.le_of_ble_eq_true rfl)⟩ dX8_readMark_95 (fun r_21 G_20 h => ?_)
  refine aw_is (lv1 := [(4, .int r_21), (0, .ref (sdX X 24 0)), (1, .int v1), (2, .int v2), (3, .int v3)]) F dX8_readMark_98 (by decide) rfl ?_
  refine aw_il_n F 4 dX8_readMark_100 rfl rfl ?_
  refine aw_ic F dX8_readMark_101 ic_1 ?_
  refine aw_il F 0 dX8_readMark_102 rfl ?_
  refine aw_ishl F dX8_readMark_104 ?_
  refine aw_ior F dX8_readMark_105 ?_
  refine aw_top (fun y_22 ey_22 => ?_)
  replace h := h y_22 ey_22
  refine aw_is_n (lv1 := [(3, .int y_22), (4, .int r_21), (0, .ref (sdX X 24 0)), (1, .int v1), (2, .int v2)]) F dX8_readMark_106 rfl (by decide) rfl ?_
  refine aw_go (tgt := 57) F dX8_readMark_107 (by decide) ?_
  refine aw_sub [2, 3, 4, 0] rfl ?_
  exact K57 _ _ _ _ h
set_option maxRecDepth 100000 in
set_option maxHeartbeats 4000000 in
theorem kl_X8_readMark_57 {E : Ev} {X : Cx} {post : GH → Prop} {v1 v2 v3 : Int32} {G : GH} (F : Fx E X "MarkFieldModel" cX8_readMark 5) (T : RT E X 4 0 0 none (pV post)) (h : lp_X8_readMark_57 post v1 v2 v3 G) : AW E X 5 57 [(0, .ref (sdX X 24 0)), (1, .int v1), (2, .int v2), (3, .int v3)] [] G 0 0 := by
  have hP := F.P
  have K57 : ∀ (v1 v2 v3 : Int32) (G : GH), AW E X 5 57 [(0, .ref (sdX X 24 0)), (1, .int v1), (2, .int v2), (3, .int v3)] [] G 0 0 → AW E X 5 57 [(0, .ref (sdX X 24 0)), (1, .int v1), (2, .int v2), (3, .int v3)] [] G 0 0 := fun _ _ _ _ q => q
  refine h (fun (v1 v2 v3 : Int32) (G : GH) => AW E X 5 57 [(0, .ref (sdX X 24 0)), (1, .int v1), (2, .int v2), (3, .int v3)] [] G 0 0) (fun (v1 v2 v3 : Int32) (G : GH) h => ?_)
  refine aw_al_n F 0 dX8_readMark_57 rfl rfl ?_
  refine aw_cVb (stk := []) F T.room [] (k_X8_isNumber hP h) mv_X8_isNumber w_1684 cf8 (lo_s rfl) (hP _ rfl) rfl (by decide) rfl rfl (Nat.le_of_ble_eq_true rfl) ⟨(Nat.le_of_ble_eq_true rfl), (Nat.le_of_ble_eq_true rfl)⟩ ⟨(Nat.le_of_ble_eq_true rfl), (Nat.le_of_ble_eq_true rfl)⟩ dX8_readMark_58 (fun b_11 G_10 h => ?_)
  refine aw_if_eq (tgt := 110) F dX8_readMark_61 (by decide) (fun c_12 => ?_) (fun c_12 => ?_)
  · replace h := h.1 (bI_2 c_12)
    refine aw_al_n F 0 dX8_readMark_110 rfl rfl ?_
    refine gf8_38 F (lo_s rfl) (hP _ rfl) rfl w_1198 dX8_readMark_111 ?_
    refine aw_if_eq (tgt := 118) F dX8_readMark_114 (by decide) (fun c_13 => ?_) (fun c_13 => ?_)
    · replace h := h.1 c_13
      refine aw_al_n F 0 dX8_readMark_118 rfl rfl ?_
      refine gr8_1 F (lo_s rfl) (hP _ rfl) rfl w_1161 (hP _ rfl) dX8_readMark_119 ?_
      refine aw_il_n F 1 dX8_readMark_122 rfl rfl ?_
      refine aw_bi F dX8_readMark_123 bi_12 ?_
      refine aw_iadd F dX8_readMark_125 ?_
      refine aw_il_n F 2 dX8_readMark_126 rfl rfl ?_
      refine aw_iast F 24 2 (lo_s rfl) (hP _ rfl) rfl h.1 dX8_readMark_127 ?_
      refine aw_nG (fun G_14 eG_14 => ?_)
      replace h := h.2 G_14 eG_14
      refine aw_al_n F 0 dX8_readMark_128 rfl rfl ?_
      refine gr8_1 F (lo_s rfl) (hP _ rfl) rfl w_1161 (hP _ rfl) dX8_readMark_129 ?_
      refine aw_il_n F 1 dX8_readMark_132 rfl rfl ?_
      refine aw_bi F dX8_readMark_133 bi_11 ?_
      refine aw_iadd F dX8_readMark_135 ?_
      refine aw_il_n F 3 dX8_readMark_136 rfl rfl ?_
      refine aw_iast F 24 2 (lo_s rfl) (hP _ rfl) rfl h.1 dX8_readMark_137 ?_
      refine aw_nG (fun G_15 eG_15 => ?_)
      replace h := h.2 G_15 eG_15
      refine aw_al_n F 0 dX8_readMark_138 rfl rfl ?_
      refine gr8_1 F (lo_s rfl) (hP _ rfl) rfl w_1161 (hP _ rfl) dX8_readMark_139 ?_
      refine aw_ic F dX8_readMark_142 ic_1 ?_
      refine aw_dup2 F dX8_readMark_143 rfl rfl ?_
      refine aw_ialdL F 24 2 (lo_s rfl) (hP _ rfl) rfl (vin_l rfl) tn_1 dX8_readMark_144 ?_
      refine aw_ic F dX8_readMark_145 ic_1 ?_
      refine aw_iadd F dX8_readMark_146 ?_
      refine aw_iastL F 24 2 (lo_s rfl) (hP _ rfl) rfl (vin_l rfl) tn_1 dX8_readMark_147 ?_
      refine aw_nG (fun G_16 eG_16 => ?_)
      replace h := h G_16 eG_16
      exact aw_vret F T (Nat.le_of_ble_eq_true rfl) (Nat.le_of_ble_eq_true rfl) ⟨rfl, h⟩ dX8_readMark_148
    · replace h := h.2 c_13
      exact aw_vret F T (Nat.le_of_ble_eq_true rfl) (Nat.le_of_ble_eq_true rfl) ⟨rfl, h⟩ dX8_readMark_117
  · replace h := h.2 (bI_1 c_12)
    refine aw_al_n F 0 dX8_readMark_64 rfl rfl ?_
    refine aw_cVi (stk := []) F T.room [] (k_X8_numberHere hP h) mv_X8_numberHere w_1688 cf8 (lo_s rfl) (hP _ rfl) rfl (by decide) rfl rfl (Nat.le_of_ble_eq_true rfl) ⟨(Nat.le_of_ble_eq_true rfl), (Nat.le_of_ble_eq_true rfl)⟩ ⟨(Nat.le_of_ble_eq_true rfl), (Nat.le_of_ble_eq_true rfl)⟩ dX8_readMark_65 (fun r_18 G_17 h => ?_)
    refine aw_is (lv1 := [(4, .int r_18), (0, .ref (sdX X 24 0)), (1, .int v1), (2, .int v2), (3, .int v3)]) F dX8_readMark_68 (by decide) rfl ?_
    refine aw_il F 0 dX8_readMark_70 rfl ?_
    refine aw_bi F dX8_readMark_72 bi_10 ?_
    refine aw_icmp_ge (tgt := 91) F dX8_readMark_74 (by decide) (fun c_19 => ?_) (fun c_19 => ?_)
    · replace h := h.1 c_19
      refine aw_sub [1, 2, 3, 4] rfl ?_
      exact kj_X8_readMark_91 F T K57 h
    · replace h := h.2 c_19
      refine aw_il_n F 4 dX8_readMark_77 rfl rfl ?_
      refine aw_il F 0 dX8_readMark_78 rfl ?_
      refine aw_cSb (stk := []) F T.room [.int v3, .int r_18] (k_X8_has hP h) ms_X8_has w_1385 rfl rfl (Nat.le_of_ble_eq_true rfl) ⟨(Nat.le_of_ble_eq_true rfl), (Nat.le_of_ble_eq_true rfl)⟩ ⟨(Nat.le_of_ble_eq_true rfl), (Nat.le_of_ble_eq_true rfl)⟩ dX8_readMark_80 (fun b_24 G_23 h => ?_)
      refine aw_if_eq (tgt := 91) F dX8_readMark_83 (by decide) (fun c_25 => ?_) (fun c_25 => ?_)
      · replace h := h.1 (bI_2 c_25)
        refine aw_sub [1, 2, 3, 4] rfl ?_
        exact kj_X8_readMark_91 F T K57 h
      · replace h := h.2 (bI_1 c_25)
        refine aw_al_n F 1 dX8_readMark_86 rfl rfl ?_
        refine aw_ic F dX8_readMark_87 ic_2 ?_
        refine aw_cVv (stk := []) F T.room [.int (2 : Int32)] (k_X8_wrong hP h) mv_X8_wrong w_1672 cf8 (lo_s rfl) (hP _ rfl) rfl (by decide) rfl rfl (Nat.le_of_ble_eq_true rfl) ⟨(Nat.le_of_ble_eq_true rfl), (Nat.le_of_ble_eq_true rfl)⟩ ⟨(Nat.le_of_ble_eq_true rfl), (Nat.le_of_ble_eq_true rfl)⟩ dX8_readMark_88 (fun G_26 h => ?_)
        refine aw_sub [1, 2, 3, 4] rfl ?_
        exact kj_X8_readMark_91 F T K57 h
set_option maxRecDepth 100000 in
set_option maxHeartbeats 4000000 in
theorem kj_X8_readMark_16 {E : Ev} {X : Cx} {post : GH → Prop} {G : GH} (F : Fx E X "MarkFieldModel" cX8_readMark 5) (T : RT E X 4 0 0 none (pV post)) (h : j_X8_readMark_16 post G) : AW E X 5 16 [(0, .ref (sdX X 24 0))] [] G 0 0 := by
  have hP := F.P
  refine aw_al_n F 0 dX8_readMark_16 rfl rfl ?_
  refine aw_cVv (stk := []) F T.room [] (k_X8_pass hP h) mv_X8_pass w_1676 cf8 (lo_s rfl) (hP _ rfl) rfl (by decide) rfl rfl (Nat.le_of_ble_eq_true rfl) ⟨(Nat.le_of_ble_eq_true rfl), (Nat.le_of_ble_eq_true rfl)⟩ ⟨(Nat.le_of_ble_eq_true rfl), (Nat.le_of_ble_eq_true rfl)⟩ dX8_readMark_17 (fun G_2 h => ?_)
  refine aw_al_n F 0 dX8_readMark_20 rfl rfl ?_
  refine gf8_38 F (lo_s rfl) (hP _ rfl) rfl w_1198 dX8_readMark_21 ?_
  refine aw_if_eq (tgt := 28) F dX8_readMark_24 (by decide) (fun c_4 => ?_) (fun c_4 => ?_)
  · replace h := h.1 c_4
    refine aw_bi F dX8_readMark_28 bi_18 ?_
    refine aw_bi F dX8_readMark_30 bi_51 ?_
    refine aw_al_n F 0 dX8_readMark_32 rfl rfl ?_
    refine gr8_1 F (lo_s rfl) (hP _ rfl) rfl w_1161 (hP _ rfl) dX8_readMark_33 ?_
    refine aw_ic F dX8_readMark_36 ic_1 ?_
    refine aw_ialdL F 24 2 (lo_s rfl) (hP _ rfl) rfl (vin_l rfl) tn_1 dX8_readMark_37 ?_
    refine aw_imul F dX8_readMark_38 ?_
    refine aw_iadd F dX8_readMark_39 ?_
    refine aw_top (fun y_5 ey_5 => ?_)
    replace h := h y_5 ey_5
    refine aw_is_n (lv1 := [(1, .int y_5), (0, .ref (sdX X 24 0))]) F dX8_readMark_40 rfl (by decide) rfl ?_
    refine aw_al_n F 1 dX8_readMark_41 rfl rfl ?_
    refine aw_il_n F 0 dX8_readMark_42 rfl rfl ?_
    refine aw_cVv (stk := []) F T.room [.int y_5] (k_X8_readName hP h) mv_X8_readName w_1718 cf8 (lo_s rfl) (hP _ rfl) rfl (by decide) rfl rfl (Nat.le_of_ble_eq_true rfl) ⟨(Nat.le_of_ble_eq_true rfl), (Nat.le_of_ble_eq_true rfl)⟩ ⟨(Nat.le_of_ble_eq_true rfl), (Nat.le_of_ble_eq_true rfl)⟩ dX8_readMark_43 (fun G_6 h => ?_)
    refine aw_al_n F 1 dX8_readMark_46 rfl rfl ?_
    refine aw_ic F dX8_readMark_47 ic_0 ?_
    refine aw_si F dX8_readMark_48 si_9999 ?_
    refine aw_cVi (stk := []) F T.room [.int (0 : Int32), .int (9999 : Int32)] (k_X8_number hP h) mv_X8_number w_1680 cf8 (lo_s rfl) (hP _ rfl) rfl (by decide) rfl rfl (Nat.le_of_ble_eq_true rfl) ⟨(Nat.le_of_ble_eq_true rfl), (Nat.le_of_ble_eq_true rfl)⟩ ⟨(Nat.le_of_ble_eq_true rfl), (Nat.le_of_ble_eq_true rfl)⟩ dX8_readMark_51 (fun r_9 G_8 h => ?_)
    refine aw_is_n (lv1 := [(2, .int r_9), (1, .int y_5), (0, .ref (sdX X 24 0))]) F dX8_readMark_54 rfl (by decide) rfl ?_
    refine aw_ic F dX8_readMark_55 ic_0 ?_
    refine aw_is_n (lv1 := [(3, .int (0 : Int32)), (2, .int r_9), (1, .int y_5), (0, .ref (sdX X 24 0))]) F dX8_readMark_56 rfl (by decide) rfl ?_
    refine aw_sub [3, 2, 1, 0] rfl ?_
    exact kl_X8_readMark_57 F T h
  · replace h := h.2 c_4
    exact aw_vret F T (Nat.le_of_ble_eq_true rfl) (Nat.le_of_ble_eq_true rfl) ⟨rfl, h⟩ dX8_readMark_27
set_option maxRecDepth 100000 in
set_option maxHeartbeats 4000000 in
theorem k_X8_readMark {l : Launch} {E : Ev} {P : Nat → Prop} {sd : Nat → Nat → Nat} {G : GH} {post : GH → Prop} (hPP : ∀ o, stt o = true → P o) (h : wp_X8_readMark post G) : Ct l yX8_readMark cX8_readMark 5 none 4 0 0 E P sd G [.ref (sd 24 0)] (pV post) := by
  refine ct_of (own := "MarkFieldModel") (by decide) rfl (Nat.le_of_ble_eq_true rfl) hPP (fun X F T el eP es => ?_)
  subst el; subst eP; subst es
  have hP := F.P
  change AW E X 5 0 [(0, .ref (sdX X 24 0))] [] G 0 0
  refine aw_al_n F 0 dX8_readMark_0 rfl rfl ?_
  refine gr8_1 F (lo_s rfl) (hP _ rfl) rfl w_1161 (hP _ rfl) dX8_readMark_1 ?_
  refine aw_ic F dX8_readMark_4 ic_1 ?_
  refine aw_ialdL F 24 2 (lo_s rfl) (hP _ rfl) rfl (vin_l rfl) tn_1 dX8_readMark_5 ?_
  refine aw_bi F dX8_readMark_6 bi_12 ?_
  refine aw_icmp_ne (tgt := 16) F dX8_readMark_8 (by decide) (fun c_1 => ?_) (fun c_1 => ?_)
  · replace h := h.2 c_1
    exact kj_X8_readMark_16 F T h
  · replace h := h.1 c_1
    refine aw_al_n F 0 dX8_readMark_11 rfl rfl ?_
    refine aw_ic F dX8_readMark_12 ic_4 ?_
    refine aw_cVv (stk := []) F T.room [.int (4 : Int32)] (k_X8_wrong hP h) mv_X8_wrong w_1672 cf8 (lo_s rfl) (hP _ rfl) rfl (by decide) rfl rfl (Nat.le_of_ble_eq_true rfl) ⟨(Nat.le_of_ble_eq_true rfl), (Nat.le_of_ble_eq_true rfl)⟩ ⟨(Nat.le_of_ble_eq_true rfl), (Nat.le_of_ble_eq_true rfl)⟩ dX8_readMark_13 (fun G_28 h => ?_)
    exact kj_X8_readMark_16 F T h
-- X8_readUse (height 4)
def j_X8_readUse_69 (post : GH → Prop) (v2 : Int32) (G : GH) : Prop :=
  wp_X8_number (fun (r_11 : Int32) (G_10 : GH) => wp_X8_number (fun (r_13 : Int32) (G_12 : GH) => wp_X8_number (fun (r_15 : Int32) (G_14 : GH) => wp_X8_number (fun (r_17 : Int32) (G_16 : GH) => (((G_16 24 0 38) = 0 → (vp_in (v2 + (13 : Int32)) 681 ∧ (∀ y_19 : Int32, y_19 = (G_16 24 2 (v2 + (13 : Int32)).toNatClampNeg) → (vp_in ((v2 + (14 : Int32)) + ((3 : Int32) * y_19)) 681 ∧ (∀ G_20 : GH, G_20 = gs G_16 24 2 (upd (G_16 24 2) ((v2 + (14 : Int32)) + ((3 : Int32) * y_19)).toNatClampNeg r_13) → (vp_in (((v2 + (14 : Int32)) + ((3 : Int32) * y_19)) + (1 : Int32)) 681 ∧ (∀ G_21 : GH, G_21 = gs G_20 24 2 (upd (G_20 24 2) (((v2 + (14 : Int32)) + ((3 : Int32) * y_19)) + (1 : Int32)).toNatClampNeg r_15) → (vp_in (((v2 + (14 : Int32)) + ((3 : Int32) * y_19)) + (2 : Int32)) 681 ∧ (∀ G_22 : GH, G_22 = gs G_21 24 2 (upd (G_21 24 2) (((v2 + (14 : Int32)) + ((3 : Int32) * y_19)) + (2 : Int32)).toNatClampNeg r_17) → (vp_in (v2 + (13 : Int32)) 681 ∧ (∀ G_23 : GH, G_23 = gs G_22 24 2 (upd (G_22 24 2) (v2 + (13 : Int32)).toNatClampNeg (y_19 + (1 : Int32))) → post G_23))))))))))) ∧ (¬ (G_16 24 0 38) = 0 → post G_16))) r_15 (9999 : Int32) G_14) (0 : Int32) (9999 : Int32) G_12) (0 : Int32) (((2 : Int32) * (G_10 24 2 0)) - (1 : Int32)) G_10) (0 : Int32) ((G 24 2 1) - (1 : Int32)) G
def j_X8_readUse_19 (post : GH → Prop) (s0 : Int32) (G : GH) : Prop :=
  (∀ y_6 : Int32, y_6 = ((18 : Int32) + ((51 : Int32) * (imin s0 (11 : Int32)))) → wp_X8_isNumber (fun (b_8 : Bool) (G_7 : GH) => ((b_8 = false → j_X8_readUse_69 post y_6 G_7) ∧ (b_8 = true → (((G_7 24 2 1) ≤ s0 → j_X8_readUse_69 post y_6 G_7) ∧ (¬ (G_7 24 2 1) ≤ s0 → (vp_in (y_6 + (13 : Int32)) 681 ∧ (((G_7 24 2 (y_6 + (13 : Int32)).toNatClampNeg) = (12 : Int32) → wp_X8_wrong (fun (G_26 : GH) => j_X8_readUse_69 post y_6 G_26) (4 : Int32) G_7) ∧ (¬ (G_7 24 2 (y_6 + (13 : Int32)).toNatClampNeg) = (12 : Int32) → j_X8_readUse_69 post y_6 G_7)))))))) G)
def wp_X8_readUse (post : GH → Prop) (G : GH) : Prop :=
  wp_X8_pass (fun (G_1 : GH) => wp_X8_isNumber (fun (b_4 : Bool) (G_3 : GH) => ((b_4 = false → j_X8_readUse_19 post (0 : Int32) G_3) ∧ (b_4 = true → wp_X8_numberHere (fun (r_29 : Int32) (G_28 : GH) => j_X8_readUse_19 post r_29 G_28) G_3))) G_1) G
set_option maxRecDepth 100000 in
set_option maxHeartbeats 4000000 in
theorem kj_X8_readUse_69 {E : Ev} {X : Cx} {post : GH → Prop} {v2 : Int32} {G : GH} (F : Fx E X "MarkFieldModel" cX8_readUse 7) (T : RT E X 4 0 0 none (pV post)) (h : j_X8_readUse_69 post v2 G) : AW E X 7 69 [(0, .ref (sdX X 24 0)), (2, .int v2)] [] G 0 0 := by
  have hP := F.P
  refine aw_al_n F 0 dX8_readUse_69 rfl rfl ?_
  refine aw_ic F dX8_readUse_70 ic_0 ?_
  refine aw_al_n F 0 dX8_readUse_71 rfl rfl ?_
  refine gr8_1 F (lo_s rfl) (hP _ rfl) rfl w_1161 (hP _ rfl) dX8_readUse_72 ?_
  refine aw_ic F dX8_readUse_75 ic_1 ?_
  refine aw_ialdL F 24 2 (lo_s rfl) (hP _ rfl) rfl (vin_l rfl) tn_1 dX8_readUse_76 ?_
  refine aw_ic F dX8_readUse_77 ic_1 ?_
  refine aw_isub F dX8_readUse_78 ?_
  refine aw_cVi (stk := []) F T.room [.int (0 : Int32), .int ((G 24 2 1) - (1 : Int32))] (k_X8_number hP h) mv_X8_number w_1680 cf8 (lo_s rfl) (hP _ rfl) rfl (by decide) rfl rfl (Nat.le_of_ble_eq_true rfl) ⟨(Nat.le_of_ble_eq_true rfl), (Nat.le_of_ble_eq_true rfl)⟩ ⟨(Nat.le_of_ble_eq_true rfl), (Nat.le_of_ble_eq_true rfl)⟩ dX8_readUse_79 (fun r_11 G_10 h => ?_)
  refine aw_is_n (lv1 := [(1, .int r_11), (0, .ref (sdX X 24 0)), (2, .int v2)]) F dX8_readUse_82 rfl (by decide) rfl ?_
  refine aw_al_n F 1 dX8_readUse_83 rfl rfl ?_
  refine aw_ic F dX8_readUse_84 ic_0 ?_
  refine aw_ic F dX8_readUse_85 ic_2 ?_
  refine aw_al_n F 1 dX8_readUse_86 rfl rfl ?_
  refine gr8_1 F (lo_s rfl) (hP _ rfl) rfl w_1161 (hP _ rfl) dX8_readUse_87 ?_
  refine aw_ic F dX8_readUse_90 ic_0 ?_
  refine aw_ialdL F 24 2 (lo_s rfl) (hP _ rfl) rfl (vin_l rfl) tn_0 dX8_readUse_91 ?_
  refine aw_imul F dX8_readUse_92 ?_
  refine aw_ic F dX8_readUse_93 ic_1 ?_
  refine aw_isub F dX8_readUse_94 ?_
  refine aw_cVi (stk := []) F T.room [.int (0 : Int32), .int (((2 : Int32) * (G_10 24 2 0)) - (1 : Int32))] (k_X8_number hP h) mv_X8_number w_1680 cf8 (lo_s rfl) (hP _ rfl) rfl (by decide) rfl rfl (Nat.le_of_ble_eq_true rfl) ⟨(Nat.le_of_ble_eq_true rfl), (Nat.le_of_ble_eq_true rfl)⟩ ⟨(Nat.le_of_ble_eq_true rfl), (Nat.le_of_ble_eq_true rfl)⟩ dX8_readUse_95 (fun r_13 G_12 h => ?_)
  refine aw_is_n (lv1 := [(3, .int r_13), (1, .int r_11), (0, .ref (sdX X 24 0)), (2, .int v2)]) F dX8_readUse_98 rfl (by decide) rfl ?_
  refine aw_al_n F 2 dX8_readUse_99 rfl rfl ?_
  refine aw_ic F dX8_readUse_100 ic_0 ?_
  refine aw_si F dX8_readUse_101 si_9999 ?_
  refine aw_cVi (stk := []) F T.room [.int (0 : Int32), .int (9999 : Int32)] (k_X8_number hP h) mv_X8_number w_1680 cf8 (lo_s rfl) (hP _ rfl) rfl (by decide) rfl rfl (Nat.le_of_ble_eq_true rfl) ⟨(Nat.le_of_ble_eq_true rfl), (Nat.le_of_ble_eq_true rfl)⟩ ⟨(Nat.le_of_ble_eq_true rfl), (Nat.le_of_ble_eq_true rfl)⟩ dX8_readUse_104 (fun r_15 G_14 h => ?_)
  refine aw_is (lv1 := [(4, .int r_15), (3, .int r_13), (1, .int r_11), (0, .ref (sdX X 24 0)), (2, .int v2)]) F dX8_readUse_107 (by decide) rfl ?_
  refine aw_al_n F 3 dX8_readUse_109 rfl rfl ?_
  refine aw_il F 0 dX8_readUse_110 rfl ?_
  refine aw_si F dX8_readUse_112 si_9999 ?_
  refine aw_cVi (stk := []) F T.room [.int r_15, .int (9999 : Int32)] (k_X8_number hP h) mv_X8_number w_1680 cf8 (lo_s rfl) (hP _ rfl) rfl (by decide) rfl rfl (Nat.le_of_ble_eq_true rfl) ⟨(Nat.le_of_ble_eq_true rfl), (Nat.le_of_ble_eq_true rfl)⟩ ⟨(Nat.le_of_ble_eq_true rfl), (Nat.le_of_ble_eq_true rfl)⟩ dX8_readUse_115 (fun r_17 G_16 h => ?_)
  refine aw_is (lv1 := [(5, .int r_17), (4, .int r_15), (3, .int r_13), (1, .int r_11), (0, .ref (sdX X 24 0)), (2, .int v2)]) F dX8_readUse_118 (by decide) rfl ?_
  refine aw_al_n F 4 dX8_readUse_120 rfl rfl ?_
  refine gf8_38 F (lo_s rfl) (hP _ rfl) rfl w_1198 dX8_readUse_121 ?_
  refine aw_if_eq (tgt := 128) F dX8_readUse_124 (by decide) (fun c_18 => ?_) (fun c_18 => ?_)
  · replace h := h.1 c_18
    refine aw_al_n F 4 dX8_readUse_128 rfl rfl ?_
    refine gr8_1 F (lo_s rfl) (hP _ rfl) rfl w_1161 (hP _ rfl) dX8_readUse_129 ?_
    refine aw_il_n F 5 dX8_readUse_132 rfl rfl ?_
    refine aw_bi F dX8_readUse_133 bi_13 ?_
    refine aw_iadd F dX8_readUse_135 ?_
    refine aw_iald F 24 2 (lo_s rfl) (hP _ rfl) rfl h.1 dX8_readUse_136 ?_
    replace h := h.2
    refine aw_top (fun y_19 ey_19 => ?_)
    replace h := h y_19 ey_19
    refine aw_is (lv1 := [(6, .int y_19), (5, .int r_17), (4, .int r_15), (3, .int r_13), (1, .int r_11), (0, .ref (sdX X 24 0)), (2, .int v2)]) F dX8_readUse_137 (by decide) rfl ?_
    refine aw_al_n F 5 dX8_readUse_139 rfl rfl ?_
    refine gr8_1 F (lo_s rfl) (hP _ rfl) rfl w_1161 (hP _ rfl) dX8_readUse_140 ?_
    refine aw_il_n F 6 dX8_readUse_143 rfl rfl ?_
    refine aw_bi F dX8_readUse_144 bi_14 ?_
    refine aw_iadd F dX8_readUse_146 ?_
    refine aw_ic F dX8_readUse_147 ic_3 ?_
    refine aw_il F 0 dX8_readUse_148 rfl ?_
    refine aw_imul F dX8_readUse_150 ?_
    refine aw_iadd F dX8_readUse_151 ?_
    refine aw_il_n F 3 dX8_readUse_152 rfl rfl ?_
    refine aw_iast F 24 2 (lo_s rfl) (hP _ rfl) rfl h.1 dX8_readUse_153 ?_
    refine aw_nG (fun G_20 eG_20 => ?_)
    replace h := h.2 G_20 eG_20
    refine aw_al_n F 5 dX8_readUse_154 rfl rfl ?_
    refine gr8_1 F (lo_s rfl) (hP _ rfl) rfl w_1161 (hP _ rfl) dX8_readUse_155 ?_
    refine aw_il_n F 6 dX8_readUse_158 rfl rfl ?_
    refine aw_bi F dX8_readUse_159 bi_14 ?_
    refine aw_iadd F dX8_readUse_161 ?_
    refine aw_ic F dX8_readUse_162 ic_3 ?_
    refine aw_il F 0 dX8_readUse_163 rfl ?_
    refine aw_imul F dX8_readUse_165 ?_
    refine aw_iadd F dX8_readUse_166 ?_
    refine aw_ic F dX8_readUse_167 ic_1 ?_
    refine aw_iadd F dX8_readUse_168 ?_
    refine aw_il F 2 dX8_readUse_169 rfl ?_
    refine aw_iast F 24 2 (lo_s rfl) (hP _ rfl) rfl h.1 dX8_readUse_171 ?_
    refine aw_nG (fun G_21 eG_21 => ?_)
    replace h := h.2 G_21 eG_21
    refine aw_al_n F 5 dX8_readUse_172 rfl rfl ?_
    refine gr8_1 F (lo_s rfl) (hP _ rfl) rfl w_1161 (hP _ rfl) dX8_readUse_173 ?_
    refine aw_il_n F 6 dX8_readUse_176 rfl rfl ?_
    refine aw_bi F dX8_readUse_177 bi_14 ?_
    refine aw_iadd F dX8_readUse_179 ?_
    refine aw_ic F dX8_readUse_180 ic_3 ?_
    refine aw_il F 0 dX8_readUse_181 rfl ?_
    refine aw_imul F dX8_readUse_183 ?_
    refine aw_iadd F dX8_readUse_184 ?_
    refine aw_ic F dX8_readUse_185 ic_2 ?_
    refine aw_iadd F dX8_readUse_186 ?_
    refine aw_il F 1 dX8_readUse_187 rfl ?_
    refine aw_iast F 24 2 (lo_s rfl) (hP _ rfl) rfl h.1 dX8_readUse_189 ?_
    refine aw_nG (fun G_22 eG_22 => ?_)
    replace h := h.2 G_22 eG_22
    refine aw_al_n F 5 dX8_readUse_190 rfl rfl ?_
    refine gr8_1 F (lo_s rfl) (hP _ rfl) rfl w_1161 (hP _ rfl) dX8_readUse_191 ?_
    refine aw_il_n F 6 dX8_readUse_194 rfl rfl ?_
    refine aw_bi F dX8_readUse_195 bi_13 ?_
    refine aw_iadd F dX8_readUse_197 ?_
    refine aw_il F 0 dX8_readUse_198 rfl ?_
    refine aw_ic F dX8_readUse_200 ic_1 ?_
    refine aw_iadd F dX8_readUse_201 ?_
    refine aw_iast F 24 2 (lo_s rfl) (hP _ rfl) rfl h.1 dX8_readUse_202 ?_
    refine aw_nG (fun G_23 eG_23 => ?_)
    replace h := h.2 G_23 eG_23
    exact aw_vret F T (Nat.le_of_ble_eq_true rfl) (Nat.le_of_ble_eq_true rfl) ⟨rfl, h⟩ dX8_readUse_203
  · replace h := h.2 c_18
    exact aw_vret F T (Nat.le_of_ble_eq_true rfl) (Nat.le_of_ble_eq_true rfl) ⟨rfl, h⟩ dX8_readUse_127
set_option maxRecDepth 100000 in
set_option maxHeartbeats 4000000 in
theorem kj_X8_readUse_19 {E : Ev} {X : Cx} {post : GH → Prop} {s0 : Int32} {G : GH} (F : Fx E X "MarkFieldModel" cX8_readUse 7) (T : RT E X 4 0 0 none (pV post)) (h : j_X8_readUse_19 post s0 G) : AW E X 7 19 [(0, .ref (sdX X 24 0))] [.int s0] G 0 0 := by
  have hP := F.P
  refine aw_is_n (lv1 := [(1, .int s0), (0, .ref (sdX X 24 0))]) F dX8_readUse_19 rfl (by decide) rfl ?_
  refine aw_bi F dX8_readUse_20 bi_18 ?_
  refine aw_bi F dX8_readUse_22 bi_51 ?_
  refine aw_il_n F 0 dX8_readUse_24 rfl rfl ?_
  refine aw_bi F dX8_readUse_25 bi_11 ?_
  refine aw_min F T.room w_1355 w_479 w_16 w_480 (Nat.le_of_ble_eq_true rfl) (Nat.le_of_ble_eq_true rfl) ⟨(Nat.le_of_ble_eq_true rfl), (Nat.le_of_ble_eq_true rfl)⟩ dX8_readUse_27 ?_
  refine aw_imul F dX8_readUse_30 ?_
  refine aw_iadd F dX8_readUse_31 ?_
  refine aw_top (fun y_6 ey_6 => ?_)
  replace h := h y_6 ey_6
  refine aw_is_n (lv1 := [(2, .int y_6), (1, .int s0), (0, .ref (sdX X 24 0))]) F dX8_readUse_32 rfl (by decide) rfl ?_
  refine aw_al_n F 2 dX8_readUse_33 rfl rfl ?_
  refine aw_cVb (stk := []) F T.room [] (k_X8_isNumber hP h) mv_X8_isNumber w_1684 cf8 (lo_s rfl) (hP _ rfl) rfl (by decide) rfl rfl (Nat.le_of_ble_eq_true rfl) ⟨(Nat.le_of_ble_eq_true rfl), (Nat.le_of_ble_eq_true rfl)⟩ ⟨(Nat.le_of_ble_eq_true rfl), (Nat.le_of_ble_eq_true rfl)⟩ dX8_readUse_34 (fun b_8 G_7 h => ?_)
  refine aw_if_eq (tgt := 69) F dX8_readUse_37 (by decide) (fun c_9 => ?_) (fun c_9 => ?_)
  · replace h := h.1 (bI_2 c_9)
    refine aw_sub [2, 0] rfl ?_
    exact kj_X8_readUse_69 F T h
  · replace h := h.2 (bI_1 c_9)
    refine aw_il_n F 1 dX8_readUse_40 rfl rfl ?_
    refine aw_al_n F 2 dX8_readUse_41 rfl rfl ?_
    refine gr8_1 F (lo_s rfl) (hP _ rfl) rfl w_1161 (hP _ rfl) dX8_readUse_42 ?_
    refine aw_ic F dX8_readUse_45 ic_1 ?_
    refine aw_ialdL F 24 2 (lo_s rfl) (hP _ rfl) rfl (vin_l rfl) tn_1 dX8_readUse_46 ?_
    refine aw_icmp_ge (tgt := 69) F dX8_readUse_47 (by decide) (fun c_24 => ?_) (fun c_24 => ?_)
    · replace h := h.1 c_24
      refine aw_sub [2, 0] rfl ?_
      exact kj_X8_readUse_69 F T h
    · replace h := h.2 c_24
      refine aw_al_n F 2 dX8_readUse_50 rfl rfl ?_
      refine gr8_1 F (lo_s rfl) (hP _ rfl) rfl w_1161 (hP _ rfl) dX8_readUse_51 ?_
      refine aw_il_n F 0 dX8_readUse_54 rfl rfl ?_
      refine aw_bi F dX8_readUse_55 bi_13 ?_
      refine aw_iadd F dX8_readUse_57 ?_
      refine aw_iald F 24 2 (lo_s rfl) (hP _ rfl) rfl h.1 dX8_readUse_58 ?_
      replace h := h.2
      refine aw_bi F dX8_readUse_59 bi_12 ?_
      refine aw_icmp_ne (tgt := 69) F dX8_readUse_61 (by decide) (fun c_25 => ?_) (fun c_25 => ?_)
      · replace h := h.2 c_25
        refine aw_sub [2, 0] rfl ?_
        exact kj_X8_readUse_69 F T h
      · replace h := h.1 c_25
        refine aw_al_n F 2 dX8_readUse_64 rfl rfl ?_
        refine aw_ic F dX8_readUse_65 ic_4 ?_
        refine aw_cVv (stk := []) F T.room [.int (4 : Int32)] (k_X8_wrong hP h) mv_X8_wrong w_1672 cf8 (lo_s rfl) (hP _ rfl) rfl (by decide) rfl rfl (Nat.le_of_ble_eq_true rfl) ⟨(Nat.le_of_ble_eq_true rfl), (Nat.le_of_ble_eq_true rfl)⟩ ⟨(Nat.le_of_ble_eq_true rfl), (Nat.le_of_ble_eq_true rfl)⟩ dX8_readUse_66 (fun G_26 h => ?_)
        refine aw_sub [2, 0] rfl ?_
        exact kj_X8_readUse_69 F T h
set_option maxRecDepth 100000 in
set_option maxHeartbeats 4000000 in
theorem k_X8_readUse {l : Launch} {E : Ev} {P : Nat → Prop} {sd : Nat → Nat → Nat} {G : GH} {post : GH → Prop} (hPP : ∀ o, stt o = true → P o) (h : wp_X8_readUse post G) : Ct l yX8_readUse cX8_readUse 7 none 4 0 0 E P sd G [.ref (sd 24 0)] (pV post) := by
  refine ct_of (own := "MarkFieldModel") (by decide) rfl (Nat.le_of_ble_eq_true rfl) hPP (fun X F T el eP es => ?_)
  subst el; subst eP; subst es
  have hP := F.P
  change AW E X 7 0 [(0, .ref (sdX X 24 0))] [] G 0 0
  refine aw_al_n F 0 dX8_readUse_0 rfl rfl ?_
  refine aw_cVv (stk := []) F T.room [] (k_X8_pass hP h) mv_X8_pass w_1676 cf8 (lo_s rfl) (hP _ rfl) rfl (by decide) rfl rfl (Nat.le_of_ble_eq_true rfl) ⟨(Nat.le_of_ble_eq_true rfl), (Nat.le_of_ble_eq_true rfl)⟩ ⟨(Nat.le_of_ble_eq_true rfl), (Nat.le_of_ble_eq_true rfl)⟩ dX8_readUse_1 (fun G_1 h => ?_)
  refine aw_al_n F 0 dX8_readUse_4 rfl rfl ?_
  refine aw_cVb (stk := []) F T.room [] (k_X8_isNumber hP h) mv_X8_isNumber w_1684 cf8 (lo_s rfl) (hP _ rfl) rfl (by decide) rfl rfl (Nat.le_of_ble_eq_true rfl) ⟨(Nat.le_of_ble_eq_true rfl), (Nat.le_of_ble_eq_true rfl)⟩ ⟨(Nat.le_of_ble_eq_true rfl), (Nat.le_of_ble_eq_true rfl)⟩ dX8_readUse_5 (fun b_4 G_3 h => ?_)
  refine aw_if_eq (tgt := 18) F dX8_readUse_8 (by decide) (fun c_5 => ?_) (fun c_5 => ?_)
  · replace h := h.1 (bI_2 c_5)
    refine aw_ic F dX8_readUse_18 ic_0 ?_
    exact kj_X8_readUse_19 F T h
  · replace h := h.2 (bI_1 c_5)
    refine aw_al_n F 0 dX8_readUse_11 rfl rfl ?_
    refine aw_cVi (stk := []) F T.room [] (k_X8_numberHere hP h) mv_X8_numberHere w_1688 cf8 (lo_s rfl) (hP _ rfl) rfl (by decide) rfl rfl (Nat.le_of_ble_eq_true rfl) ⟨(Nat.le_of_ble_eq_true rfl), (Nat.le_of_ble_eq_true rfl)⟩ ⟨(Nat.le_of_ble_eq_true rfl), (Nat.le_of_ble_eq_true rfl)⟩ dX8_readUse_12 (fun r_29 G_28 h => ?_)
    refine aw_go (tgt := 19) F dX8_readUse_15 (by decide) ?_
    exact kj_X8_readUse_19 F T h
-- X8_readConsent (height 5)
def wp_X8_readConsent (post : GH → Prop) (G : GH) : Prop :=
  wp_X8_pass (fun (G_1 : GH) => wp_X8_number (fun (r_4 : Int32) (G_3 : GH) => wp_X8_otherNumber (fun (r_6 : Int32) (G_5 : GH) => (((G_5 24 0 38) = 0 → wp_X8_consents (fun (G_8 : GH) => post G_8) 24 2 681 r_4 r_6 (1 : Int32) G_5) ∧ (¬ (G_5 24 0 38) = 0 → post G_5))) r_4 ((G_3 24 2 1) - (1 : Int32)) G_3) (0 : Int32) ((G_1 24 2 1) - (1 : Int32)) G_1) G
set_option maxRecDepth 100000 in
set_option maxHeartbeats 4000000 in
theorem k_X8_readConsent {l : Launch} {E : Ev} {P : Nat → Prop} {sd : Nat → Nat → Nat} {G : GH} {post : GH → Prop} (hPP : ∀ o, stt o = true → P o) (h : wp_X8_readConsent post G) : Ct l yX8_readConsent cX8_readConsent 3 none 5 0 0 E P sd G [.ref (sd 24 0)] (pV post) := by
  refine ct_of (own := "MarkFieldModel") (by decide) rfl (Nat.le_of_ble_eq_true rfl) hPP (fun X F T el eP es => ?_)
  subst el; subst eP; subst es
  have hP := F.P
  change AW E X 3 0 [(0, .ref (sdX X 24 0))] [] G 0 0
  refine aw_al_n F 0 dX8_readConsent_0 rfl rfl ?_
  refine aw_cVv (stk := []) F T.room [] (k_X8_pass hP h) mv_X8_pass w_1676 cf8 (lo_s rfl) (hP _ rfl) rfl (by decide) rfl rfl (Nat.le_of_ble_eq_true rfl) ⟨(Nat.le_of_ble_eq_true rfl), (Nat.le_of_ble_eq_true rfl)⟩ ⟨(Nat.le_of_ble_eq_true rfl), (Nat.le_of_ble_eq_true rfl)⟩ dX8_readConsent_1 (fun G_1 h => ?_)
  refine aw_al_n F 0 dX8_readConsent_4 rfl rfl ?_
  refine aw_ic F dX8_readConsent_5 ic_0 ?_
  refine aw_al_n F 0 dX8_readConsent_6 rfl rfl ?_
  refine gr8_1 F (lo_s rfl) (hP _ rfl) rfl w_1161 (hP _ rfl) dX8_readConsent_7 ?_
  refine aw_ic F dX8_readConsent_10 ic_1 ?_
  refine aw_ialdL F 24 2 (lo_s rfl) (hP _ rfl) rfl (vin_l rfl) tn_1 dX8_readConsent_11 ?_
  refine aw_ic F dX8_readConsent_12 ic_1 ?_
  refine aw_isub F dX8_readConsent_13 ?_
  refine aw_cVi (stk := []) F T.room [.int (0 : Int32), .int ((G_1 24 2 1) - (1 : Int32))] (k_X8_number hP h) mv_X8_number w_1680 cf8 (lo_s rfl) (hP _ rfl) rfl (by decide) rfl rfl (Nat.le_of_ble_eq_true rfl) ⟨(Nat.le_of_ble_eq_true rfl), (Nat.le_of_ble_eq_true rfl)⟩ ⟨(Nat.le_of_ble_eq_true rfl), (Nat.le_of_ble_eq_true rfl)⟩ dX8_readConsent_14 (fun r_4 G_3 h => ?_)
  refine aw_is_n (lv1 := [(1, .int r_4), (0, .ref (sdX X 24 0))]) F dX8_readConsent_17 rfl (by decide) rfl ?_
  refine aw_al_n F 1 dX8_readConsent_18 rfl rfl ?_
  refine aw_il_n F 0 dX8_readConsent_19 rfl rfl ?_
  refine aw_al_n F 1 dX8_readConsent_20 rfl rfl ?_
  refine gr8_1 F (lo_s rfl) (hP _ rfl) rfl w_1161 (hP _ rfl) dX8_readConsent_21 ?_
  refine aw_ic F dX8_readConsent_24 ic_1 ?_
  refine aw_ialdL F 24 2 (lo_s rfl) (hP _ rfl) rfl (vin_l rfl) tn_1 dX8_readConsent_25 ?_
  refine aw_ic F dX8_readConsent_26 ic_1 ?_
  refine aw_isub F dX8_readConsent_27 ?_
  refine aw_cVi (stk := []) F T.room [.int r_4, .int ((G_3 24 2 1) - (1 : Int32))] (k_X8_otherNumber hP h) mv_X8_otherNumber w_1709 cf8 (lo_s rfl) (hP _ rfl) rfl (by decide) rfl rfl (Nat.le_of_ble_eq_true rfl) ⟨(Nat.le_of_ble_eq_true rfl), (Nat.le_of_ble_eq_true rfl)⟩ ⟨(Nat.le_of_ble_eq_true rfl), (Nat.le_of_ble_eq_true rfl)⟩ dX8_readConsent_28 (fun r_6 G_5 h => ?_)
  refine aw_is_n (lv1 := [(2, .int r_6), (1, .int r_4), (0, .ref (sdX X 24 0))]) F dX8_readConsent_31 rfl (by decide) rfl ?_
  refine aw_al_n F 2 dX8_readConsent_32 rfl rfl ?_
  refine gf8_38 F (lo_s rfl) (hP _ rfl) rfl w_1198 dX8_readConsent_33 ?_
  refine aw_if_ne (tgt := 50) F dX8_readConsent_36 (by decide) (fun c_7 => ?_) (fun c_7 => ?_)
  · replace h := h.2 c_7
    exact aw_vret F T (Nat.le_of_ble_eq_true rfl) (Nat.le_of_ble_eq_true rfl) ⟨rfl, h⟩ dX8_readConsent_50
  · replace h := h.1 c_7
    refine aw_al_n F 2 dX8_readConsent_39 rfl rfl ?_
    refine aw_al_n F 2 dX8_readConsent_40 rfl rfl ?_
    refine gr8_1 F (lo_s rfl) (hP _ rfl) rfl w_1161 (hP _ rfl) dX8_readConsent_41 ?_
    refine aw_il_n F 1 dX8_readConsent_44 rfl rfl ?_
    refine aw_il_n F 0 dX8_readConsent_45 rfl rfl ?_
    refine aw_ic F dX8_readConsent_46 ic_1 ?_
    refine aw_cVv (stk := []) F T.room [.ref (sdX X 24 2), .int r_4, .int r_6, .int (1 : Int32)] (k_X8_consents hP rfl rfl h) mv_X8_consents w_1605 cf8 (lo_s rfl) (hP _ rfl) rfl (by decide) rfl rfl (Nat.le_of_ble_eq_true rfl) ⟨(Nat.le_of_ble_eq_true rfl), (Nat.le_of_ble_eq_true rfl)⟩ ⟨(Nat.le_of_ble_eq_true rfl), (Nat.le_of_ble_eq_true rfl)⟩ dX8_readConsent_47 (fun G_8 h => ?_)
    exact aw_vret F T (Nat.le_of_ble_eq_true rfl) (Nat.le_of_ble_eq_true rfl) ⟨rfl, h⟩ dX8_readConsent_50
-- X8_ruleHere (height 8)
def wp_X8_ruleHere (post : Int32 → GH → Prop) (G : GH) : Prop :=
  wp_X8_isWord (fun (b_2 : Bool) (G_1 : GH) => ((b_2 = false → wp_X8_isWord (fun (b_5 : Bool) (G_4 : GH) => ((b_5 = false → wp_X8_isWord (fun (b_8 : Bool) (G_7 : GH) => ((b_8 = false → wp_X8_isWord (fun (b_11 : Bool) (G_10 : GH) => ((b_11 = false → wp_X8_isWord (fun (b_14 : Bool) (G_13 : GH) => ((b_14 = false → wp_X8_isWord (fun (b_17 : Bool) (G_16 : GH) => ((b_17 = false → post (-1 : Int32) G_16) ∧ (b_17 = true → post (5 : Int32) G_16))) 45 G_13) ∧ (b_14 = true → post (4 : Int32) G_13))) 44 G_10) ∧ (b_11 = true → post (3 : Int32) G_10))) 43 G_7) ∧ (b_8 = true → post (2 : Int32) G_7))) 42 G_4) ∧ (b_5 = true → post (1 : Int32) G_4))) 41 G_1) ∧ (b_2 = true → post (0 : Int32) G_1))) 40 G
set_option maxRecDepth 100000 in
set_option maxHeartbeats 4000000 in
theorem k_X8_ruleHere {l : Launch} {E : Ev} {P : Nat → Prop} {sd : Nat → Nat → Nat} {G : GH} {post : Int32 → GH → Prop} (hPP : ∀ o, stt o = true → P o) (h : wp_X8_ruleHere post G) : Ct l yX8_ruleHere cX8_ruleHere 1 (some .int) 8 0 0 E P sd G [.ref (sd 24 0)] (pI post) := by
  refine ct_of (own := "MarkFieldModel") (by decide) rfl (Nat.le_of_ble_eq_true rfl) hPP (fun X F T el eP es => ?_)
  subst el; subst eP; subst es
  have hP := F.P
  change AW E X 1 0 [(0, .ref (sdX X 24 0))] [] G 0 0
  refine aw_al_n F 0 dX8_ruleHere_0 rfl rfl ?_
  refine aw_ldcSw F 40 (by decide) rfl dX8_ruleHere_1 ?_
  refine aw_cVb (stk := []) F T.room [.ref (E.2.2.2.1 40)] (k_X8_isWord hP (by decide) h) mv_X8_isWord w_1666 cf8 (lo_s rfl) (hP _ rfl) rfl (by decide) rfl rfl (Nat.le_of_ble_eq_true rfl) ⟨(Nat.le_of_ble_eq_true rfl), (Nat.le_of_ble_eq_true rfl)⟩ ⟨(Nat.le_of_ble_eq_true rfl), (Nat.le_of_ble_eq_true rfl)⟩ dX8_ruleHere_4 (fun b_2 G_1 h => ?_)
  refine aw_if_eq (tgt := 12) F dX8_ruleHere_7 (by decide) (fun c_3 => ?_) (fun c_3 => ?_)
  · replace h := h.1 (bI_2 c_3)
    refine aw_al_n F 0 dX8_ruleHere_12 rfl rfl ?_
    refine aw_ldcSw F 41 (by decide) rfl dX8_ruleHere_13 ?_
    refine aw_cVb (stk := []) F T.room [.ref (E.2.2.2.1 41)] (k_X8_isWord hP (by decide) h) mv_X8_isWord w_1666 cf8 (lo_s rfl) (hP _ rfl) rfl (by decide) rfl rfl (Nat.le_of_ble_eq_true rfl) ⟨(Nat.le_of_ble_eq_true rfl), (Nat.le_of_ble_eq_true rfl)⟩ ⟨(Nat.le_of_ble_eq_true rfl), (Nat.le_of_ble_eq_true rfl)⟩ dX8_ruleHere_16 (fun b_5 G_4 h => ?_)
    refine aw_if_eq (tgt := 24) F dX8_ruleHere_19 (by decide) (fun c_6 => ?_) (fun c_6 => ?_)
    · replace h := h.1 (bI_2 c_6)
      refine aw_al_n F 0 dX8_ruleHere_24 rfl rfl ?_
      refine aw_ldcSw F 42 (by decide) rfl dX8_ruleHere_25 ?_
      refine aw_cVb (stk := []) F T.room [.ref (E.2.2.2.1 42)] (k_X8_isWord hP (by decide) h) mv_X8_isWord w_1666 cf8 (lo_s rfl) (hP _ rfl) rfl (by decide) rfl rfl (Nat.le_of_ble_eq_true rfl) ⟨(Nat.le_of_ble_eq_true rfl), (Nat.le_of_ble_eq_true rfl)⟩ ⟨(Nat.le_of_ble_eq_true rfl), (Nat.le_of_ble_eq_true rfl)⟩ dX8_ruleHere_28 (fun b_8 G_7 h => ?_)
      refine aw_if_eq (tgt := 36) F dX8_ruleHere_31 (by decide) (fun c_9 => ?_) (fun c_9 => ?_)
      · replace h := h.1 (bI_2 c_9)
        refine aw_al_n F 0 dX8_ruleHere_36 rfl rfl ?_
        refine aw_ldcSw F 43 (by decide) rfl dX8_ruleHere_37 ?_
        refine aw_cVb (stk := []) F T.room [.ref (E.2.2.2.1 43)] (k_X8_isWord hP (by decide) h) mv_X8_isWord w_1666 cf8 (lo_s rfl) (hP _ rfl) rfl (by decide) rfl rfl (Nat.le_of_ble_eq_true rfl) ⟨(Nat.le_of_ble_eq_true rfl), (Nat.le_of_ble_eq_true rfl)⟩ ⟨(Nat.le_of_ble_eq_true rfl), (Nat.le_of_ble_eq_true rfl)⟩ dX8_ruleHere_40 (fun b_11 G_10 h => ?_)
        refine aw_if_eq (tgt := 48) F dX8_ruleHere_43 (by decide) (fun c_12 => ?_) (fun c_12 => ?_)
        · replace h := h.1 (bI_2 c_12)
          refine aw_al_n F 0 dX8_ruleHere_48 rfl rfl ?_
          refine aw_ldcSw F 44 (by decide) rfl dX8_ruleHere_49 ?_
          refine aw_cVb (stk := []) F T.room [.ref (E.2.2.2.1 44)] (k_X8_isWord hP (by decide) h) mv_X8_isWord w_1666 cf8 (lo_s rfl) (hP _ rfl) rfl (by decide) rfl rfl (Nat.le_of_ble_eq_true rfl) ⟨(Nat.le_of_ble_eq_true rfl), (Nat.le_of_ble_eq_true rfl)⟩ ⟨(Nat.le_of_ble_eq_true rfl), (Nat.le_of_ble_eq_true rfl)⟩ dX8_ruleHere_52 (fun b_14 G_13 h => ?_)
          refine aw_if_eq (tgt := 60) F dX8_ruleHere_55 (by decide) (fun c_15 => ?_) (fun c_15 => ?_)
          · replace h := h.1 (bI_2 c_15)
            refine aw_al_n F 0 dX8_ruleHere_60 rfl rfl ?_
            refine aw_ldcSw F 45 (by decide) rfl dX8_ruleHere_61 ?_
            refine aw_cVb (stk := []) F T.room [.ref (E.2.2.2.1 45)] (k_X8_isWord hP (by decide) h) mv_X8_isWord w_1666 cf8 (lo_s rfl) (hP _ rfl) rfl (by decide) rfl rfl (Nat.le_of_ble_eq_true rfl) ⟨(Nat.le_of_ble_eq_true rfl), (Nat.le_of_ble_eq_true rfl)⟩ ⟨(Nat.le_of_ble_eq_true rfl), (Nat.le_of_ble_eq_true rfl)⟩ dX8_ruleHere_64 (fun b_17 G_16 h => ?_)
            refine aw_if_eq (tgt := 74) F dX8_ruleHere_67 (by decide) (fun c_18 => ?_) (fun c_18 => ?_)
            · replace h := h.1 (bI_2 c_18)
              refine aw_ic F dX8_ruleHere_74 ic_m1 ?_
              exact aw_iret F T (Nat.le_of_ble_eq_true rfl) (Nat.le_of_ble_eq_true rfl) ⟨_, rfl, h⟩ dX8_ruleHere_75
            · replace h := h.2 (bI_1 c_18)
              refine aw_ic F dX8_ruleHere_70 ic_5 ?_
              refine aw_go (tgt := 75) F dX8_ruleHere_71 (by decide) ?_
              exact aw_iret F T (Nat.le_of_ble_eq_true rfl) (Nat.le_of_ble_eq_true rfl) ⟨_, rfl, h⟩ dX8_ruleHere_75
          · replace h := h.2 (bI_1 c_15)
            refine aw_ic F dX8_ruleHere_58 ic_4 ?_
            exact aw_iret F T (Nat.le_of_ble_eq_true rfl) (Nat.le_of_ble_eq_true rfl) ⟨_, rfl, h⟩ dX8_ruleHere_59
        · replace h := h.2 (bI_1 c_12)
          refine aw_ic F dX8_ruleHere_46 ic_3 ?_
          exact aw_iret F T (Nat.le_of_ble_eq_true rfl) (Nat.le_of_ble_eq_true rfl) ⟨_, rfl, h⟩ dX8_ruleHere_47
      · replace h := h.2 (bI_1 c_9)
        refine aw_ic F dX8_ruleHere_34 ic_2 ?_
        exact aw_iret F T (Nat.le_of_ble_eq_true rfl) (Nat.le_of_ble_eq_true rfl) ⟨_, rfl, h⟩ dX8_ruleHere_35
    · replace h := h.2 (bI_1 c_6)
      refine aw_ic F dX8_ruleHere_22 ic_1 ?_
      exact aw_iret F T (Nat.le_of_ble_eq_true rfl) (Nat.le_of_ble_eq_true rfl) ⟨_, rfl, h⟩ dX8_ruleHere_23
  · replace h := h.2 (bI_1 c_3)
    refine aw_ic F dX8_ruleHere_10 ic_0 ?_
    exact aw_iret F T (Nat.le_of_ble_eq_true rfl) (Nat.le_of_ble_eq_true rfl) ⟨_, rfl, h⟩ dX8_ruleHere_11
-- X8_readRule (height 9)
def j_X8_readRule_39 (post : GH → Prop) (v1 s0 : Int32) (G : GH) : Prop :=
  (((G 24 0 38) = 0 → (vp_in ((2 : Int32) + v1) 681 ∧ (∀ G_8 : GH, G_8 = gs G 24 2 (upd (G 24 2) ((2 : Int32) + v1).toNatClampNeg s0) → post G_8))) ∧ (¬ (G 24 0 38) = 0 → post G))
def j_X8_readRule_15 (post : GH → Prop) (v1 : Int32) (G : GH) : Prop :=
  wp_X8_pass (fun (G_4 : GH) => (((G_4 24 0 38) = 0 → wp_X8_mostOf (fun (r_10 : Int32) (G_9 : GH) => wp_X8_number (fun (r_12 : Int32) (G_11 : GH) => j_X8_readRule_39 post v1 r_12 G_11) (0 : Int32) r_10 G_9) v1 G_4) ∧ (¬ (G_4 24 0 38) = 0 → j_X8_readRule_39 post v1 (0 : Int32) G_4))) G
def wp_X8_readRule (post : GH → Prop) (G : GH) : Prop :=
  wp_X8_ruleHere (fun (r_2 : Int32) (G_1 : GH) => ((r_2 = (-1 : Int32) → wp_X8_wrong (fun (G_13 : GH) => j_X8_readRule_15 post r_2 G_13) (1 : Int32) G_1) ∧ (¬ r_2 = (-1 : Int32) → j_X8_readRule_15 post r_2 G_1))) G
set_option maxRecDepth 100000 in
set_option maxHeartbeats 4000000 in
theorem kj_X8_readRule_39 {E : Ev} {X : Cx} {post : GH → Prop} {v1 s0 : Int32} {G : GH} (F : Fx E X "MarkFieldModel" cX8_readRule 3) (T : RT E X 9 0 0 none (pV post)) (h : j_X8_readRule_39 post v1 s0 G) : AW E X 3 39 [(0, .ref (sdX X 24 0)), (1, .int v1)] [.int s0] G 0 0 := by
  have hP := F.P
  refine aw_is_n (lv1 := [(2, .int s0), (0, .ref (sdX X 24 0)), (1, .int v1)]) F dX8_readRule_39 rfl (by decide) rfl ?_
  refine aw_al_n F 1 dX8_readRule_40 rfl rfl ?_
  refine gf8_38 F (lo_s rfl) (hP _ rfl) rfl w_1198 dX8_readRule_41 ?_
  refine aw_if_ne (tgt := 56) F dX8_readRule_44 (by decide) (fun c_7 => ?_) (fun c_7 => ?_)
  · replace h := h.2 c_7
    exact aw_vret F T (Nat.le_of_ble_eq_true rfl) (Nat.le_of_ble_eq_true rfl) ⟨rfl, h⟩ dX8_readRule_56
  · replace h := h.1 c_7
    refine aw_al_n F 1 dX8_readRule_47 rfl rfl ?_
    refine gr8_1 F (lo_s rfl) (hP _ rfl) rfl w_1161 (hP _ rfl) dX8_readRule_48 ?_
    refine aw_ic F dX8_readRule_51 ic_2 ?_
    refine aw_il_n F 2 dX8_readRule_52 rfl rfl ?_
    refine aw_iadd F dX8_readRule_53 ?_
    refine aw_il_n F 0 dX8_readRule_54 rfl rfl ?_
    refine aw_iast F 24 2 (lo_s rfl) (hP _ rfl) rfl h.1 dX8_readRule_55 ?_
    refine aw_nG (fun G_8 eG_8 => ?_)
    replace h := h.2 G_8 eG_8
    exact aw_vret F T (Nat.le_of_ble_eq_true rfl) (Nat.le_of_ble_eq_true rfl) ⟨rfl, h⟩ dX8_readRule_56
set_option maxRecDepth 100000 in
set_option maxHeartbeats 4000000 in
theorem kj_X8_readRule_15 {E : Ev} {X : Cx} {post : GH → Prop} {v1 : Int32} {G : GH} (F : Fx E X "MarkFieldModel" cX8_readRule 3) (T : RT E X 9 0 0 none (pV post)) (h : j_X8_readRule_15 post v1 G) : AW E X 3 15 [(0, .ref (sdX X 24 0)), (1, .int v1)] [] G 0 0 := by
  have hP := F.P
  refine aw_al_n F 0 dX8_readRule_15 rfl rfl ?_
  refine aw_cVv (stk := []) F T.room [] (k_X8_pass hP h) mv_X8_pass w_1676 cf8 (lo_s rfl) (hP _ rfl) rfl (by decide) rfl rfl (Nat.le_of_ble_eq_true rfl) ⟨(Nat.le_of_ble_eq_true rfl), (Nat.le_of_ble_eq_true rfl)⟩ ⟨(Nat.le_of_ble_eq_true rfl), (Nat.le_of_ble_eq_true rfl)⟩ dX8_readRule_16 (fun G_4 h => ?_)
  refine aw_al_n F 0 dX8_readRule_19 rfl rfl ?_
  refine gf8_38 F (lo_s rfl) (hP _ rfl) rfl w_1198 dX8_readRule_20 ?_
  refine aw_if_ne (tgt := 38) F dX8_readRule_23 (by decide) (fun c_6 => ?_) (fun c_6 => ?_)
  · replace h := h.2 c_6
    refine aw_ic F dX8_readRule_38 ic_0 ?_
    exact kj_X8_readRule_39 F T h
  · replace h := h.1 c_6
    refine aw_al_n F 0 dX8_readRule_26 rfl rfl ?_
    refine aw_ic F dX8_readRule_27 ic_0 ?_
    refine aw_il_n F 1 dX8_readRule_28 rfl rfl ?_
    refine aw_cSi (stk := [.int (0 : Int32), .ref (sdX X 24 0)]) F T.room [.int v1] (k_X8_mostOf hP h) ms_X8_mostOf w_1617 rfl rfl (Nat.le_of_ble_eq_true rfl) ⟨(Nat.le_of_ble_eq_true rfl), (Nat.le_of_ble_eq_true rfl)⟩ ⟨(Nat.le_of_ble_eq_true rfl), (Nat.le_of_ble_eq_true rfl)⟩ dX8_readRule_29 (fun r_10 G_9 h => ?_)
    refine aw_cVi (stk := []) F T.room [.int (0 : Int32), .int r_10] (k_X8_number hP h) mv_X8_number w_1680 cf8 (lo_s rfl) (hP _ rfl) rfl (by decide) rfl rfl (Nat.le_of_ble_eq_true rfl) ⟨(Nat.le_of_ble_eq_true rfl), (Nat.le_of_ble_eq_true rfl)⟩ ⟨(Nat.le_of_ble_eq_true rfl), (Nat.le_of_ble_eq_true rfl)⟩ dX8_readRule_32 (fun r_12 G_11 h => ?_)
    refine aw_go (tgt := 39) F dX8_readRule_35 (by decide) ?_
    exact kj_X8_readRule_39 F T h
set_option maxRecDepth 100000 in
set_option maxHeartbeats 4000000 in
theorem k_X8_readRule {l : Launch} {E : Ev} {P : Nat → Prop} {sd : Nat → Nat → Nat} {G : GH} {post : GH → Prop} (hPP : ∀ o, stt o = true → P o) (h : wp_X8_readRule post G) : Ct l yX8_readRule cX8_readRule 3 none 9 0 0 E P sd G [.ref (sd 24 0)] (pV post) := by
  refine ct_of (own := "MarkFieldModel") (by decide) rfl (Nat.le_of_ble_eq_true rfl) hPP (fun X F T el eP es => ?_)
  subst el; subst eP; subst es
  have hP := F.P
  change AW E X 3 0 [(0, .ref (sdX X 24 0))] [] G 0 0
  refine aw_al_n F 0 dX8_readRule_0 rfl rfl ?_
  refine aw_cVi (stk := []) F T.room [] (k_X8_ruleHere hP h) mv_X8_ruleHere w_1736 cf8 (lo_s rfl) (hP _ rfl) rfl (by decide) rfl rfl (Nat.le_of_ble_eq_true rfl) ⟨(Nat.le_of_ble_eq_true rfl), (Nat.le_of_ble_eq_true rfl)⟩ ⟨(Nat.le_of_ble_eq_true rfl), (Nat.le_of_ble_eq_true rfl)⟩ dX8_readRule_1 (fun r_2 G_1 h => ?_)
  refine aw_is_n (lv1 := [(1, .int r_2), (0, .ref (sdX X 24 0))]) F dX8_readRule_4 rfl (by decide) rfl ?_
  refine aw_il_n F 0 dX8_readRule_5 rfl rfl ?_
  refine aw_ic F dX8_readRule_6 ic_m1 ?_
  refine aw_icmp_ne (tgt := 15) F dX8_readRule_7 (by decide) (fun c_3 => ?_) (fun c_3 => ?_)
  · replace h := h.2 c_3
    refine aw_sub [1, 0] rfl ?_
    exact kj_X8_readRule_15 F T h
  · replace h := h.1 c_3
    refine aw_al_n F 1 dX8_readRule_10 rfl rfl ?_
    refine aw_ic F dX8_readRule_11 ic_1 ?_
    refine aw_cVv (stk := []) F T.room [.int (1 : Int32)] (k_X8_wrong hP h) mv_X8_wrong w_1672 cf8 (lo_s rfl) (hP _ rfl) rfl (by decide) rfl rfl (Nat.le_of_ble_eq_true rfl) ⟨(Nat.le_of_ble_eq_true rfl), (Nat.le_of_ble_eq_true rfl)⟩ ⟨(Nat.le_of_ble_eq_true rfl), (Nat.le_of_ble_eq_true rfl)⟩ dX8_readRule_12 (fun G_13 h => ?_)
    refine aw_sub [1, 0] rfl ?_
    exact kj_X8_readRule_15 F T h
-- X8_readLine (height 10)
def j_X8_readLine_72 (post : GH → Prop) (G : GH) : Prop :=
  wp_X8_must (fun (G_15 : GH) => post G_15) (59 : Int32) G
def wp_X8_readLine (post : GH → Prop) (G : GH) : Prop :=
  wp_X8_isWord (fun (b_2 : Bool) (G_1 : GH) => ((b_2 = false → wp_X8_isWord (fun (b_5 : Bool) (G_4 : GH) => ((b_5 = false → wp_X8_isWord (fun (b_8 : Bool) (G_7 : GH) => ((b_8 = false → wp_X8_isWord (fun (b_11 : Bool) (G_10 : GH) => ((b_11 = false → wp_X8_readRule (fun (G_13 : GH) => j_X8_readLine_72 post G_13) G_10) ∧ (b_11 = true → wp_X8_readConsent (fun (G_17 : GH) => j_X8_readLine_72 post G_17) G_10))) 49 G_7) ∧ (b_8 = true → wp_X8_readUse (fun (G_19 : GH) => j_X8_readLine_72 post G_19) G_7))) 48 G_4) ∧ (b_5 = true → wp_X8_readMark (fun (G_21 : GH) => j_X8_readLine_72 post G_21) G_4))) 47 G_1) ∧ (b_2 = true → wp_X8_readNear (fun (G_23 : GH) => j_X8_readLine_72 post G_23) G_1))) 46 G
set_option maxRecDepth 100000 in
set_option maxHeartbeats 4000000 in
theorem kj_X8_readLine_72 {E : Ev} {X : Cx} {post : GH → Prop} {G : GH} (F : Fx E X "MarkFieldModel" cX8_readLine 1) (T : RT E X 10 0 0 none (pV post)) (h : j_X8_readLine_72 post G) : AW E X 1 72 [(0, .ref (sdX X 24 0))] [] G 0 0 := by
  have hP := F.P
  refine aw_al_n F 0 dX8_readLine_72 rfl rfl ?_
  refine aw_bi F dX8_readLine_73 bi_59 ?_
  refine aw_cVv (stk := []) F T.room [.int (59 : Int32)] (k_X8_must hP h) mv_X8_must w_1692 cf8 (lo_s rfl) (hP _ rfl) rfl (by decide) rfl rfl (Nat.le_of_ble_eq_true rfl) ⟨(Nat.le_of_ble_eq_true rfl), (Nat.le_of_ble_eq_true rfl)⟩ ⟨(Nat.le_of_ble_eq_true rfl), (Nat.le_of_ble_eq_true rfl)⟩ dX8_readLine_75 (fun G_15 h => ?_)
  exact aw_vret F T (Nat.le_of_ble_eq_true rfl) (Nat.le_of_ble_eq_true rfl) ⟨rfl, h⟩ dX8_readLine_78
set_option maxRecDepth 100000 in
set_option maxHeartbeats 4000000 in
theorem k_X8_readLine {l : Launch} {E : Ev} {P : Nat → Prop} {sd : Nat → Nat → Nat} {G : GH} {post : GH → Prop} (hPP : ∀ o, stt o = true → P o) (h : wp_X8_readLine post G) : Ct l yX8_readLine cX8_readLine 1 none 10 0 0 E P sd G [.ref (sd 24 0)] (pV post) := by
  refine ct_of (own := "MarkFieldModel") (by decide) rfl (Nat.le_of_ble_eq_true rfl) hPP (fun X F T el eP es => ?_)
  subst el; subst eP; subst es
  have hP := F.P
  change AW E X 1 0 [(0, .ref (sdX X 24 0))] [] G 0 0
  refine aw_al_n F 0 dX8_readLine_0 rfl rfl ?_
  refine aw_ldcSw F 46 (by decide) rfl dX8_readLine_1 ?_
  refine aw_cVb (stk := []) F T.room [.ref (E.2.2.2.1 46)] (k_X8_isWord hP (by decide) h) mv_X8_isWord w_1666 cf8 (lo_s rfl) (hP _ rfl) rfl (by decide) rfl rfl (Nat.le_of_ble_eq_true rfl) ⟨(Nat.le_of_ble_eq_true rfl), (Nat.le_of_ble_eq_true rfl)⟩ ⟨(Nat.le_of_ble_eq_true rfl), (Nat.le_of_ble_eq_true rfl)⟩ dX8_readLine_4 (fun b_2 G_1 h => ?_)
  refine aw_if_eq (tgt := 17) F dX8_readLine_7 (by decide) (fun c_3 => ?_) (fun c_3 => ?_)
  · replace h := h.1 (bI_2 c_3)
    refine aw_al_n F 0 dX8_readLine_17 rfl rfl ?_
    refine aw_ldcSw F 47 (by decide) rfl dX8_readLine_18 ?_
    refine aw_cVb (stk := []) F T.room [.ref (E.2.2.2.1 47)] (k_X8_isWord hP (by decide) h) mv_X8_isWord w_1666 cf8 (lo_s rfl) (hP _ rfl) rfl (by decide) rfl rfl (Nat.le_of_ble_eq_true rfl) ⟨(Nat.le_of_ble_eq_true rfl), (Nat.le_of_ble_eq_true rfl)⟩ ⟨(Nat.le_of_ble_eq_true rfl), (Nat.le_of_ble_eq_true rfl)⟩ dX8_readLine_21 (fun b_5 G_4 h => ?_)
    refine aw_if_eq (tgt := 34) F dX8_readLine_24 (by decide) (fun c_6 => ?_) (fun c_6 => ?_)
    · replace h := h.1 (bI_2 c_6)
      refine aw_al_n F 0 dX8_readLine_34 rfl rfl ?_
      refine aw_ldcSw F 48 (by decide) rfl dX8_readLine_35 ?_
      refine aw_cVb (stk := []) F T.room [.ref (E.2.2.2.1 48)] (k_X8_isWord hP (by decide) h) mv_X8_isWord w_1666 cf8 (lo_s rfl) (hP _ rfl) rfl (by decide) rfl rfl (Nat.le_of_ble_eq_true rfl) ⟨(Nat.le_of_ble_eq_true rfl), (Nat.le_of_ble_eq_true rfl)⟩ ⟨(Nat.le_of_ble_eq_true rfl), (Nat.le_of_ble_eq_true rfl)⟩ dX8_readLine_38 (fun b_8 G_7 h => ?_)
      refine aw_if_eq (tgt := 51) F dX8_readLine_41 (by decide) (fun c_9 => ?_) (fun c_9 => ?_)
      · replace h := h.1 (bI_2 c_9)
        refine aw_al_n F 0 dX8_readLine_51 rfl rfl ?_
        refine aw_ldcSw F 49 (by decide) rfl dX8_readLine_52 ?_
        refine aw_cVb (stk := []) F T.room [.ref (E.2.2.2.1 49)] (k_X8_isWord hP (by decide) h) mv_X8_isWord w_1666 cf8 (lo_s rfl) (hP _ rfl) rfl (by decide) rfl rfl (Nat.le_of_ble_eq_true rfl) ⟨(Nat.le_of_ble_eq_true rfl), (Nat.le_of_ble_eq_true rfl)⟩ ⟨(Nat.le_of_ble_eq_true rfl), (Nat.le_of_ble_eq_true rfl)⟩ dX8_readLine_55 (fun b_11 G_10 h => ?_)
        refine aw_if_eq (tgt := 68) F dX8_readLine_58 (by decide) (fun c_12 => ?_) (fun c_12 => ?_)
        · replace h := h.1 (bI_2 c_12)
          refine aw_al_n F 0 dX8_readLine_68 rfl rfl ?_
          refine aw_cVv (stk := []) F T.room [] (k_X8_readRule hP h) mv_X8_readRule w_1732 cf8 (lo_s rfl) (hP _ rfl) rfl (by decide) rfl rfl (Nat.le_of_ble_eq_true rfl) ⟨(Nat.le_of_ble_eq_true rfl), (Nat.le_of_ble_eq_true rfl)⟩ ⟨(Nat.le_of_ble_eq_true rfl), (Nat.le_of_ble_eq_true rfl)⟩ dX8_readLine_69 (fun G_13 h => ?_)
          exact kj_X8_readLine_72 F T h
        · replace h := h.2 (bI_1 c_12)
          refine aw_al_n F 0 dX8_readLine_61 rfl rfl ?_
          refine aw_cVv (stk := []) F T.room [] (k_X8_readConsent hP h) mv_X8_readConsent w_1728 cf8 (lo_s rfl) (hP _ rfl) rfl (by decide) rfl rfl (Nat.le_of_ble_eq_true rfl) ⟨(Nat.le_of_ble_eq_true rfl), (Nat.le_of_ble_eq_true rfl)⟩ ⟨(Nat.le_of_ble_eq_true rfl), (Nat.le_of_ble_eq_true rfl)⟩ dX8_readLine_62 (fun G_17 h => ?_)
          refine aw_go (tgt := 72) F dX8_readLine_65 (by decide) ?_
          exact kj_X8_readLine_72 F T h
      · replace h := h.2 (bI_1 c_9)
        refine aw_al_n F 0 dX8_readLine_44 rfl rfl ?_
        refine aw_cVv (stk := []) F T.room [] (k_X8_readUse hP h) mv_X8_readUse w_1723 cf8 (lo_s rfl) (hP _ rfl) rfl (by decide) rfl rfl (Nat.le_of_ble_eq_true rfl) ⟨(Nat.le_of_ble_eq_true rfl), (Nat.le_of_ble_eq_true rfl)⟩ ⟨(Nat.le_of_ble_eq_true rfl), (Nat.le_of_ble_eq_true rfl)⟩ dX8_readLine_45 (fun G_19 h => ?_)
        refine aw_go (tgt := 72) F dX8_readLine_48 (by decide) ?_
        exact kj_X8_readLine_72 F T h
    · replace h := h.2 (bI_1 c_6)
      refine aw_al_n F 0 dX8_readLine_27 rfl rfl ?_
      refine aw_cVv (stk := []) F T.room [] (k_X8_readMark hP h) mv_X8_readMark w_1714 cf8 (lo_s rfl) (hP _ rfl) rfl (by decide) rfl rfl (Nat.le_of_ble_eq_true rfl) ⟨(Nat.le_of_ble_eq_true rfl), (Nat.le_of_ble_eq_true rfl)⟩ ⟨(Nat.le_of_ble_eq_true rfl), (Nat.le_of_ble_eq_true rfl)⟩ dX8_readLine_28 (fun G_21 h => ?_)
      refine aw_go (tgt := 72) F dX8_readLine_31 (by decide) ?_
      exact kj_X8_readLine_72 F T h
  · replace h := h.2 (bI_1 c_3)
    refine aw_al_n F 0 dX8_readLine_10 rfl rfl ?_
    refine aw_cVv (stk := []) F T.room [] (k_X8_readNear hP h) mv_X8_readNear w_1705 cf8 (lo_s rfl) (hP _ rfl) rfl (by decide) rfl rfl (Nat.le_of_ble_eq_true rfl) ⟨(Nat.le_of_ble_eq_true rfl), (Nat.le_of_ble_eq_true rfl)⟩ ⟨(Nat.le_of_ble_eq_true rfl), (Nat.le_of_ble_eq_true rfl)⟩ dX8_readLine_11 (fun G_23 h => ?_)
    refine aw_go (tgt := 72) F dX8_readLine_14 (by decide) ?_
    exact kj_X8_readLine_72 F T h
-- X8_register (height 11)
def lb_X8_register_110 (post : Int32 → GH → Prop) (P110 : Int32 → GH → Prop) (v3 : Int32) (G : GH) : Prop :=
  (((681 : Int32) ≤ v3 → (∀ G_24 : GH, G_24 = gs G 24 0 (upd (G 24 0) 4 (0 : Int32)) → (∀ G_25 : GH, G_25 = gs G_24 24 0 (upd (G_24 24 0) 7 (0 : Int32)) → wp_X8_marks (fun (r_27 : Int32) (G_26 : GH) => post r_27 G_26) G_25))) ∧ (¬ (681 : Int32) ≤ v3 → (vp_in v3 681 ∧ (vp_in v3 681 ∧ (∀ G_28 : GH, G_28 = gs G 24 1 (upd (G 24 1) v3.toNatClampNeg (G 24 2 v3.toNatClampNeg)) → P110 (v3 + (1 : Int32)) G_28)))))
def lp_X8_register_110 (post : Int32 → GH → Prop) (v3 : Int32) (G : GH) : Prop := ∀ P110 : Int32 → GH → Prop, (∀ (v3 : Int32) (G : GH), lb_X8_register_110 post P110 v3 G → P110 v3 G) → P110 v3 G
def j_X8_register_94 (post : Int32 → GH → Prop) (G : GH) : Prop :=
  wp_X8_ends (fun (r_21 : Int32) (G_20 : GH) => ((r_21 = 0 → lp_X8_register_110 post (0 : Int32) G_20) ∧ (¬ r_21 = 0 → post ((-10 : Int32) - r_21) G_20))) G
def lb_X8_register_73 (post : Int32 → GH → Prop) (P73 : GH → Prop) (G : GH) : Prop :=
  (((G 24 0 38) = 0 → (((G 24 0 35) = 0 → j_X8_register_94 post G) ∧ (¬ (G 24 0 35) = 0 → wp_X8_readLine (fun (G_30 : GH) => P73 G_30) G))) ∧ (¬ (G 24 0 38) = 0 → j_X8_register_94 post G))
def lp_X8_register_73 (post : Int32 → GH → Prop) (G : GH) : Prop := ∀ P73 : GH → Prop, (∀ (G : GH), lb_X8_register_73 post P73 G → P73 G) → P73 G
def j_X8_register_50 (post : Int32 → GH → Prop) (G : GH) : Prop :=
  wp_X8_pass (fun (G_12 : GH) => wp_X8_number (fun (r_15 : Int32) (G_14 : GH) => (∀ G_16 : GH, G_16 = gs G_14 24 2 (upd (G_14 24 2) 0 r_15) → wp_X8_must (fun (G_17 : GH) => lp_X8_register_73 post G_17) (59 : Int32) G_16)) (1 : Int32) (6 : Int32) G_12) G
def wp_X8_register (post : Int32 → GH → Prop) (x1 : Int32) (G : GH) : Prop :=
  (∀ G_1 : GH, G_1 = gs G 24 0 (upd (G 24 0) 5 (0 : Int32)) → wp_X8_within (fun (b_3 : Bool) (G_2 : GH) => ((b_3 = false → wp_X8_fail (fun (r_35 : Int32) (G_34 : GH) => post r_35 G_34) (1 : Int32) G_2) ∧ (b_3 = true → wp_X8_opens (fun (G_5 : GH) => wp_X8_begins (fun (G_7 : GH) => wp_X8_isWord (fun (b_10 : Bool) (G_9 : GH) => ((b_10 = false → wp_X8_wrong (fun (G_32 : GH) => j_X8_register_50 post G_32) (1 : Int32) G_9) ∧ (b_10 = true → j_X8_register_50 post G_9))) 50 G_7) 24 2 681 G_5) x1 G_2))) x1 (0 : Int32) (G_1 24 0 32) G_1)
set_option maxRecDepth 100000 in
set_option maxHeartbeats 4000000 in
theorem kl_X8_register_110 {E : Ev} {X : Cx} {post : Int32 → GH → Prop} {v3 : Int32} {G : GH} (F : Fx E X "MarkFieldModel" cX8_register 4) (T : RT E X 11 0 0 (some .int) (pI post)) (h : lp_X8_register_110 post v3 G) : AW E X 4 110 [(0, .ref (sdX X 24 0)), (3, .int v3)] [] G 0 0 := by
  have hP := F.P
  have K110 : ∀ (v3 : Int32) (G : GH), AW E X 4 110 [(0, .ref (sdX X 24 0)), (3, .int v3)] [] G 0 0 → AW E X 4 110 [(0, .ref (sdX X 24 0)), (3, .int v3)] [] G 0 0 := fun _ _ q => q
  refine h (fun (v3 : Int32) (G : GH) => AW E X 4 110 [(0, .ref (sdX X 24 0)), (3, .int v3)] [] G 0 0) (fun (v3 : Int32) (G : GH) h => ?_)
  refine aw_il_n F 1 dX8_register_110 rfl rfl ?_
  refine aw_si F dX8_register_111 si_681 ?_
  refine aw_icmp_ge (tgt := 135) F dX8_register_114 (by decide) (fun c_23 => ?_) (fun c_23 => ?_)
  · replace h := h.1 c_23
    refine aw_al_n F 0 dX8_register_135 rfl rfl ?_
    refine aw_ic F dX8_register_136 ic_0 ?_
    refine pf8_4 F (lo_s rfl) (hP _ rfl) rfl w_1164 dX8_register_137 (fun G_24 eG_24 => ?_)
    replace h := h G_24 eG_24
    refine aw_al_n F 0 dX8_register_140 rfl rfl ?_
    refine aw_ic F dX8_register_141 ic_0 ?_
    refine pf8_7 F (lo_s rfl) (hP _ rfl) rfl w_1167 (Or.inl rfl) dX8_register_142 (fun G_25 eG_25 => ?_)
    replace h := h G_25 eG_25
    refine aw_al_n F 0 dX8_register_145 rfl rfl ?_
    refine aw_cVi (stk := []) F T.room [] (k_X8_marks hP h) mv_X8_marks w_1305 cf8 (lo_s rfl) (hP _ rfl) rfl (by decide) rfl rfl (Nat.le_of_ble_eq_true rfl) ⟨(Nat.le_of_ble_eq_true rfl), (Nat.le_of_ble_eq_true rfl)⟩ ⟨(Nat.le_of_ble_eq_true rfl), (Nat.le_of_ble_eq_true rfl)⟩ dX8_register_146 (fun r_27 G_26 h => ?_)
    exact aw_iret F T (Nat.le_of_ble_eq_true rfl) (Nat.le_of_ble_eq_true rfl) ⟨_, rfl, h⟩ dX8_register_149
  · replace h := h.2 c_23
    refine aw_al_n F 0 dX8_register_117 rfl rfl ?_
    refine gr8_0 F (lo_s rfl) (hP _ rfl) rfl w_1160 (hP _ rfl) dX8_register_118 ?_
    refine aw_il_n F 1 dX8_register_121 rfl rfl ?_
    refine aw_al_n F 0 dX8_register_122 rfl rfl ?_
    refine gr8_1 F (lo_s rfl) (hP _ rfl) rfl w_1161 (hP _ rfl) dX8_register_123 ?_
    refine aw_il_n F 1 dX8_register_126 rfl rfl ?_
    refine aw_iald F 24 2 (lo_s rfl) (hP _ rfl) rfl h.1 dX8_register_127 ?_
    replace h := h.2
    refine aw_iast F 24 1 (lo_s rfl) (hP _ rfl) rfl h.1 dX8_register_128 ?_
    refine aw_nG (fun G_28 eG_28 => ?_)
    replace h := h.2 G_28 eG_28
    refine aw_inc (lv1 := [(3, .int (v3 + (1 : Int32))), (0, .ref (sdX X 24 0))]) F 1 dX8_register_129 rfl (in_1 _) (by decide) rfl ?_
    refine aw_go (tgt := 110) F dX8_register_132 (by decide) ?_
    refine aw_sub [1, 0] rfl ?_
    exact K110 _ _ h
set_option maxRecDepth 100000 in
set_option maxHeartbeats 4000000 in
theorem kj_X8_register_94 {E : Ev} {X : Cx} {post : Int32 → GH → Prop} {G : GH} (F : Fx E X "MarkFieldModel" cX8_register 4) (T : RT E X 11 0 0 (some .int) (pI post)) (h : j_X8_register_94 post G) : AW E X 4 94 [(0, .ref (sdX X 24 0))] [] G 0 0 := by
  have hP := F.P
  refine aw_al_n F 0 dX8_register_94 rfl rfl ?_
  refine aw_cVi (stk := []) F T.room [] (k_X8_ends hP h) mv_X8_ends w_1746 cf8 (lo_s rfl) (hP _ rfl) rfl (by decide) rfl rfl (Nat.le_of_ble_eq_true rfl) ⟨(Nat.le_of_ble_eq_true rfl), (Nat.le_of_ble_eq_true rfl)⟩ ⟨(Nat.le_of_ble_eq_true rfl), (Nat.le_of_ble_eq_true rfl)⟩ dX8_register_95 (fun r_21 G_20 h => ?_)
  refine aw_is_n (lv1 := [(2, .int r_21), (0, .ref (sdX X 24 0))]) F dX8_register_98 rfl (by decide) rfl ?_
  refine aw_il_n F 0 dX8_register_99 rfl rfl ?_
  refine aw_if_eq (tgt := 108) F dX8_register_100 (by decide) (fun c_22 => ?_) (fun c_22 => ?_)
  · replace h := h.1 c_22
    refine aw_ic F dX8_register_108 ic_0 ?_
    refine aw_is_n (lv1 := [(3, .int (0 : Int32)), (2, .int r_21), (0, .ref (sdX X 24 0))]) F dX8_register_109 rfl (by decide) rfl ?_
    refine aw_sub [2, 0] rfl ?_
    exact kl_X8_register_110 F T h
  · replace h := h.2 c_22
    refine aw_bi F dX8_register_103 bi_m10 ?_
    refine aw_il_n F 0 dX8_register_105 rfl rfl ?_
    refine aw_isub F dX8_register_106 ?_
    exact aw_iret F T (Nat.le_of_ble_eq_true rfl) (Nat.le_of_ble_eq_true rfl) ⟨_, rfl, h⟩ dX8_register_107
set_option maxRecDepth 100000 in
set_option maxHeartbeats 4000000 in
theorem kl_X8_register_73 {E : Ev} {X : Cx} {post : Int32 → GH → Prop} {G : GH} (F : Fx E X "MarkFieldModel" cX8_register 4) (T : RT E X 11 0 0 (some .int) (pI post)) (h : lp_X8_register_73 post G) : AW E X 4 73 [(0, .ref (sdX X 24 0))] [] G 0 0 := by
  have hP := F.P
  have K73 : ∀ (G : GH), AW E X 4 73 [(0, .ref (sdX X 24 0))] [] G 0 0 → AW E X 4 73 [(0, .ref (sdX X 24 0))] [] G 0 0 := fun _ q => q
  refine h (fun (G : GH) => AW E X 4 73 [(0, .ref (sdX X 24 0))] [] G 0 0) (fun (G : GH) h => ?_)
  refine aw_al_n F 0 dX8_register_73 rfl rfl ?_
  refine gf8_38 F (lo_s rfl) (hP _ rfl) rfl w_1198 dX8_register_74 ?_
  refine aw_if_ne (tgt := 94) F dX8_register_77 (by decide) (fun c_19 => ?_) (fun c_19 => ?_)
  · replace h := h.2 c_19
    exact kj_X8_register_94 F T h
  · replace h := h.1 c_19
    refine aw_al_n F 0 dX8_register_80 rfl rfl ?_
    refine gf8_35 F (lo_s rfl) (hP _ rfl) rfl w_1195 dX8_register_81 ?_
    refine aw_if_eq (tgt := 94) F dX8_register_84 (by decide) (fun c_29 => ?_) (fun c_29 => ?_)
    · replace h := h.1 c_29
      exact kj_X8_register_94 F T h
    · replace h := h.2 c_29
      refine aw_al_n F 0 dX8_register_87 rfl rfl ?_
      refine aw_cVv (stk := []) F T.room [] (k_X8_readLine hP h) mv_X8_readLine w_1700 cf8 (lo_s rfl) (hP _ rfl) rfl (by decide) rfl rfl (Nat.le_of_ble_eq_true rfl) ⟨(Nat.le_of_ble_eq_true rfl), (Nat.le_of_ble_eq_true rfl)⟩ ⟨(Nat.le_of_ble_eq_true rfl), (Nat.le_of_ble_eq_true rfl)⟩ dX8_register_88 (fun G_30 h => ?_)
      refine aw_go (tgt := 73) F dX8_register_91 (by decide) ?_
      exact K73 _ h
set_option maxRecDepth 100000 in
set_option maxHeartbeats 4000000 in
theorem kj_X8_register_50 {E : Ev} {X : Cx} {post : Int32 → GH → Prop} {G : GH} (F : Fx E X "MarkFieldModel" cX8_register 4) (T : RT E X 11 0 0 (some .int) (pI post)) (h : j_X8_register_50 post G) : AW E X 4 50 [(0, .ref (sdX X 24 0))] [] G 0 0 := by
  have hP := F.P
  refine aw_al_n F 0 dX8_register_50 rfl rfl ?_
  refine aw_cVv (stk := []) F T.room [] (k_X8_pass hP h) mv_X8_pass w_1676 cf8 (lo_s rfl) (hP _ rfl) rfl (by decide) rfl rfl (Nat.le_of_ble_eq_true rfl) ⟨(Nat.le_of_ble_eq_true rfl), (Nat.le_of_ble_eq_true rfl)⟩ ⟨(Nat.le_of_ble_eq_true rfl), (Nat.le_of_ble_eq_true rfl)⟩ dX8_register_51 (fun G_12 h => ?_)
  refine aw_al_n F 0 dX8_register_54 rfl rfl ?_
  refine gr8_1 F (lo_s rfl) (hP _ rfl) rfl w_1161 (hP _ rfl) dX8_register_55 ?_
  refine aw_ic F dX8_register_58 ic_0 ?_
  refine aw_al_n F 0 dX8_register_59 rfl rfl ?_
  refine aw_ic F dX8_register_60 ic_1 ?_
  refine aw_bi F dX8_register_61 bi_6 ?_
  refine aw_cVi (stk := [.int (0 : Int32), .ref (sdX X 24 2)]) F T.room [.int (1 : Int32), .int (6 : Int32)] (k_X8_number hP h) mv_X8_number w_1680 cf8 (lo_s rfl) (hP _ rfl) rfl (by decide) rfl rfl (Nat.le_of_ble_eq_true rfl) ⟨(Nat.le_of_ble_eq_true rfl), (Nat.le_of_ble_eq_true rfl)⟩ ⟨(Nat.le_of_ble_eq_true rfl), (Nat.le_of_ble_eq_true rfl)⟩ dX8_register_63 (fun r_15 G_14 h => ?_)
  refine aw_iastL F 24 2 (lo_s rfl) (hP _ rfl) rfl (vin_l rfl) tn_0 dX8_register_66 ?_
  refine aw_nG (fun G_16 eG_16 => ?_)
  replace h := h G_16 eG_16
  refine aw_al_n F 0 dX8_register_67 rfl rfl ?_
  refine aw_bi F dX8_register_68 bi_59 ?_
  refine aw_cVv (stk := []) F T.room [.int (59 : Int32)] (k_X8_must hP h) mv_X8_must w_1692 cf8 (lo_s rfl) (hP _ rfl) rfl (by decide) rfl rfl (Nat.le_of_ble_eq_true rfl) ⟨(Nat.le_of_ble_eq_true rfl), (Nat.le_of_ble_eq_true rfl)⟩ ⟨(Nat.le_of_ble_eq_true rfl), (Nat.le_of_ble_eq_true rfl)⟩ dX8_register_70 (fun G_17 h => ?_)
  exact kl_X8_register_73 F T h
set_option maxRecDepth 100000 in
set_option maxHeartbeats 4000000 in
theorem k_X8_register {l : Launch} {E : Ev} {P : Nat → Prop} {sd : Nat → Nat → Nat} {G : GH} {post : Int32 → GH → Prop} {x1 : Int32} (hPP : ∀ o, stt o = true → P o) (h : wp_X8_register post x1 G) : Ct l yX8_register cX8_register 4 (some .int) 11 0 0 E P sd G [.ref (sd 24 0), .int x1] (pI post) := by
  refine ct_of (own := "MarkFieldModel") (by decide) rfl (Nat.le_of_ble_eq_true rfl) hPP (fun X F T el eP es => ?_)
  subst el; subst eP; subst es
  have hP := F.P
  change AW E X 4 0 [(0, .ref (sdX X 24 0)), (1, .int x1)] [] G 0 0
  refine aw_al_n F 0 dX8_register_0 rfl rfl ?_
  refine aw_ic F dX8_register_1 ic_0 ?_
  refine pf8_5 F (lo_s rfl) (hP _ rfl) rfl w_1165 dX8_register_2 (fun G_1 eG_1 => ?_)
  replace h := h G_1 eG_1
  refine aw_il_n F 1 dX8_register_5 rfl rfl ?_
  refine aw_ic F dX8_register_6 ic_0 ?_
  refine aw_al_n F 0 dX8_register_7 rfl rfl ?_
  refine gf8_32 F (lo_s rfl) (hP _ rfl) rfl w_1192 dX8_register_8 ?_
  refine aw_cSb (stk := []) F T.room [.int x1, .int (0 : Int32), .int (G_1 24 0 32)] (k_X8_within hP h) ms_X8_within w_1427 rfl rfl (Nat.le_of_ble_eq_true rfl) ⟨(Nat.le_of_ble_eq_true rfl), (Nat.le_of_ble_eq_true rfl)⟩ ⟨(Nat.le_of_ble_eq_true rfl), (Nat.le_of_ble_eq_true rfl)⟩ dX8_register_11 (fun b_3 G_2 h => ?_)
  refine aw_if_ne (tgt := 23) F dX8_register_14 (by decide) (fun c_4 => ?_) (fun c_4 => ?_)
  · replace h := h.2 (bI_1 c_4)
    refine aw_al_n F 0 dX8_register_23 rfl rfl ?_
    refine aw_il_n F 1 dX8_register_24 rfl rfl ?_
    refine aw_cVv (stk := []) F T.room [.int x1] (k_X8_opens hP h) mv_X8_opens w_1647 cf8 (lo_s rfl) (hP _ rfl) rfl (by decide) rfl rfl (Nat.le_of_ble_eq_true rfl) ⟨(Nat.le_of_ble_eq_true rfl), (Nat.le_of_ble_eq_true rfl)⟩ ⟨(Nat.le_of_ble_eq_true rfl), (Nat.le_of_ble_eq_true rfl)⟩ dX8_register_25 (fun G_5 h => ?_)
    refine aw_al_n F 0 dX8_register_28 rfl rfl ?_
    refine gr8_1 F (lo_s rfl) (hP _ rfl) rfl w_1161 (hP _ rfl) dX8_register_29 ?_
    refine aw_cSv (stk := []) F T.room [.ref (sdX X 24 2)] (k_X8_begins hP rfl rfl h) ms_X8_begins w_1157 rfl rfl (Nat.le_of_ble_eq_true rfl) ⟨(Nat.le_of_ble_eq_true rfl), (Nat.le_of_ble_eq_true rfl)⟩ ⟨(Nat.le_of_ble_eq_true rfl), (Nat.le_of_ble_eq_true rfl)⟩ dX8_register_32 (fun G_7 h => ?_)
    refine aw_al_n F 0 dX8_register_35 rfl rfl ?_
    refine aw_ldcSw F 50 (by decide) rfl dX8_register_36 ?_
    refine aw_cVb (stk := []) F T.room [.ref (E.2.2.2.1 50)] (k_X8_isWord hP (by decide) h) mv_X8_isWord w_1666 cf8 (lo_s rfl) (hP _ rfl) rfl (by decide) rfl rfl (Nat.le_of_ble_eq_true rfl) ⟨(Nat.le_of_ble_eq_true rfl), (Nat.le_of_ble_eq_true rfl)⟩ ⟨(Nat.le_of_ble_eq_true rfl), (Nat.le_of_ble_eq_true rfl)⟩ dX8_register_39 (fun b_10 G_9 h => ?_)
    refine aw_if_ne (tgt := 50) F dX8_register_42 (by decide) (fun c_11 => ?_) (fun c_11 => ?_)
    · replace h := h.2 (bI_1 c_11)
      refine aw_sub [0] rfl ?_
      exact kj_X8_register_50 F T h
    · replace h := h.1 (bI_2 c_11)
      refine aw_al_n F 0 dX8_register_45 rfl rfl ?_
      refine aw_ic F dX8_register_46 ic_1 ?_
      refine aw_cVv (stk := []) F T.room [.int (1 : Int32)] (k_X8_wrong hP h) mv_X8_wrong w_1672 cf8 (lo_s rfl) (hP _ rfl) rfl (by decide) rfl rfl (Nat.le_of_ble_eq_true rfl) ⟨(Nat.le_of_ble_eq_true rfl), (Nat.le_of_ble_eq_true rfl)⟩ ⟨(Nat.le_of_ble_eq_true rfl), (Nat.le_of_ble_eq_true rfl)⟩ dX8_register_47 (fun G_32 h => ?_)
      refine aw_sub [0] rfl ?_
      exact kj_X8_register_50 F T h
  · replace h := h.1 (bI_2 c_4)
    refine aw_al_n F 0 dX8_register_17 rfl rfl ?_
    refine aw_ic F dX8_register_18 ic_1 ?_
    refine aw_cVi (stk := []) F T.room [.int (1 : Int32)] (k_X8_fail hP h) mv_X8_fail w_1415 cf8 (lo_s rfl) (hP _ rfl) rfl (by decide) rfl rfl (Nat.le_of_ble_eq_true rfl) ⟨(Nat.le_of_ble_eq_true rfl), (Nat.le_of_ble_eq_true rfl)⟩ ⟨(Nat.le_of_ble_eq_true rfl), (Nat.le_of_ble_eq_true rfl)⟩ dX8_register_19 (fun r_35 G_34 h => ?_)
    exact aw_iret F T (Nat.le_of_ble_eq_true rfl) (Nat.le_of_ble_eq_true rfl) ⟨_, rfl, h⟩ dX8_register_22
-- X8_wordHere (height 8)
def wp_X8_wordHere (post : Int32 → GH → Prop) (G : GH) : Prop :=
  wp_X8_isWord (fun (b_2 : Bool) (G_1 : GH) => ((b_2 = false → wp_X8_isWord (fun (b_5 : Bool) (G_4 : GH) => ((b_5 = false → wp_X8_isWord (fun (b_8 : Bool) (G_7 : GH) => ((b_8 = false → wp_X8_isWord (fun (b_11 : Bool) (G_10 : GH) => ((b_11 = false → wp_X8_isWord (fun (b_14 : Bool) (G_13 : GH) => ((b_14 = false → wp_X8_isWord (fun (b_17 : Bool) (G_16 : GH) => ((b_17 = false → wp_X8_isWord (fun (b_20 : Bool) (G_19 : GH) => ((b_20 = false → wp_X8_isWord (fun (b_23 : Bool) (G_22 : GH) => ((b_23 = false → wp_X8_isWord (fun (b_26 : Bool) (G_25 : GH) => ((b_26 = false → post (-1 : Int32) G_25) ∧ (b_26 = true → post (8 : Int32) G_25))) 58 G_22) ∧ (b_23 = true → post (7 : Int32) G_22))) 57 G_19) ∧ (b_20 = true → post (6 : Int32) G_19))) 56 G_16) ∧ (b_17 = true → post (5 : Int32) G_16))) 55 G_13) ∧ (b_14 = true → post (4 : Int32) G_13))) 54 G_10) ∧ (b_11 = true → post (3 : Int32) G_10))) 53 G_7) ∧ (b_8 = true → post (2 : Int32) G_7))) 52 G_4) ∧ (b_5 = true → post (1 : Int32) G_4))) 51 G_1) ∧ (b_2 = true → post (0 : Int32) G_1))) 47 G
set_option maxRecDepth 100000 in
set_option maxHeartbeats 4000000 in
theorem k_X8_wordHere {l : Launch} {E : Ev} {P : Nat → Prop} {sd : Nat → Nat → Nat} {G : GH} {post : Int32 → GH → Prop} (hPP : ∀ o, stt o = true → P o) (h : wp_X8_wordHere post G) : Ct l yX8_wordHere cX8_wordHere 1 (some .int) 8 0 0 E P sd G [.ref (sd 24 0)] (pI post) := by
  refine ct_of (own := "MarkFieldModel") (by decide) rfl (Nat.le_of_ble_eq_true rfl) hPP (fun X F T el eP es => ?_)
  subst el; subst eP; subst es
  have hP := F.P
  change AW E X 1 0 [(0, .ref (sdX X 24 0))] [] G 0 0
  refine aw_al_n F 0 dX8_wordHere_0 rfl rfl ?_
  refine aw_ldcSw F 47 (by decide) rfl dX8_wordHere_1 ?_
  refine aw_cVb (stk := []) F T.room [.ref (E.2.2.2.1 47)] (k_X8_isWord hP (by decide) h) mv_X8_isWord w_1666 cf8 (lo_s rfl) (hP _ rfl) rfl (by decide) rfl rfl (Nat.le_of_ble_eq_true rfl) ⟨(Nat.le_of_ble_eq_true rfl), (Nat.le_of_ble_eq_true rfl)⟩ ⟨(Nat.le_of_ble_eq_true rfl), (Nat.le_of_ble_eq_true rfl)⟩ dX8_wordHere_4 (fun b_2 G_1 h => ?_)
  refine aw_if_eq (tgt := 12) F dX8_wordHere_7 (by decide) (fun c_3 => ?_) (fun c_3 => ?_)
  · replace h := h.1 (bI_2 c_3)
    refine aw_al_n F 0 dX8_wordHere_12 rfl rfl ?_
    refine aw_ldcSw F 51 (by decide) rfl dX8_wordHere_13 ?_
    refine aw_cVb (stk := []) F T.room [.ref (E.2.2.2.1 51)] (k_X8_isWord hP (by decide) h) mv_X8_isWord w_1666 cf8 (lo_s rfl) (hP _ rfl) rfl (by decide) rfl rfl (Nat.le_of_ble_eq_true rfl) ⟨(Nat.le_of_ble_eq_true rfl), (Nat.le_of_ble_eq_true rfl)⟩ ⟨(Nat.le_of_ble_eq_true rfl), (Nat.le_of_ble_eq_true rfl)⟩ dX8_wordHere_16 (fun b_5 G_4 h => ?_)
    refine aw_if_eq (tgt := 24) F dX8_wordHere_19 (by decide) (fun c_6 => ?_) (fun c_6 => ?_)
    · replace h := h.1 (bI_2 c_6)
      refine aw_al_n F 0 dX8_wordHere_24 rfl rfl ?_
      refine aw_ldcSw F 52 (by decide) rfl dX8_wordHere_25 ?_
      refine aw_cVb (stk := []) F T.room [.ref (E.2.2.2.1 52)] (k_X8_isWord hP (by decide) h) mv_X8_isWord w_1666 cf8 (lo_s rfl) (hP _ rfl) rfl (by decide) rfl rfl (Nat.le_of_ble_eq_true rfl) ⟨(Nat.le_of_ble_eq_true rfl), (Nat.le_of_ble_eq_true rfl)⟩ ⟨(Nat.le_of_ble_eq_true rfl), (Nat.le_of_ble_eq_true rfl)⟩ dX8_wordHere_28 (fun b_8 G_7 h => ?_)
      refine aw_if_eq (tgt := 36) F dX8_wordHere_31 (by decide) (fun c_9 => ?_) (fun c_9 => ?_)
      · replace h := h.1 (bI_2 c_9)
        refine aw_al_n F 0 dX8_wordHere_36 rfl rfl ?_
        refine aw_ldcSw F 53 (by decide) rfl dX8_wordHere_37 ?_
        refine aw_cVb (stk := []) F T.room [.ref (E.2.2.2.1 53)] (k_X8_isWord hP (by decide) h) mv_X8_isWord w_1666 cf8 (lo_s rfl) (hP _ rfl) rfl (by decide) rfl rfl (Nat.le_of_ble_eq_true rfl) ⟨(Nat.le_of_ble_eq_true rfl), (Nat.le_of_ble_eq_true rfl)⟩ ⟨(Nat.le_of_ble_eq_true rfl), (Nat.le_of_ble_eq_true rfl)⟩ dX8_wordHere_40 (fun b_11 G_10 h => ?_)
        refine aw_if_eq (tgt := 48) F dX8_wordHere_43 (by decide) (fun c_12 => ?_) (fun c_12 => ?_)
        · replace h := h.1 (bI_2 c_12)
          refine aw_al_n F 0 dX8_wordHere_48 rfl rfl ?_
          refine aw_ldcSw F 54 (by decide) rfl dX8_wordHere_49 ?_
          refine aw_cVb (stk := []) F T.room [.ref (E.2.2.2.1 54)] (k_X8_isWord hP (by decide) h) mv_X8_isWord w_1666 cf8 (lo_s rfl) (hP _ rfl) rfl (by decide) rfl rfl (Nat.le_of_ble_eq_true rfl) ⟨(Nat.le_of_ble_eq_true rfl), (Nat.le_of_ble_eq_true rfl)⟩ ⟨(Nat.le_of_ble_eq_true rfl), (Nat.le_of_ble_eq_true rfl)⟩ dX8_wordHere_52 (fun b_14 G_13 h => ?_)
          refine aw_if_eq (tgt := 60) F dX8_wordHere_55 (by decide) (fun c_15 => ?_) (fun c_15 => ?_)
          · replace h := h.1 (bI_2 c_15)
            refine aw_al_n F 0 dX8_wordHere_60 rfl rfl ?_
            refine aw_ldcSw F 55 (by decide) rfl dX8_wordHere_61 ?_
            refine aw_cVb (stk := []) F T.room [.ref (E.2.2.2.1 55)] (k_X8_isWord hP (by decide) h) mv_X8_isWord w_1666 cf8 (lo_s rfl) (hP _ rfl) rfl (by decide) rfl rfl (Nat.le_of_ble_eq_true rfl) ⟨(Nat.le_of_ble_eq_true rfl), (Nat.le_of_ble_eq_true rfl)⟩ ⟨(Nat.le_of_ble_eq_true rfl), (Nat.le_of_ble_eq_true rfl)⟩ dX8_wordHere_64 (fun b_17 G_16 h => ?_)
            refine aw_if_eq (tgt := 72) F dX8_wordHere_67 (by decide) (fun c_18 => ?_) (fun c_18 => ?_)
            · replace h := h.1 (bI_2 c_18)
              refine aw_al_n F 0 dX8_wordHere_72 rfl rfl ?_
              refine aw_ldcSw F 56 (by decide) rfl dX8_wordHere_73 ?_
              refine aw_cVb (stk := []) F T.room [.ref (E.2.2.2.1 56)] (k_X8_isWord hP (by decide) h) mv_X8_isWord w_1666 cf8 (lo_s rfl) (hP _ rfl) rfl (by decide) rfl rfl (Nat.le_of_ble_eq_true rfl) ⟨(Nat.le_of_ble_eq_true rfl), (Nat.le_of_ble_eq_true rfl)⟩ ⟨(Nat.le_of_ble_eq_true rfl), (Nat.le_of_ble_eq_true rfl)⟩ dX8_wordHere_76 (fun b_20 G_19 h => ?_)
              refine aw_if_eq (tgt := 85) F dX8_wordHere_79 (by decide) (fun c_21 => ?_) (fun c_21 => ?_)
              · replace h := h.1 (bI_2 c_21)
                refine aw_al_n F 0 dX8_wordHere_85 rfl rfl ?_
                refine aw_ldcSw F 57 (by decide) rfl dX8_wordHere_86 ?_
                refine aw_cVb (stk := []) F T.room [.ref (E.2.2.2.1 57)] (k_X8_isWord hP (by decide) h) mv_X8_isWord w_1666 cf8 (lo_s rfl) (hP _ rfl) rfl (by decide) rfl rfl (Nat.le_of_ble_eq_true rfl) ⟨(Nat.le_of_ble_eq_true rfl), (Nat.le_of_ble_eq_true rfl)⟩ ⟨(Nat.le_of_ble_eq_true rfl), (Nat.le_of_ble_eq_true rfl)⟩ dX8_wordHere_89 (fun b_23 G_22 h => ?_)
                refine aw_if_eq (tgt := 98) F dX8_wordHere_92 (by decide) (fun c_24 => ?_) (fun c_24 => ?_)
                · replace h := h.1 (bI_2 c_24)
                  refine aw_al_n F 0 dX8_wordHere_98 rfl rfl ?_
                  refine aw_ldcSw F 58 (by decide) rfl dX8_wordHere_99 ?_
                  refine aw_cVb (stk := []) F T.room [.ref (E.2.2.2.1 58)] (k_X8_isWord hP (by decide) h) mv_X8_isWord w_1666 cf8 (lo_s rfl) (hP _ rfl) rfl (by decide) rfl rfl (Nat.le_of_ble_eq_true rfl) ⟨(Nat.le_of_ble_eq_true rfl), (Nat.le_of_ble_eq_true rfl)⟩ ⟨(Nat.le_of_ble_eq_true rfl), (Nat.le_of_ble_eq_true rfl)⟩ dX8_wordHere_102 (fun b_26 G_25 h => ?_)
                  refine aw_if_eq (tgt := 113) F dX8_wordHere_105 (by decide) (fun c_27 => ?_) (fun c_27 => ?_)
                  · replace h := h.1 (bI_2 c_27)
                    refine aw_ic F dX8_wordHere_113 ic_m1 ?_
                    exact aw_iret F T (Nat.le_of_ble_eq_true rfl) (Nat.le_of_ble_eq_true rfl) ⟨_, rfl, h⟩ dX8_wordHere_114
                  · replace h := h.2 (bI_1 c_27)
                    refine aw_bi F dX8_wordHere_108 bi_8 ?_
                    refine aw_go (tgt := 114) F dX8_wordHere_110 (by decide) ?_
                    exact aw_iret F T (Nat.le_of_ble_eq_true rfl) (Nat.le_of_ble_eq_true rfl) ⟨_, rfl, h⟩ dX8_wordHere_114
                · replace h := h.2 (bI_1 c_24)
                  refine aw_bi F dX8_wordHere_95 bi_7 ?_
                  exact aw_iret F T (Nat.le_of_ble_eq_true rfl) (Nat.le_of_ble_eq_true rfl) ⟨_, rfl, h⟩ dX8_wordHere_97
              · replace h := h.2 (bI_1 c_21)
                refine aw_bi F dX8_wordHere_82 bi_6 ?_
                exact aw_iret F T (Nat.le_of_ble_eq_true rfl) (Nat.le_of_ble_eq_true rfl) ⟨_, rfl, h⟩ dX8_wordHere_84
            · replace h := h.2 (bI_1 c_18)
              refine aw_ic F dX8_wordHere_70 ic_5 ?_
              exact aw_iret F T (Nat.le_of_ble_eq_true rfl) (Nat.le_of_ble_eq_true rfl) ⟨_, rfl, h⟩ dX8_wordHere_71
          · replace h := h.2 (bI_1 c_15)
            refine aw_ic F dX8_wordHere_58 ic_4 ?_
            exact aw_iret F T (Nat.le_of_ble_eq_true rfl) (Nat.le_of_ble_eq_true rfl) ⟨_, rfl, h⟩ dX8_wordHere_59
        · replace h := h.2 (bI_1 c_12)
          refine aw_ic F dX8_wordHere_46 ic_3 ?_
          exact aw_iret F T (Nat.le_of_ble_eq_true rfl) (Nat.le_of_ble_eq_true rfl) ⟨_, rfl, h⟩ dX8_wordHere_47
      · replace h := h.2 (bI_1 c_9)
        refine aw_ic F dX8_wordHere_34 ic_2 ?_
        exact aw_iret F T (Nat.le_of_ble_eq_true rfl) (Nat.le_of_ble_eq_true rfl) ⟨_, rfl, h⟩ dX8_wordHere_35
    · replace h := h.2 (bI_1 c_6)
      refine aw_ic F dX8_wordHere_22 ic_1 ?_
      exact aw_iret F T (Nat.le_of_ble_eq_true rfl) (Nat.le_of_ble_eq_true rfl) ⟨_, rfl, h⟩ dX8_wordHere_23
  · replace h := h.2 (bI_1 c_3)
    refine aw_ic F dX8_wordHere_10 ic_0 ?_
    exact aw_iret F T (Nat.le_of_ble_eq_true rfl) (Nat.le_of_ble_eq_true rfl) ⟨_, rfl, h⟩ dX8_wordHere_11
-- X8_valueOf (height 10)
def wp_X8_valueOf (post : Int32 → GH → Prop) (x1 x2 : Int32) (G : GH) : Prop :=
  wp_X8_lay (fun (G_1 : GH) => (((x2.toInt < 0 ∨ 6 < x2.toInt) → wp_X8_halvesOf (fun (r_5 : Int32) (G_4 : GH) => wp_X8_bitsOf (fun (r_7 : Int32) (G_6 : GH) => post r_7 G_6) r_5 G_4) x1 (G_1 24 0 43) (x2 - (6 : Int32)) G_1) ∧ (x2 = (0 : Int32) → post x1 G_1) ∧ (x2 = (1 : Int32) → wp_X8_of1 (fun (r_11 : Int32) (G_10 : GH) => post r_11 G_10) x1 (12 : Int32) G_1) ∧ (x2 = (2 : Int32) → wp_X8_of1 (fun (r_14 : Int32) (G_13 : GH) => wp_X8_bitsOf (fun (r_16 : Int32) (G_15 : GH) => post r_16 G_15) r_14 G_13) x1 (11 : Int32) G_1) ∧ (x2 = (3 : Int32) → wp_X8_of1 (fun (r_19 : Int32) (G_18 : GH) => post r_19 G_18) x1 (13 : Int32) G_1) ∧ (x2 = (4 : Int32) → wp_X8_of1 (fun (r_22 : Int32) (G_21 : GH) => post r_22 G_21) x1 (0 : Int32) G_1) ∧ (x2 = (5 : Int32) → (vp_in x1 13 ∧ post (G_1 24 10 x1.toNatClampNeg) G_1)) ∧ (x2 = (6 : Int32) → (vp_in x1 13 ∧ post (G_1 24 18 x1.toNatClampNeg) G_1)))) G
set_option maxRecDepth 100000 in
set_option maxHeartbeats 4000000 in
theorem k_X8_valueOf {l : Launch} {E : Ev} {P : Nat → Prop} {sd : Nat → Nat → Nat} {G : GH} {post : Int32 → GH → Prop} {x1 x2 : Int32} (hPP : ∀ o, stt o = true → P o) (h : wp_X8_valueOf post x1 x2 G) : Ct l yX8_valueOf cX8_valueOf 3 (some .int) 10 0 0 E P sd G [.ref (sd 24 0), .int x1, .int x2] (pI post) := by
  refine ct_of (own := "MarkFieldModel") (by decide) rfl (Nat.le_of_ble_eq_true rfl) hPP (fun X F T el eP es => ?_)
  subst el; subst eP; subst es
  have hP := F.P
  change AW E X 3 0 [(0, .ref (sdX X 24 0)), (1, .int x1), (2, .int x2)] [] G 0 0
  refine aw_al_n F 0 dX8_valueOf_0 rfl rfl ?_
  refine aw_cVv (stk := []) F T.room [] (k_X8_lay hP h) mv_X8_lay w_1301 cf8 (lo_s rfl) (hP _ rfl) rfl (by decide) rfl rfl (Nat.le_of_ble_eq_true rfl) ⟨(Nat.le_of_ble_eq_true rfl), (Nat.le_of_ble_eq_true rfl)⟩ ⟨(Nat.le_of_ble_eq_true rfl), (Nat.le_of_ble_eq_true rfl)⟩ dX8_valueOf_1 (fun G_1 h => ?_)
  refine aw_il_n F 2 dX8_valueOf_4 rfl rfl ?_
  by_cases c_3 : x2.toInt < 0 ∨ 6 < x2.toInt
  · replace h := h.1 c_3
    refine aw_tabO (tgt := 98) F dX8_valueOf_5 c_3 (by decide) ?_
    refine aw_al_n F 0 dX8_valueOf_98 rfl rfl ?_
    refine aw_il_n F 1 dX8_valueOf_99 rfl rfl ?_
    refine aw_al_n F 0 dX8_valueOf_100 rfl rfl ?_
    refine gf8_43 F (lo_s rfl) (hP _ rfl) rfl w_1203 dX8_valueOf_101 ?_
    refine aw_il_n F 2 dX8_valueOf_104 rfl rfl ?_
    refine aw_bi F dX8_valueOf_105 bi_6 ?_
    refine aw_isub F dX8_valueOf_107 ?_
    refine aw_cVi (stk := []) F T.room [.int x1, .int (G_1 24 0 43), .int (x2 - (6 : Int32))] (k_X8_halvesOf hP h) mv_X8_halvesOf w_1492 cf8 (lo_s rfl) (hP _ rfl) rfl (by decide) rfl rfl (Nat.le_of_ble_eq_true rfl) ⟨(Nat.le_of_ble_eq_true rfl), (Nat.le_of_ble_eq_true rfl)⟩ ⟨(Nat.le_of_ble_eq_true rfl), (Nat.le_of_ble_eq_true rfl)⟩ dX8_valueOf_108 (fun r_5 G_4 h => ?_)
    refine aw_cSi (stk := []) F T.room [.int r_5] (k_X8_bitsOf hP h) ms_X8_bitsOf w_1408 rfl rfl (Nat.le_of_ble_eq_true rfl) ⟨(Nat.le_of_ble_eq_true rfl), (Nat.le_of_ble_eq_true rfl)⟩ ⟨(Nat.le_of_ble_eq_true rfl), (Nat.le_of_ble_eq_true rfl)⟩ dX8_valueOf_111 (fun r_7 G_6 h => ?_)
    exact aw_iret F T (Nat.le_of_ble_eq_true rfl) (Nat.le_of_ble_eq_true rfl) ⟨_, rfl, h⟩ dX8_valueOf_114
  · replace h := h.2
    by_cases c_8 : x2 = (0 : Int32)
    · replace h := h.1 c_8
      refine aw_tabI (tgt := 48) F dX8_valueOf_5 (by rw [c_8]; decide) (by rw [c_8]; decide) (by rw [c_8]; rfl) (by decide) ?_
      refine aw_il_n F 1 dX8_valueOf_48 rfl rfl ?_
      exact aw_iret F T (Nat.le_of_ble_eq_true rfl) (Nat.le_of_ble_eq_true rfl) ⟨_, rfl, h⟩ dX8_valueOf_49
    replace h := h.2
    by_cases c_9 : x2 = (1 : Int32)
    · replace h := h.1 c_9
      refine aw_tabI (tgt := 50) F dX8_valueOf_5 (by rw [c_9]; decide) (by rw [c_9]; decide) (by rw [c_9]; rfl) (by decide) ?_
      refine aw_al_n F 0 dX8_valueOf_50 rfl rfl ?_
      refine aw_il_n F 1 dX8_valueOf_51 rfl rfl ?_
      refine aw_bi F dX8_valueOf_52 bi_12 ?_
      refine aw_cVi (stk := []) F T.room [.int x1, .int (12 : Int32)] (k_X8_of1 hP h) mv_X8_of1 w_1313 cf8 (lo_s rfl) (hP _ rfl) rfl (by decide) rfl rfl (Nat.le_of_ble_eq_true rfl) ⟨(Nat.le_of_ble_eq_true rfl), (Nat.le_of_ble_eq_true rfl)⟩ ⟨(Nat.le_of_ble_eq_true rfl), (Nat.le_of_ble_eq_true rfl)⟩ dX8_valueOf_54 (fun r_11 G_10 h => ?_)
      exact aw_iret F T (Nat.le_of_ble_eq_true rfl) (Nat.le_of_ble_eq_true rfl) ⟨_, rfl, h⟩ dX8_valueOf_57
    replace h := h.2
    by_cases c_12 : x2 = (2 : Int32)
    · replace h := h.1 c_12
      refine aw_tabI (tgt := 58) F dX8_valueOf_5 (by rw [c_12]; decide) (by rw [c_12]; decide) (by rw [c_12]; rfl) (by decide) ?_
      refine aw_al_n F 0 dX8_valueOf_58 rfl rfl ?_
      refine aw_il_n F 1 dX8_valueOf_59 rfl rfl ?_
      refine aw_bi F dX8_valueOf_60 bi_11 ?_
      refine aw_cVi (stk := []) F T.room [.int x1, .int (11 : Int32)] (k_X8_of1 hP h) mv_X8_of1 w_1313 cf8 (lo_s rfl) (hP _ rfl) rfl (by decide) rfl rfl (Nat.le_of_ble_eq_true rfl) ⟨(Nat.le_of_ble_eq_true rfl), (Nat.le_of_ble_eq_true rfl)⟩ ⟨(Nat.le_of_ble_eq_true rfl), (Nat.le_of_ble_eq_true rfl)⟩ dX8_valueOf_62 (fun r_14 G_13 h => ?_)
      refine aw_cSi (stk := []) F T.room [.int r_14] (k_X8_bitsOf hP h) ms_X8_bitsOf w_1408 rfl rfl (Nat.le_of_ble_eq_true rfl) ⟨(Nat.le_of_ble_eq_true rfl), (Nat.le_of_ble_eq_true rfl)⟩ ⟨(Nat.le_of_ble_eq_true rfl), (Nat.le_of_ble_eq_true rfl)⟩ dX8_valueOf_65 (fun r_16 G_15 h => ?_)
      exact aw_iret F T (Nat.le_of_ble_eq_true rfl) (Nat.le_of_ble_eq_true rfl) ⟨_, rfl, h⟩ dX8_valueOf_68
    replace h := h.2
    by_cases c_17 : x2 = (3 : Int32)
    · replace h := h.1 c_17
      refine aw_tabI (tgt := 69) F dX8_valueOf_5 (by rw [c_17]; decide) (by rw [c_17]; decide) (by rw [c_17]; rfl) (by decide) ?_
      refine aw_al_n F 0 dX8_valueOf_69 rfl rfl ?_
      refine aw_il_n F 1 dX8_valueOf_70 rfl rfl ?_
      refine aw_bi F dX8_valueOf_71 bi_13 ?_
      refine aw_cVi (stk := []) F T.room [.int x1, .int (13 : Int32)] (k_X8_of1 hP h) mv_X8_of1 w_1313 cf8 (lo_s rfl) (hP _ rfl) rfl (by decide) rfl rfl (Nat.le_of_ble_eq_true rfl) ⟨(Nat.le_of_ble_eq_true rfl), (Nat.le_of_ble_eq_true rfl)⟩ ⟨(Nat.le_of_ble_eq_true rfl), (Nat.le_of_ble_eq_true rfl)⟩ dX8_valueOf_73 (fun r_19 G_18 h => ?_)
      exact aw_iret F T (Nat.le_of_ble_eq_true rfl) (Nat.le_of_ble_eq_true rfl) ⟨_, rfl, h⟩ dX8_valueOf_76
    replace h := h.2
    by_cases c_20 : x2 = (4 : Int32)
    · replace h := h.1 c_20
      refine aw_tabI (tgt := 77) F dX8_valueOf_5 (by rw [c_20]; decide) (by rw [c_20]; decide) (by rw [c_20]; rfl) (by decide) ?_
      refine aw_al_n F 0 dX8_valueOf_77 rfl rfl ?_
      refine aw_il_n F 1 dX8_valueOf_78 rfl rfl ?_
      refine aw_ic F dX8_valueOf_79 ic_0 ?_
      refine aw_cVi (stk := []) F T.room [.int x1, .int (0 : Int32)] (k_X8_of1 hP h) mv_X8_of1 w_1313 cf8 (lo_s rfl) (hP _ rfl) rfl (by decide) rfl rfl (Nat.le_of_ble_eq_true rfl) ⟨(Nat.le_of_ble_eq_true rfl), (Nat.le_of_ble_eq_true rfl)⟩ ⟨(Nat.le_of_ble_eq_true rfl), (Nat.le_of_ble_eq_true rfl)⟩ dX8_valueOf_80 (fun r_22 G_21 h => ?_)
      exact aw_iret F T (Nat.le_of_ble_eq_true rfl) (Nat.le_of_ble_eq_true rfl) ⟨_, rfl, h⟩ dX8_valueOf_83
    replace h := h.2
    by_cases c_23 : x2 = (5 : Int32)
    · replace h := h.1 c_23
      refine aw_tabI (tgt := 84) F dX8_valueOf_5 (by rw [c_23]; decide) (by rw [c_23]; decide) (by rw [c_23]; rfl) (by decide) ?_
      refine aw_al_n F 0 dX8_valueOf_84 rfl rfl ?_
      refine gr8_9 F (lo_s rfl) (hP _ rfl) rfl w_1169 (hP _ rfl) dX8_valueOf_85 ?_
      refine aw_il_n F 1 dX8_valueOf_88 rfl rfl ?_
      refine aw_iald F 24 10 (lo_s rfl) (hP _ rfl) rfl h.1 dX8_valueOf_89 ?_
      replace h := h.2
      exact aw_iret F T (Nat.le_of_ble_eq_true rfl) (Nat.le_of_ble_eq_true rfl) ⟨_, rfl, h⟩ dX8_valueOf_90
    replace h := h.2
    by_cases c_24 : x2 = (6 : Int32)
    · replace h := h c_24
      refine aw_tabI (tgt := 91) F dX8_valueOf_5 (by rw [c_24]; decide) (by rw [c_24]; decide) (by rw [c_24]; rfl) (by decide) ?_
      refine aw_al_n F 0 dX8_valueOf_91 rfl rfl ?_
      refine gr8_17 F (lo_s rfl) (hP _ rfl) rfl w_1177 (hP _ rfl) dX8_valueOf_92 ?_
      refine aw_il_n F 1 dX8_valueOf_95 rfl rfl ?_
      refine aw_iald F 24 18 (lo_s rfl) (hP _ rfl) rfl h.1 dX8_valueOf_96 ?_
      replace h := h.2
      exact aw_iret F T (Nat.le_of_ble_eq_true rfl) (Nat.le_of_ble_eq_true rfl) ⟨_, rfl, h⟩ dX8_valueOf_97
    exfalso
    have qc_8 := ne_ti c_8 (show (0 : Int32).toInt = 0 by decide)
    have qc_9 := ne_ti c_9 (show (1 : Int32).toInt = 1 by decide)
    have qc_12 := ne_ti c_12 (show (2 : Int32).toInt = 2 by decide)
    have qc_17 := ne_ti c_17 (show (3 : Int32).toInt = 3 by decide)
    have qc_20 := ne_ti c_20 (show (4 : Int32).toInt = 4 by decide)
    have qc_23 := ne_ti c_23 (show (5 : Int32).toInt = 5 by decide)
    have qc_24 := ne_ti c_24 (show (6 : Int32).toInt = 6 by decide)
    omega
-- X8_readValue (height 11)
def j_X8_readValue_15 (post : Int32 → GH → Prop) (G : GH) : Prop :=
  wp_X8_number (fun (r_3 : Int32) (G_2 : GH) => post r_3 G_2) (0 : Int32) (9999 : Int32) G
def j_X8_readValue_58 (post : Int32 → GH → Prop) (G : GH) : Prop :=
  post (0 : Int32) G
def j_X8_readValue_39 (post : Int32 → GH → Prop) (v1 : Int32) (G : GH) : Prop :=
  wp_X8_pass (fun (G_8 : GH) => (((G_8 24 0 38) = 0 → (((G_8 24 0 42) = (-1 : Int32) → j_X8_readValue_58 post G_8) ∧ (¬ (G_8 24 0 42) = (-1 : Int32) → wp_X8_valueOf (fun (r_13 : Int32) (G_12 : GH) => post r_13 G_12) (G_8 24 0 42) v1 G_8))) ∧ (¬ (G_8 24 0 38) = 0 → j_X8_readValue_58 post G_8))) G
def wp_X8_readValue (post : Int32 → GH → Prop) (G : GH) : Prop :=
  (((G 24 0 38) = 0 → (((G 24 0 35) = (2 : Int32) → j_X8_readValue_15 post G) ∧ (¬ (G 24 0 35) = (2 : Int32) → wp_X8_wordHere (fun (r_6 : Int32) (G_5 : GH) => ((r_6 = (-1 : Int32) → wp_X8_wrong (fun (G_14 : GH) => j_X8_readValue_39 post r_6 G_14) (1 : Int32) G_5) ∧ (¬ r_6 = (-1 : Int32) → j_X8_readValue_39 post r_6 G_5))) G))) ∧ (¬ (G 24 0 38) = 0 → j_X8_readValue_15 post G))
set_option maxRecDepth 100000 in
set_option maxHeartbeats 4000000 in
theorem kj_X8_readValue_15 {E : Ev} {X : Cx} {post : Int32 → GH → Prop} {G : GH} (F : Fx E X "MarkFieldModel" cX8_readValue 2) (T : RT E X 11 0 0 (some .int) (pI post)) (h : j_X8_readValue_15 post G) : AW E X 2 15 [(0, .ref (sdX X 24 0))] [] G 0 0 := by
  have hP := F.P
  refine aw_al_n F 0 dX8_readValue_15 rfl rfl ?_
  refine aw_ic F dX8_readValue_16 ic_0 ?_
  refine aw_si F dX8_readValue_17 si_9999 ?_
  refine aw_cVi (stk := []) F T.room [.int (0 : Int32), .int (9999 : Int32)] (k_X8_number hP h) mv_X8_number w_1680 cf8 (lo_s rfl) (hP _ rfl) rfl (by decide) rfl rfl (Nat.le_of_ble_eq_true rfl) ⟨(Nat.le_of_ble_eq_true rfl), (Nat.le_of_ble_eq_true rfl)⟩ ⟨(Nat.le_of_ble_eq_true rfl), (Nat.le_of_ble_eq_true rfl)⟩ dX8_readValue_20 (fun r_3 G_2 h => ?_)
  exact aw_iret F T (Nat.le_of_ble_eq_true rfl) (Nat.le_of_ble_eq_true rfl) ⟨_, rfl, h⟩ dX8_readValue_23
set_option maxRecDepth 100000 in
set_option maxHeartbeats 4000000 in
theorem kj_X8_readValue_58 {E : Ev} {X : Cx} {post : Int32 → GH → Prop} {G : GH} (F : Fx E X "MarkFieldModel" cX8_readValue 2) (T : RT E X 11 0 0 (some .int) (pI post)) (h : j_X8_readValue_58 post G) : AW E X 2 58 [] [] G 0 0 := by
  have hP := F.P
  refine aw_ic F dX8_readValue_58 ic_0 ?_
  refine aw_go (tgt := 71) F dX8_readValue_59 (by decide) ?_
  exact aw_iret F T (Nat.le_of_ble_eq_true rfl) (Nat.le_of_ble_eq_true rfl) ⟨_, rfl, h⟩ dX8_readValue_71
set_option maxRecDepth 100000 in
set_option maxHeartbeats 4000000 in
theorem kj_X8_readValue_39 {E : Ev} {X : Cx} {post : Int32 → GH → Prop} {v1 : Int32} {G : GH} (F : Fx E X "MarkFieldModel" cX8_readValue 2) (T : RT E X 11 0 0 (some .int) (pI post)) (h : j_X8_readValue_39 post v1 G) : AW E X 2 39 [(0, .ref (sdX X 24 0)), (1, .int v1)] [] G 0 0 := by
  have hP := F.P
  refine aw_al_n F 0 dX8_readValue_39 rfl rfl ?_
  refine aw_cVv (stk := []) F T.room [] (k_X8_pass hP h) mv_X8_pass w_1676 cf8 (lo_s rfl) (hP _ rfl) rfl (by decide) rfl rfl (Nat.le_of_ble_eq_true rfl) ⟨(Nat.le_of_ble_eq_true rfl), (Nat.le_of_ble_eq_true rfl)⟩ ⟨(Nat.le_of_ble_eq_true rfl), (Nat.le_of_ble_eq_true rfl)⟩ dX8_readValue_40 (fun G_8 h => ?_)
  refine aw_al_n F 0 dX8_readValue_43 rfl rfl ?_
  refine gf8_38 F (lo_s rfl) (hP _ rfl) rfl w_1198 dX8_readValue_44 ?_
  refine aw_if_ne (tgt := 58) F dX8_readValue_47 (by decide) (fun c_10 => ?_) (fun c_10 => ?_)
  · replace h := h.2 c_10
    refine aw_sub [] rfl ?_
    exact kj_X8_readValue_58 F T h
  · replace h := h.1 c_10
    refine aw_al_n F 0 dX8_readValue_50 rfl rfl ?_
    refine gf8_42 F (lo_s rfl) (hP _ rfl) rfl w_1202 dX8_readValue_51 ?_
    refine aw_ic F dX8_readValue_54 ic_m1 ?_
    refine aw_icmp_ne (tgt := 62) F dX8_readValue_55 (by decide) (fun c_11 => ?_) (fun c_11 => ?_)
    · replace h := h.2 c_11
      refine aw_al_n F 0 dX8_readValue_62 rfl rfl ?_
      refine aw_al_n F 0 dX8_readValue_63 rfl rfl ?_
      refine gf8_42 F (lo_s rfl) (hP _ rfl) rfl w_1202 dX8_readValue_64 ?_
      refine aw_il_n F 1 dX8_readValue_67 rfl rfl ?_
      refine aw_cVi (stk := []) F T.room [.int (G_8 24 0 42), .int v1] (k_X8_valueOf hP h) mv_X8_valueOf w_1793 cf8 (lo_s rfl) (hP _ rfl) rfl (by decide) rfl rfl (Nat.le_of_ble_eq_true rfl) ⟨(Nat.le_of_ble_eq_true rfl), (Nat.le_of_ble_eq_true rfl)⟩ ⟨(Nat.le_of_ble_eq_true rfl), (Nat.le_of_ble_eq_true rfl)⟩ dX8_readValue_68 (fun r_13 G_12 h => ?_)
      exact aw_iret F T (Nat.le_of_ble_eq_true rfl) (Nat.le_of_ble_eq_true rfl) ⟨_, rfl, h⟩ dX8_readValue_71
    · replace h := h.1 c_11
      refine aw_sub [] rfl ?_
      exact kj_X8_readValue_58 F T h
set_option maxRecDepth 100000 in
set_option maxHeartbeats 4000000 in
theorem k_X8_readValue {l : Launch} {E : Ev} {P : Nat → Prop} {sd : Nat → Nat → Nat} {G : GH} {post : Int32 → GH → Prop} (hPP : ∀ o, stt o = true → P o) (h : wp_X8_readValue post G) : Ct l yX8_readValue cX8_readValue 2 (some .int) 11 0 0 E P sd G [.ref (sd 24 0)] (pI post) := by
  refine ct_of (own := "MarkFieldModel") (by decide) rfl (Nat.le_of_ble_eq_true rfl) hPP (fun X F T el eP es => ?_)
  subst el; subst eP; subst es
  have hP := F.P
  change AW E X 2 0 [(0, .ref (sdX X 24 0))] [] G 0 0
  refine aw_al_n F 0 dX8_readValue_0 rfl rfl ?_
  refine gf8_38 F (lo_s rfl) (hP _ rfl) rfl w_1198 dX8_readValue_1 ?_
  refine aw_if_ne (tgt := 15) F dX8_readValue_4 (by decide) (fun c_1 => ?_) (fun c_1 => ?_)
  · replace h := h.2 c_1
    exact kj_X8_readValue_15 F T h
  · replace h := h.1 c_1
    refine aw_al_n F 0 dX8_readValue_7 rfl rfl ?_
    refine gf8_35 F (lo_s rfl) (hP _ rfl) rfl w_1195 dX8_readValue_8 ?_
    refine aw_ic F dX8_readValue_11 ic_2 ?_
    refine aw_icmp_ne (tgt := 24) F dX8_readValue_12 (by decide) (fun c_4 => ?_) (fun c_4 => ?_)
    · replace h := h.2 c_4
      refine aw_al_n F 0 dX8_readValue_24 rfl rfl ?_
      refine aw_cVi (stk := []) F T.room [] (k_X8_wordHere hP h) mv_X8_wordHere w_1781 cf8 (lo_s rfl) (hP _ rfl) rfl (by decide) rfl rfl (Nat.le_of_ble_eq_true rfl) ⟨(Nat.le_of_ble_eq_true rfl), (Nat.le_of_ble_eq_true rfl)⟩ ⟨(Nat.le_of_ble_eq_true rfl), (Nat.le_of_ble_eq_true rfl)⟩ dX8_readValue_25 (fun r_6 G_5 h => ?_)
      refine aw_is_n (lv1 := [(1, .int r_6), (0, .ref (sdX X 24 0))]) F dX8_readValue_28 rfl (by decide) rfl ?_
      refine aw_il_n F 0 dX8_readValue_29 rfl rfl ?_
      refine aw_ic F dX8_readValue_30 ic_m1 ?_
      refine aw_icmp_ne (tgt := 39) F dX8_readValue_31 (by decide) (fun c_7 => ?_) (fun c_7 => ?_)
      · replace h := h.2 c_7
        refine aw_sub [1, 0] rfl ?_
        exact kj_X8_readValue_39 F T h
      · replace h := h.1 c_7
        refine aw_al_n F 1 dX8_readValue_34 rfl rfl ?_
        refine aw_ic F dX8_readValue_35 ic_1 ?_
        refine aw_cVv (stk := []) F T.room [.int (1 : Int32)] (k_X8_wrong hP h) mv_X8_wrong w_1672 cf8 (lo_s rfl) (hP _ rfl) rfl (by decide) rfl rfl (Nat.le_of_ble_eq_true rfl) ⟨(Nat.le_of_ble_eq_true rfl), (Nat.le_of_ble_eq_true rfl)⟩ ⟨(Nat.le_of_ble_eq_true rfl), (Nat.le_of_ble_eq_true rfl)⟩ dX8_readValue_36 (fun G_14 h => ?_)
        refine aw_sub [1, 0] rfl ?_
        exact kj_X8_readValue_39 F T h
    · replace h := h.1 c_4
      exact kj_X8_readValue_15 F T h
-- X8_goesIn (height 3)
def j_X8_goesIn_21 (post : GH → Prop) (G : GH) : Prop :=
  (∀ G_2 : GH, G_2 = gs G 24 0 (upd (G 24 0) 41 ((G 24 0 41) + (1 : Int32))) → wp_X8_pass (fun (G_3 : GH) => post G_3) G_2)
def wp_X8_goesIn (post : GH → Prop) (G : GH) : Prop :=
  (((G 24 0 38) = 0 → (((G 24 0 41) = (6 : Int32) → wp_X8_wrong (fun (G_6 : GH) => j_X8_goesIn_21 post G_6) (3 : Int32) G) ∧ (¬ (G 24 0 41) = (6 : Int32) → j_X8_goesIn_21 post G))) ∧ (¬ (G 24 0 38) = 0 → j_X8_goesIn_21 post G))
set_option maxRecDepth 100000 in
set_option maxHeartbeats 4000000 in
theorem kj_X8_goesIn_21 {E : Ev} {X : Cx} {post : GH → Prop} {G : GH} (F : Fx E X "MarkFieldModel" cX8_goesIn 1) (T : RT E X 3 0 0 none (pV post)) (h : j_X8_goesIn_21 post G) : AW E X 1 21 [(0, .ref (sdX X 24 0))] [] G 0 0 := by
  have hP := F.P
  refine aw_al_n F 0 dX8_goesIn_21 rfl rfl ?_
  refine aw_dup F dX8_goesIn_22 rfl ?_
  refine gf8_41 F (lo_s rfl) (hP _ rfl) rfl w_1201 dX8_goesIn_23 ?_
  refine aw_ic F dX8_goesIn_26 ic_1 ?_
  refine aw_iadd F dX8_goesIn_27 ?_
  refine pf8_41 F (lo_s rfl) (hP _ rfl) rfl w_1201 dX8_goesIn_28 (fun G_2 eG_2 => ?_)
  replace h := h G_2 eG_2
  refine aw_al_n F 0 dX8_goesIn_31 rfl rfl ?_
  refine aw_cVv (stk := []) F T.room [] (k_X8_pass hP h) mv_X8_pass w_1676 cf8 (lo_s rfl) (hP _ rfl) rfl (by decide) rfl rfl (Nat.le_of_ble_eq_true rfl) ⟨(Nat.le_of_ble_eq_true rfl), (Nat.le_of_ble_eq_true rfl)⟩ ⟨(Nat.le_of_ble_eq_true rfl), (Nat.le_of_ble_eq_true rfl)⟩ dX8_goesIn_32 (fun G_3 h => ?_)
  exact aw_vret F T (Nat.le_of_ble_eq_true rfl) (Nat.le_of_ble_eq_true rfl) ⟨rfl, h⟩ dX8_goesIn_35
set_option maxRecDepth 100000 in
set_option maxHeartbeats 4000000 in
theorem k_X8_goesIn {l : Launch} {E : Ev} {P : Nat → Prop} {sd : Nat → Nat → Nat} {G : GH} {post : GH → Prop} (hPP : ∀ o, stt o = true → P o) (h : wp_X8_goesIn post G) : Ct l yX8_goesIn cX8_goesIn 1 none 3 0 0 E P sd G [.ref (sd 24 0)] (pV post) := by
  refine ct_of (own := "MarkFieldModel") (by decide) rfl (Nat.le_of_ble_eq_true rfl) hPP (fun X F T el eP es => ?_)
  subst el; subst eP; subst es
  have hP := F.P
  change AW E X 1 0 [(0, .ref (sdX X 24 0))] [] G 0 0
  refine aw_al_n F 0 dX8_goesIn_0 rfl rfl ?_
  refine gf8_38 F (lo_s rfl) (hP _ rfl) rfl w_1198 dX8_goesIn_1 ?_
  refine aw_if_ne (tgt := 21) F dX8_goesIn_4 (by decide) (fun c_1 => ?_) (fun c_1 => ?_)
  · replace h := h.2 c_1
    exact kj_X8_goesIn_21 F T h
  · replace h := h.1 c_1
    refine aw_al_n F 0 dX8_goesIn_7 rfl rfl ?_
    refine gf8_41 F (lo_s rfl) (hP _ rfl) rfl w_1201 dX8_goesIn_8 ?_
    refine aw_bi F dX8_goesIn_11 bi_6 ?_
    refine aw_icmp_ne (tgt := 21) F dX8_goesIn_13 (by decide) (fun c_5 => ?_) (fun c_5 => ?_)
    · replace h := h.2 c_5
      exact kj_X8_goesIn_21 F T h
    · replace h := h.1 c_5
      refine aw_al_n F 0 dX8_goesIn_16 rfl rfl ?_
      refine aw_ic F dX8_goesIn_17 ic_3 ?_
      refine aw_cVv (stk := []) F T.room [.int (3 : Int32)] (k_X8_wrong hP h) mv_X8_wrong w_1672 cf8 (lo_s rfl) (hP _ rfl) rfl (by decide) rfl rfl (Nat.le_of_ble_eq_true rfl) ⟨(Nat.le_of_ble_eq_true rfl), (Nat.le_of_ble_eq_true rfl)⟩ ⟨(Nat.le_of_ble_eq_true rfl), (Nat.le_of_ble_eq_true rfl)⟩ dX8_goesIn_18 (fun G_6 h => ?_)
      exact kj_X8_goesIn_21 F T h
