theorem v_1014 : (Jvm.Cond.methodLink "MarkFieldLaw" (169 : Nat) ({ cls := "MarkFieldLaw", name := "ranked", desc := "(LMarkField;III[J)I" } : Jvm.MethodName)) ∈ tb := tb_of (List.mem_of_getElem? (i := 1014) (by decide +kernel)) rfl
theorem v_1015 : (Jvm.Cond.static ({ cls := "MarkFieldLaw", name := "ranked", desc := "(LMarkField;III[J)I" } : Jvm.MethodName)) ∈ tb := tb_of (List.mem_of_getElem? (i := 1015) (by decide +kernel)) rfl
theorem v_1016 : (Jvm.Cond.codeWith ({ cls := "MarkFieldLaw", name := "ranked", desc := "(LMarkField;III[J)I" } : Jvm.MethodName) method_20_code (6 : Nat) (Option.some Jvm.ClassFile.FieldType.int) [((0 : Nat), (12 : Nat), (15 : Nat), (18 : Nat)), ((0 : Nat), (12 : Nat), (19 : Nat), (13 : Nat))]) ∈ tb := tb_of (List.mem_of_getElem? (i := 1016) (by decide +kernel)) rfl
theorem v_1023 : (Jvm.Cond.methodLink "MarkFieldLaw" (172 : Nat) ({ cls := "MarkFieldLaw", name := "file", desc := "(LMarkField;III[J)I" } : Jvm.MethodName)) ∈ tb := tb_of (List.mem_of_getElem? (i := 1023) (by decide +kernel)) rfl
theorem v_1024 : (Jvm.Cond.static ({ cls := "MarkFieldLaw", name := "file", desc := "(LMarkField;III[J)I" } : Jvm.MethodName)) ∈ tb := tb_of (List.mem_of_getElem? (i := 1024) (by decide +kernel)) rfl
theorem v_1025 : (Jvm.Cond.codeWith ({ cls := "MarkFieldLaw", name := "file", desc := "(LMarkField;III[J)I" } : Jvm.MethodName) method_21_code (6 : Nat) (Option.some Jvm.ClassFile.FieldType.int) [((0 : Nat), (12 : Nat), (15 : Nat), (13 : Nat))]) ∈ tb := tb_of (List.mem_of_getElem? (i := 1025) (by decide +kernel)) rfl
theorem v_1532 : (Jvm.Cond.methodLink "MarkFieldLaw" (171 : Nat) ({ cls := "MarkFieldModel", name := "ranked", desc := "(III)I" } : Jvm.MethodName)) ∈ tb := tb_of (List.mem_of_getElem? (i := 1532) (by decide +kernel)) rfl
theorem v_1533 : (Jvm.Cond.instanceMethod ({ cls := "MarkFieldModel", name := "ranked", desc := "(III)I" } : Jvm.MethodName)) ∈ tb := tb_of (List.mem_of_getElem? (i := 1533) (by decide +kernel)) rfl
theorem v_1534 : (Jvm.Cond.selects "MarkFieldModel" ({ cls := "MarkFieldModel", name := "ranked", desc := "(III)I" } : Jvm.MethodName) ({ cls := "MarkFieldModel", name := "ranked", desc := "(III)I" } : Jvm.MethodName)) ∈ tb := tb_of (List.mem_of_getElem? (i := 1534) (by decide +kernel)) rfl
theorem v_1535 : (Jvm.Cond.code ({ cls := "MarkFieldModel", name := "ranked", desc := "(III)I" } : Jvm.MethodName) prog_10_method_66_code (4 : Nat) (Option.some Jvm.ClassFile.FieldType.int)) ∈ tb := tb_of (List.mem_of_getElem? (i := 1535) (by decide +kernel)) rfl
theorem v_1589 : (Jvm.Cond.methodLink "MarkFieldLaw" (174 : Nat) ({ cls := "MarkFieldModel", name := "file", desc := "(III)I" } : Jvm.MethodName)) ∈ tb := tb_of (List.mem_of_getElem? (i := 1589) (by decide +kernel)) rfl
theorem v_1590 : (Jvm.Cond.instanceMethod ({ cls := "MarkFieldModel", name := "file", desc := "(III)I" } : Jvm.MethodName)) ∈ tb := tb_of (List.mem_of_getElem? (i := 1590) (by decide +kernel)) rfl
theorem v_1591 : (Jvm.Cond.selects "MarkFieldModel" ({ cls := "MarkFieldModel", name := "file", desc := "(III)I" } : Jvm.MethodName) ({ cls := "MarkFieldModel", name := "file", desc := "(III)I" } : Jvm.MethodName)) ∈ tb := tb_of (List.mem_of_getElem? (i := 1591) (by decide +kernel)) rfl
theorem v_1592 : (Jvm.Cond.code ({ cls := "MarkFieldModel", name := "file", desc := "(III)I" } : Jvm.MethodName) prog_10_method_79_code (4 : Nat) (Option.some Jvm.ClassFile.FieldType.int)) ∈ tb := tb_of (List.mem_of_getElem? (i := 1592) (by decide +kernel)) rfl
theorem dL_law_1482 : decode cL_law 1482 = .ok (.aload_n 1, 1) := by decide +kernel
theorem dL_law_1483 : decode cL_law 1483 = .ok (.aload_n 0, 1) := by decide +kernel
theorem dL_law_1484 : decode cL_law 1484 = .ok (.iload 4, 2) := by decide +kernel
theorem dL_law_1486 : decode cL_law 1486 = .ok (.iconst 1, 1) := by decide +kernel
theorem dL_law_1487 : decode cL_law 1487 = .ok (.iadd, 1) := by decide +kernel
theorem dL_law_1488 : decode cL_law 1488 = .ok (.iaload, 1) := by decide +kernel
theorem dL_law_1489 : decode cL_law 1489 = .ok (.aload_n 0, 1) := by decide +kernel
theorem dL_law_1490 : decode cL_law 1490 = .ok (.iload 4, 2) := by decide +kernel
theorem dL_law_1492 : decode cL_law 1492 = .ok (.iconst 2, 1) := by decide +kernel
theorem dL_law_1493 : decode cL_law 1493 = .ok (.iadd, 1) := by decide +kernel
theorem dL_law_1494 : decode cL_law 1494 = .ok (.iaload, 1) := by decide +kernel
theorem dL_law_1495 : decode cL_law 1495 = .ok (.aload_n 0, 1) := by decide +kernel
theorem dL_law_1496 : decode cL_law 1496 = .ok (.iload 4, 2) := by decide +kernel
theorem dL_law_1498 : decode cL_law 1498 = .ok (.iconst 3, 1) := by decide +kernel
theorem dL_law_1499 : decode cL_law 1499 = .ok (.iadd, 1) := by decide +kernel
theorem dL_law_1500 : decode cL_law 1500 = .ok (.iaload, 1) := by decide +kernel
theorem dL_law_1501 : decode cL_law 1501 = .ok (.aload_n 3, 1) := by decide +kernel
theorem dL_law_1502 : decode cL_law 1502 = .ok (.invokestatic 169, 3) := by decide +kernel
theorem dL_law_1505 : decode cL_law 1505 = .ok (.istore 5, 2) := by decide +kernel
theorem dL_law_1507 : decode cL_law 1507 = .ok (.aload_n 2, 1) := by decide +kernel
theorem dL_law_1508 : decode cL_law 1508 = .ok (.aload_n 0, 1) := by decide +kernel
theorem dL_law_1509 : decode cL_law 1509 = .ok (.iload 4, 2) := by decide +kernel
theorem dL_law_1511 : decode cL_law 1511 = .ok (.iconst 1, 1) := by decide +kernel
theorem dL_law_1512 : decode cL_law 1512 = .ok (.iadd, 1) := by decide +kernel
theorem dL_law_1513 : decode cL_law 1513 = .ok (.iaload, 1) := by decide +kernel
theorem dL_law_1514 : decode cL_law 1514 = .ok (.aload_n 0, 1) := by decide +kernel
theorem dL_law_1515 : decode cL_law 1515 = .ok (.iload 4, 2) := by decide +kernel
theorem dL_law_1517 : decode cL_law 1517 = .ok (.iconst 2, 1) := by decide +kernel
theorem dL_law_1518 : decode cL_law 1518 = .ok (.iadd, 1) := by decide +kernel
theorem dL_law_1519 : decode cL_law 1519 = .ok (.iaload, 1) := by decide +kernel
theorem dL_law_1520 : decode cL_law 1520 = .ok (.aload_n 0, 1) := by decide +kernel
theorem dL_law_1521 : decode cL_law 1521 = .ok (.iload 4, 2) := by decide +kernel
theorem dL_law_1523 : decode cL_law 1523 = .ok (.iconst 3, 1) := by decide +kernel
theorem dL_law_1524 : decode cL_law 1524 = .ok (.iadd, 1) := by decide +kernel
theorem dL_law_1525 : decode cL_law 1525 = .ok (.iaload, 1) := by decide +kernel
theorem dL_law_1526 : decode cL_law 1526 = .ok (.invokevirtual 171, 3) := by decide +kernel
theorem dL_law_1529 : decode cL_law 1529 = .ok (.istore 6, 2) := by decide +kernel
theorem dL_law_1531 : decode cL_law 1531 = .ok (.aload_n 2, 1) := by decide +kernel
theorem dL_law_1532 : decode cL_law 1532 = .ok (.invokevirtual 109, 3) := by decide +kernel
theorem dL_law_1535 : decode cL_law 1535 = .ok (.iload 5, 2) := by decide +kernel
theorem dL_law_1537 : decode cL_law 1537 = .ok (.if_icmp .eq 5, 3) := by decide +kernel
theorem dL_law_1542 : decode cL_law 1542 = .ok (.iload 5, 2) := by decide +kernel
theorem dL_law_1544 : decode cL_law 1544 = .ok (.ifCond .ne 15, 3) := by decide +kernel
theorem dL_law_1547 : decode cL_law 1547 = .ok (.aload_n 3, 1) := by decide +kernel
theorem dL_law_1548 : decode cL_law 1548 = .ok (.iconst 0, 1) := by decide +kernel
theorem dL_law_1549 : decode cL_law 1549 = .ok (.laload, 1) := by decide +kernel
theorem dL_law_1550 : decode cL_law 1550 = .ok (.iload 6, 2) := by decide +kernel
theorem dL_law_1552 : decode cL_law 1552 = .ok (.i2l, 1) := by decide +kernel
theorem dL_law_1553 : decode cL_law 1553 = .ok (.lcmp, 1) := by decide +kernel
theorem dL_law_1554 : decode cL_law 1554 = .ok (.ifCond .eq 5, 3) := by decide +kernel
theorem dL_law_1559 : decode cL_law 1559 = .ok (.goto 610, 3) := by decide +kernel
theorem dL_law_1562 : decode cL_law 1562 = .ok (.aload_n 1, 1) := by decide +kernel
theorem dL_law_1563 : decode cL_law 1563 = .ok (.aload_n 0, 1) := by decide +kernel
theorem dL_law_1564 : decode cL_law 1564 = .ok (.iload 4, 2) := by decide +kernel
theorem dL_law_1566 : decode cL_law 1566 = .ok (.iconst 1, 1) := by decide +kernel
theorem dL_law_1567 : decode cL_law 1567 = .ok (.iadd, 1) := by decide +kernel
theorem dL_law_1568 : decode cL_law 1568 = .ok (.iaload, 1) := by decide +kernel
theorem dL_law_1569 : decode cL_law 1569 = .ok (.aload_n 0, 1) := by decide +kernel
theorem dL_law_1570 : decode cL_law 1570 = .ok (.iload 4, 2) := by decide +kernel
theorem dL_law_1572 : decode cL_law 1572 = .ok (.iconst 2, 1) := by decide +kernel
theorem dL_law_1573 : decode cL_law 1573 = .ok (.iadd, 1) := by decide +kernel
theorem dL_law_1574 : decode cL_law 1574 = .ok (.iaload, 1) := by decide +kernel
theorem dL_law_1575 : decode cL_law 1575 = .ok (.aload_n 0, 1) := by decide +kernel
theorem dL_law_1576 : decode cL_law 1576 = .ok (.iload 4, 2) := by decide +kernel
theorem dL_law_1578 : decode cL_law 1578 = .ok (.iconst 3, 1) := by decide +kernel
theorem dL_law_1579 : decode cL_law 1579 = .ok (.iadd, 1) := by decide +kernel
theorem dL_law_1580 : decode cL_law 1580 = .ok (.iaload, 1) := by decide +kernel
theorem dL_law_1581 : decode cL_law 1581 = .ok (.aload_n 3, 1) := by decide +kernel
theorem dL_law_1582 : decode cL_law 1582 = .ok (.invokestatic 172, 3) := by decide +kernel
theorem dL_law_1585 : decode cL_law 1585 = .ok (.istore 5, 2) := by decide +kernel
theorem dL_law_1587 : decode cL_law 1587 = .ok (.aload_n 2, 1) := by decide +kernel
theorem dL_law_1588 : decode cL_law 1588 = .ok (.aload_n 0, 1) := by decide +kernel
theorem dL_law_1589 : decode cL_law 1589 = .ok (.iload 4, 2) := by decide +kernel
theorem dL_law_1591 : decode cL_law 1591 = .ok (.iconst 1, 1) := by decide +kernel
theorem dL_law_1592 : decode cL_law 1592 = .ok (.iadd, 1) := by decide +kernel
theorem dL_law_1593 : decode cL_law 1593 = .ok (.iaload, 1) := by decide +kernel
theorem dL_law_1594 : decode cL_law 1594 = .ok (.aload_n 0, 1) := by decide +kernel
theorem dL_law_1595 : decode cL_law 1595 = .ok (.iload 4, 2) := by decide +kernel
theorem dL_law_1597 : decode cL_law 1597 = .ok (.iconst 2, 1) := by decide +kernel
theorem dL_law_1598 : decode cL_law 1598 = .ok (.iadd, 1) := by decide +kernel
theorem dL_law_1599 : decode cL_law 1599 = .ok (.iaload, 1) := by decide +kernel
theorem dL_law_1600 : decode cL_law 1600 = .ok (.aload_n 0, 1) := by decide +kernel
theorem dL_law_1601 : decode cL_law 1601 = .ok (.iload 4, 2) := by decide +kernel
theorem dL_law_1603 : decode cL_law 1603 = .ok (.iconst 3, 1) := by decide +kernel
theorem dL_law_1604 : decode cL_law 1604 = .ok (.iadd, 1) := by decide +kernel
theorem dL_law_1605 : decode cL_law 1605 = .ok (.iaload, 1) := by decide +kernel
theorem dL_law_1606 : decode cL_law 1606 = .ok (.invokevirtual 174, 3) := by decide +kernel
theorem dL_law_1609 : decode cL_law 1609 = .ok (.istore 6, 2) := by decide +kernel
theorem dL_law_1611 : decode cL_law 1611 = .ok (.aload_n 2, 1) := by decide +kernel
theorem dL_law_1612 : decode cL_law 1612 = .ok (.invokevirtual 109, 3) := by decide +kernel
theorem dL_law_1615 : decode cL_law 1615 = .ok (.iload 5, 2) := by decide +kernel
theorem dL_law_1617 : decode cL_law 1617 = .ok (.if_icmp .eq 5, 3) := by decide +kernel
theorem dL_law_1622 : decode cL_law 1622 = .ok (.iload 5, 2) := by decide +kernel
theorem dL_law_1624 : decode cL_law 1624 = .ok (.ifCond .ne 15, 3) := by decide +kernel
theorem dL_law_1627 : decode cL_law 1627 = .ok (.aload_n 3, 1) := by decide +kernel
theorem dL_law_1628 : decode cL_law 1628 = .ok (.iconst 0, 1) := by decide +kernel
theorem dL_law_1629 : decode cL_law 1629 = .ok (.laload, 1) := by decide +kernel
theorem dL_law_1630 : decode cL_law 1630 = .ok (.iload 6, 2) := by decide +kernel
theorem dL_law_1632 : decode cL_law 1632 = .ok (.i2l, 1) := by decide +kernel
theorem dL_law_1633 : decode cL_law 1633 = .ok (.lcmp, 1) := by decide +kernel
theorem dL_law_1634 : decode cL_law 1634 = .ok (.ifCond .eq 5, 3) := by decide +kernel
theorem dL_law_1639 : decode cL_law 1639 = .ok (.goto 530, 3) := by decide +kernel
/-! ===== the law's cases ranked file ===== -/
theorem mv_L8_ranked : MV yX8_ranked cX8_ranked 4 (some .int) 3 := ⟨⟨v_1535, v_10, by decide, by decide, by decide +kernel⟩, v_1533, v_1534⟩
theorem x_file {q : Par} {a b c : Int} {j : Nat} (h : o_file q a b c = .inl j) : j = 1 := by
  unfold o_file at h
  repeat' split at h
  all_goals first | exact (Sum.inl.inj h).symm | exact absurd h (fun e => by cases e)
theorem mv_L8_file : MV yX8_file cX8_file 4 (some .int) 3 := ⟨⟨v_1592, v_10, by decide, by decide, by decide +kernel⟩, v_1590, v_1591⟩
section
variable {E : Ev} {X : Cx} {G : GH} {n1 n2 b L : Nat} {xs : Nat → Int32} {q : Par}
theorem la_19 (Z : LwF E X b L xs) {i : Nat} (hi : i + 6 ≤ L) (hn1 : n1 + 13 ≤ 600000) (hn2 : n2 + 708 ≤ 7000000) (hC : IC q G) (hR : IR q G) (kk : ∀ G2, Inv G2 → AW E X 7 2169 (lvL X b i) [] G2 (n1 + 13) (n2 + 708)) : AW E X 7 1482 (lvL X b i) [] G n1 n2 := by
  obtain ⟨F, hRm, hl0, hPe, hX, hL⟩ := id Z
  have hPP := Z.pp
  refine aw_al_n F 3 dL_law_1482 rfl rfl ?_
  refine la_arg F hX (k := 1) hi hL (by decide) 4 0 rfl rfl (kv := (1 : Int32)) (by decide) dL_law_1483 dL_law_1484 dL_law_1486 (by decide) dL_law_1487 dL_law_1488 rfl ?_
  refine la_arg F hX (k := 2) hi hL (by decide) 4 0 rfl rfl (kv := (2 : Int32)) (by decide) dL_law_1489 dL_law_1490 dL_law_1492 (by decide) dL_law_1493 dL_law_1494 rfl ?_
  refine la_arg F hX (k := 3) hi hL (by decide) 4 0 rfl rfl (kv := (3 : Int32)) (by decide) dL_law_1495 dL_law_1496 dL_law_1498 (by decide) dL_law_1499 dL_law_1500 rfl ?_
  refine aw_al_n F 1 dL_law_1501 rfl rfl ?_
  have hI := cI_ranked (q := q) (G := G) (i32_self (xs (i + 1))) (i32_self (xs (i + 2))) (i32_self (xs (i + 3))) hC
  simp only [zI_self] at hI
  have hW : CtW (lX X) yL_ranked cL_ranked 6 [(0, 12, 15, 18), (0, 12, 19, 13)] 8 3 18 E (PX X) (sdX X) G [.ref (sdX X 0 0), .int (xs (i + 1)), .int (xs (i + 2)), .int (xs (i + 3)), .ref (sdX X 25 1)] (pI (LQ kc2 (o_ranked q (xs (i + 1)).toInt (xs (i + 2)).toInt (xs (i + 3)).toInt) q G)) := by
    refine kL_ranked hPP (k_X7_ranked hl0 hPP hI) (fun r G1 h => wq_r h) (fun i2 G1 hi2 h => ?_)
    exact ⟨fun e0 => by subst e0; exact wq_x rfl (by decide) h, fun e0 => by subst e0; exact wq_x rfl (by decide) h⟩
  refine aw_cSW F hRm (n := 5) (stk := []) [.ref (sdX X 0 0), .int (xs (i + 1)), .int (xs (i + 2)), .int (xs (i + 3)), .ref (sdX X 25 1)] hW ⟨v_1016, v_0, by decide, by decide, by decide +kernel⟩ v_1015 v_1014 rfl rfl (Nat.le_of_ble_eq_true rfl) ⟨(Nat.le_of_ble_eq_true rfl), (Nat.le_of_ble_eq_true rfl)⟩ ⟨by omega, by omega⟩ dL_law_1502 (fun k G1 hk => ?_)
  refine aw_is F dL_law_1505 (by decide) (lv1 := (5, .int k) :: lvL X b i) rfl ?_
  refine aw_al_n F 3 dL_law_1507 rfl rfl ?_
  refine la_arg F hX (k := 1) hi hL (by decide) 5 1 rfl rfl (kv := (1 : Int32)) (by decide) dL_law_1508 dL_law_1509 dL_law_1511 (by decide) dL_law_1512 dL_law_1513 rfl ?_
  refine la_arg F hX (k := 2) hi hL (by decide) 5 1 rfl rfl (kv := (2 : Int32)) (by decide) dL_law_1514 dL_law_1515 dL_law_1517 (by decide) dL_law_1518 dL_law_1519 rfl ?_
  refine la_arg F hX (k := 3) hi hL (by decide) 5 1 rfl rfl (kv := (3 : Int32)) (by decide) dL_law_1520 dL_law_1521 dL_law_1523 (by decide) dL_law_1524 dL_law_1525 rfl ?_
  have hM := cM_ranked (q := q) (G := G1) (i32_self (xs (i + 1))) (i32_self (xs (i + 2))) (i32_self (xs (i + 3))) hC.pv (hk.ir hR)
  simp only [zI_self] at hM
  refine aw_cVi F hRm (o := 24) (c := 8) (stk := []) [.int (xs (i + 1)), .int (xs (i + 2)), .int (xs (i + 3))] (k_X8_ranked hPP hM) mv_L8_ranked v_1532 cf8 (lo_s rfl) (hPP 24 rfl) rfl (by decide) rfl rfl (Nat.le_of_ble_eq_true rfl) ⟨(Nat.le_of_ble_eq_true rfl), (Nat.le_of_ble_eq_true rfl)⟩ ⟨by omega, by omega⟩ dL_law_1526 (fun r G2 hr => ?_)
  obtain ⟨e5, er, hv⟩ := wq_m hk hr
  refine la_tail Z (i := i) e5 er (by omega) (by omega) dL_law_1529 dL_law_1531 dL_law_1532 dL_law_1535 dL_law_1537 dL_law_1542 dL_law_1544 dL_law_1547 dL_law_1548 dL_law_1549 dL_law_1550 dL_law_1552 dL_law_1553 dL_law_1554 dL_law_1559 (by decide) ?_
  exact aw_wide (by omega) (by omega) (kk G2 hv)
theorem la_20 (Z : LwF E X b L xs) {i : Nat} (hi : i + 6 ≤ L) (hn1 : n1 + 13 ≤ 600000) (hn2 : n2 + 708 ≤ 7000000) (hC : IC q G) (hR : IR q G) (kk : ∀ G2, Inv G2 → AW E X 7 2169 (lvL X b i) [] G2 (n1 + 13) (n2 + 708)) : AW E X 7 1562 (lvL X b i) [] G n1 n2 := by
  obtain ⟨F, hRm, hl0, hPe, hX, hL⟩ := id Z
  have hPP := Z.pp
  refine aw_al_n F 3 dL_law_1562 rfl rfl ?_
  refine la_arg F hX (k := 1) hi hL (by decide) 4 0 rfl rfl (kv := (1 : Int32)) (by decide) dL_law_1563 dL_law_1564 dL_law_1566 (by decide) dL_law_1567 dL_law_1568 rfl ?_
  refine la_arg F hX (k := 2) hi hL (by decide) 4 0 rfl rfl (kv := (2 : Int32)) (by decide) dL_law_1569 dL_law_1570 dL_law_1572 (by decide) dL_law_1573 dL_law_1574 rfl ?_
  refine la_arg F hX (k := 3) hi hL (by decide) 4 0 rfl rfl (kv := (3 : Int32)) (by decide) dL_law_1575 dL_law_1576 dL_law_1578 (by decide) dL_law_1579 dL_law_1580 rfl ?_
  refine aw_al_n F 1 dL_law_1581 rfl rfl ?_
  have hI := cI_file (q := q) (G := G) (i32_self (xs (i + 1))) (i32_self (xs (i + 2))) (i32_self (xs (i + 3))) hC
  simp only [zI_self] at hI
  have hW : CtW (lX X) yL_file cL_file 6 [(0, 12, 15, 13)] 9 13 708 E (PX X) (sdX X) G [.ref (sdX X 0 0), .int (xs (i + 1)), .int (xs (i + 2)), .int (xs (i + 3)), .ref (sdX X 25 1)] (pI (LQ kc1 (o_file q (xs (i + 1)).toInt (xs (i + 2)).toInt (xs (i + 3)).toInt) q G)) := by
    refine kL_file hPP (k_X7_file hl0 hPP hPe hI) (fun r G1 h => wq_r h) (fun i2 G1 hi2 h => ?_)
    have e0 := x_file h.1
    subst e0
    exact ⟨rfl, wq_x rfl (by decide) h⟩
  refine aw_cSW F hRm (n := 5) (stk := []) [.ref (sdX X 0 0), .int (xs (i + 1)), .int (xs (i + 2)), .int (xs (i + 3)), .ref (sdX X 25 1)] hW ⟨v_1025, v_0, by decide, by decide, by decide +kernel⟩ v_1024 v_1023 rfl rfl (Nat.le_of_ble_eq_true rfl) ⟨(Nat.le_of_ble_eq_true rfl), (Nat.le_of_ble_eq_true rfl)⟩ ⟨by omega, by omega⟩ dL_law_1582 (fun k G1 hk => ?_)
  refine aw_is F dL_law_1585 (by decide) (lv1 := (5, .int k) :: lvL X b i) rfl ?_
  refine aw_al_n F 3 dL_law_1587 rfl rfl ?_
  refine la_arg F hX (k := 1) hi hL (by decide) 5 1 rfl rfl (kv := (1 : Int32)) (by decide) dL_law_1588 dL_law_1589 dL_law_1591 (by decide) dL_law_1592 dL_law_1593 rfl ?_
  refine la_arg F hX (k := 2) hi hL (by decide) 5 1 rfl rfl (kv := (2 : Int32)) (by decide) dL_law_1594 dL_law_1595 dL_law_1597 (by decide) dL_law_1598 dL_law_1599 rfl ?_
  refine la_arg F hX (k := 3) hi hL (by decide) 5 1 rfl rfl (kv := (3 : Int32)) (by decide) dL_law_1600 dL_law_1601 dL_law_1603 (by decide) dL_law_1604 dL_law_1605 rfl ?_
  have hM := cM_file (q := q) (G := G1) (i32_self (xs (i + 1))) (i32_self (xs (i + 2))) (i32_self (xs (i + 3))) hC.pv (hk.ir hR)
  simp only [zI_self] at hM
  refine aw_cVi F hRm (o := 24) (c := 8) (stk := []) [.int (xs (i + 1)), .int (xs (i + 2)), .int (xs (i + 3))] (k_X8_file hPP hM) mv_L8_file v_1589 cf8 (lo_s rfl) (hPP 24 rfl) rfl (by decide) rfl rfl (Nat.le_of_ble_eq_true rfl) ⟨(Nat.le_of_ble_eq_true rfl), (Nat.le_of_ble_eq_true rfl)⟩ ⟨by omega, by omega⟩ dL_law_1606 (fun r G2 hr => ?_)
  obtain ⟨e5, er, hv⟩ := wq_m hk hr
  refine la_tail Z (i := i) e5 er (by omega) (by omega) dL_law_1609 dL_law_1611 dL_law_1612 dL_law_1615 dL_law_1617 dL_law_1622 dL_law_1624 dL_law_1627 dL_law_1628 dL_law_1629 dL_law_1630 dL_law_1632 dL_law_1633 dL_law_1634 dL_law_1639 (by decide) ?_
  exact aw_wide (by omega) (by omega) (kk G2 hv)
end
