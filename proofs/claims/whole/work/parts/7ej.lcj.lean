theorem v_1036 : (Jvm.Cond.methodLink "MarkFieldLaw" (175 : Nat) ({ cls := "MarkFieldLaw", name := "use", desc := "(LMarkField;IIII[J)I" } : Jvm.MethodName)) ∈ tb := tb_of (List.mem_of_getElem? (i := 1036) (by decide +kernel)) rfl
theorem v_1037 : (Jvm.Cond.static ({ cls := "MarkFieldLaw", name := "use", desc := "(LMarkField;IIII[J)I" } : Jvm.MethodName)) ∈ tb := tb_of (List.mem_of_getElem? (i := 1037) (by decide +kernel)) rfl
theorem v_1038 : (Jvm.Cond.codeWith ({ cls := "MarkFieldLaw", name := "use", desc := "(LMarkField;IIII[J)I" } : Jvm.MethodName) method_22_code (7 : Nat) (Option.some Jvm.ClassFile.FieldType.int) [((0 : Nat), (14 : Nat), (17 : Nat), (18 : Nat)), ((0 : Nat), (14 : Nat), (21 : Nat), (13 : Nat))]) ∈ tb := tb_of (List.mem_of_getElem? (i := 1038) (by decide +kernel)) rfl
theorem v_1045 : (Jvm.Cond.methodLink "MarkFieldLaw" (178 : Nat) ({ cls := "MarkFieldLaw", name := "consent", desc := "(LMarkField;IIZ[J)I" } : Jvm.MethodName)) ∈ tb := tb_of (List.mem_of_getElem? (i := 1045) (by decide +kernel)) rfl
theorem v_1046 : (Jvm.Cond.static ({ cls := "MarkFieldLaw", name := "consent", desc := "(LMarkField;IIZ[J)I" } : Jvm.MethodName)) ∈ tb := tb_of (List.mem_of_getElem? (i := 1046) (by decide +kernel)) rfl
theorem v_1047 : (Jvm.Cond.codeWith ({ cls := "MarkFieldLaw", name := "consent", desc := "(LMarkField;IIZ[J)I" } : Jvm.MethodName) method_23_code (6 : Nat) (Option.some Jvm.ClassFile.FieldType.int) [((0 : Nat), (19 : Nat), (22 : Nat), (18 : Nat))]) ∈ tb := tb_of (List.mem_of_getElem? (i := 1047) (by decide +kernel)) rfl
theorem v_1597 : (Jvm.Cond.methodLink "MarkFieldLaw" (177 : Nat) ({ cls := "MarkFieldModel", name := "use", desc := "(IIII)I" } : Jvm.MethodName)) ∈ tb := tb_of (List.mem_of_getElem? (i := 1597) (by decide +kernel)) rfl
theorem v_1598 : (Jvm.Cond.instanceMethod ({ cls := "MarkFieldModel", name := "use", desc := "(IIII)I" } : Jvm.MethodName)) ∈ tb := tb_of (List.mem_of_getElem? (i := 1598) (by decide +kernel)) rfl
theorem v_1599 : (Jvm.Cond.selects "MarkFieldModel" ({ cls := "MarkFieldModel", name := "use", desc := "(IIII)I" } : Jvm.MethodName) ({ cls := "MarkFieldModel", name := "use", desc := "(IIII)I" } : Jvm.MethodName)) ∈ tb := tb_of (List.mem_of_getElem? (i := 1599) (by decide +kernel)) rfl
theorem v_1600 : (Jvm.Cond.code ({ cls := "MarkFieldModel", name := "use", desc := "(IIII)I" } : Jvm.MethodName) prog_10_method_80_code (6 : Nat) (Option.some Jvm.ClassFile.FieldType.int)) ∈ tb := tb_of (List.mem_of_getElem? (i := 1600) (by decide +kernel)) rfl
theorem v_1601 : (Jvm.Cond.methodLink "MarkFieldLaw" (180 : Nat) ({ cls := "MarkFieldModel", name := "consent", desc := "(IIZ)Z" } : Jvm.MethodName)) ∈ tb := tb_of (List.mem_of_getElem? (i := 1601) (by decide +kernel)) rfl
theorem v_1602 : (Jvm.Cond.instanceMethod ({ cls := "MarkFieldModel", name := "consent", desc := "(IIZ)Z" } : Jvm.MethodName)) ∈ tb := tb_of (List.mem_of_getElem? (i := 1602) (by decide +kernel)) rfl
theorem v_1603 : (Jvm.Cond.selects "MarkFieldModel" ({ cls := "MarkFieldModel", name := "consent", desc := "(IIZ)Z" } : Jvm.MethodName) ({ cls := "MarkFieldModel", name := "consent", desc := "(IIZ)Z" } : Jvm.MethodName)) ∈ tb := tb_of (List.mem_of_getElem? (i := 1603) (by decide +kernel)) rfl
theorem v_1604 : (Jvm.Cond.code ({ cls := "MarkFieldModel", name := "consent", desc := "(IIZ)Z" } : Jvm.MethodName) prog_10_method_82_code (5 : Nat) (Option.some Jvm.ClassFile.FieldType.boolean)) ∈ tb := tb_of (List.mem_of_getElem? (i := 1604) (by decide +kernel)) rfl
theorem dL_law_1642 : decode cL_law 1642 = .ok (.aload_n 1, 1) := by decide +kernel
theorem dL_law_1643 : decode cL_law 1643 = .ok (.aload_n 0, 1) := by decide +kernel
theorem dL_law_1644 : decode cL_law 1644 = .ok (.iload 4, 2) := by decide +kernel
theorem dL_law_1646 : decode cL_law 1646 = .ok (.iconst 1, 1) := by decide +kernel
theorem dL_law_1647 : decode cL_law 1647 = .ok (.iadd, 1) := by decide +kernel
theorem dL_law_1648 : decode cL_law 1648 = .ok (.iaload, 1) := by decide +kernel
theorem dL_law_1649 : decode cL_law 1649 = .ok (.aload_n 0, 1) := by decide +kernel
theorem dL_law_1650 : decode cL_law 1650 = .ok (.iload 4, 2) := by decide +kernel
theorem dL_law_1652 : decode cL_law 1652 = .ok (.iconst 2, 1) := by decide +kernel
theorem dL_law_1653 : decode cL_law 1653 = .ok (.iadd, 1) := by decide +kernel
theorem dL_law_1654 : decode cL_law 1654 = .ok (.iaload, 1) := by decide +kernel
theorem dL_law_1655 : decode cL_law 1655 = .ok (.aload_n 0, 1) := by decide +kernel
theorem dL_law_1656 : decode cL_law 1656 = .ok (.iload 4, 2) := by decide +kernel
theorem dL_law_1658 : decode cL_law 1658 = .ok (.iconst 3, 1) := by decide +kernel
theorem dL_law_1659 : decode cL_law 1659 = .ok (.iadd, 1) := by decide +kernel
theorem dL_law_1660 : decode cL_law 1660 = .ok (.iaload, 1) := by decide +kernel
theorem dL_law_1661 : decode cL_law 1661 = .ok (.aload_n 0, 1) := by decide +kernel
theorem dL_law_1662 : decode cL_law 1662 = .ok (.iload 4, 2) := by decide +kernel
theorem dL_law_1664 : decode cL_law 1664 = .ok (.iconst 4, 1) := by decide +kernel
theorem dL_law_1665 : decode cL_law 1665 = .ok (.iadd, 1) := by decide +kernel
theorem dL_law_1666 : decode cL_law 1666 = .ok (.iaload, 1) := by decide +kernel
theorem dL_law_1667 : decode cL_law 1667 = .ok (.aload_n 3, 1) := by decide +kernel
theorem dL_law_1668 : decode cL_law 1668 = .ok (.invokestatic 175, 3) := by decide +kernel
theorem dL_law_1671 : decode cL_law 1671 = .ok (.istore 5, 2) := by decide +kernel
theorem dL_law_1673 : decode cL_law 1673 = .ok (.aload_n 2, 1) := by decide +kernel
theorem dL_law_1674 : decode cL_law 1674 = .ok (.aload_n 0, 1) := by decide +kernel
theorem dL_law_1675 : decode cL_law 1675 = .ok (.iload 4, 2) := by decide +kernel
theorem dL_law_1677 : decode cL_law 1677 = .ok (.iconst 1, 1) := by decide +kernel
theorem dL_law_1678 : decode cL_law 1678 = .ok (.iadd, 1) := by decide +kernel
theorem dL_law_1679 : decode cL_law 1679 = .ok (.iaload, 1) := by decide +kernel
theorem dL_law_1680 : decode cL_law 1680 = .ok (.aload_n 0, 1) := by decide +kernel
theorem dL_law_1681 : decode cL_law 1681 = .ok (.iload 4, 2) := by decide +kernel
theorem dL_law_1683 : decode cL_law 1683 = .ok (.iconst 2, 1) := by decide +kernel
theorem dL_law_1684 : decode cL_law 1684 = .ok (.iadd, 1) := by decide +kernel
theorem dL_law_1685 : decode cL_law 1685 = .ok (.iaload, 1) := by decide +kernel
theorem dL_law_1686 : decode cL_law 1686 = .ok (.aload_n 0, 1) := by decide +kernel
theorem dL_law_1687 : decode cL_law 1687 = .ok (.iload 4, 2) := by decide +kernel
theorem dL_law_1689 : decode cL_law 1689 = .ok (.iconst 3, 1) := by decide +kernel
theorem dL_law_1690 : decode cL_law 1690 = .ok (.iadd, 1) := by decide +kernel
theorem dL_law_1691 : decode cL_law 1691 = .ok (.iaload, 1) := by decide +kernel
theorem dL_law_1692 : decode cL_law 1692 = .ok (.aload_n 0, 1) := by decide +kernel
theorem dL_law_1693 : decode cL_law 1693 = .ok (.iload 4, 2) := by decide +kernel
theorem dL_law_1695 : decode cL_law 1695 = .ok (.iconst 4, 1) := by decide +kernel
theorem dL_law_1696 : decode cL_law 1696 = .ok (.iadd, 1) := by decide +kernel
theorem dL_law_1697 : decode cL_law 1697 = .ok (.iaload, 1) := by decide +kernel
theorem dL_law_1698 : decode cL_law 1698 = .ok (.invokevirtual 177, 3) := by decide +kernel
theorem dL_law_1701 : decode cL_law 1701 = .ok (.istore 6, 2) := by decide +kernel
theorem dL_law_1703 : decode cL_law 1703 = .ok (.aload_n 2, 1) := by decide +kernel
theorem dL_law_1704 : decode cL_law 1704 = .ok (.invokevirtual 109, 3) := by decide +kernel
theorem dL_law_1707 : decode cL_law 1707 = .ok (.iload 5, 2) := by decide +kernel
theorem dL_law_1709 : decode cL_law 1709 = .ok (.if_icmp .eq 5, 3) := by decide +kernel
theorem dL_law_1714 : decode cL_law 1714 = .ok (.iload 5, 2) := by decide +kernel
theorem dL_law_1716 : decode cL_law 1716 = .ok (.ifCond .ne 15, 3) := by decide +kernel
theorem dL_law_1719 : decode cL_law 1719 = .ok (.aload_n 3, 1) := by decide +kernel
theorem dL_law_1720 : decode cL_law 1720 = .ok (.iconst 0, 1) := by decide +kernel
theorem dL_law_1721 : decode cL_law 1721 = .ok (.laload, 1) := by decide +kernel
theorem dL_law_1722 : decode cL_law 1722 = .ok (.iload 6, 2) := by decide +kernel
theorem dL_law_1724 : decode cL_law 1724 = .ok (.i2l, 1) := by decide +kernel
theorem dL_law_1725 : decode cL_law 1725 = .ok (.lcmp, 1) := by decide +kernel
theorem dL_law_1726 : decode cL_law 1726 = .ok (.ifCond .eq 5, 3) := by decide +kernel
theorem dL_law_1731 : decode cL_law 1731 = .ok (.goto 438, 3) := by decide +kernel
theorem dL_law_1734 : decode cL_law 1734 = .ok (.aload_n 1, 1) := by decide +kernel
theorem dL_law_1735 : decode cL_law 1735 = .ok (.aload_n 0, 1) := by decide +kernel
theorem dL_law_1736 : decode cL_law 1736 = .ok (.iload 4, 2) := by decide +kernel
theorem dL_law_1738 : decode cL_law 1738 = .ok (.iconst 1, 1) := by decide +kernel
theorem dL_law_1739 : decode cL_law 1739 = .ok (.iadd, 1) := by decide +kernel
theorem dL_law_1740 : decode cL_law 1740 = .ok (.iaload, 1) := by decide +kernel
theorem dL_law_1741 : decode cL_law 1741 = .ok (.aload_n 0, 1) := by decide +kernel
theorem dL_law_1742 : decode cL_law 1742 = .ok (.iload 4, 2) := by decide +kernel
theorem dL_law_1744 : decode cL_law 1744 = .ok (.iconst 2, 1) := by decide +kernel
theorem dL_law_1745 : decode cL_law 1745 = .ok (.iadd, 1) := by decide +kernel
theorem dL_law_1746 : decode cL_law 1746 = .ok (.iaload, 1) := by decide +kernel
theorem dL_law_1747 : decode cL_law 1747 = .ok (.aload_n 0, 1) := by decide +kernel
theorem dL_law_1748 : decode cL_law 1748 = .ok (.iload 4, 2) := by decide +kernel
theorem dL_law_1750 : decode cL_law 1750 = .ok (.iconst 3, 1) := by decide +kernel
theorem dL_law_1751 : decode cL_law 1751 = .ok (.iadd, 1) := by decide +kernel
theorem dL_law_1752 : decode cL_law 1752 = .ok (.iaload, 1) := by decide +kernel
theorem dL_law_1753 : decode cL_law 1753 = .ok (.ifCond .eq 7, 3) := by decide +kernel
theorem dL_law_1756 : decode cL_law 1756 = .ok (.iconst 1, 1) := by decide +kernel
theorem dL_law_1757 : decode cL_law 1757 = .ok (.goto 4, 3) := by decide +kernel
theorem dL_law_1760 : decode cL_law 1760 = .ok (.iconst 0, 1) := by decide +kernel
theorem dL_law_1761 : decode cL_law 1761 = .ok (.aload_n 3, 1) := by decide +kernel
theorem dL_law_1762 : decode cL_law 1762 = .ok (.invokestatic 178, 3) := by decide +kernel
theorem dL_law_1765 : decode cL_law 1765 = .ok (.istore 5, 2) := by decide +kernel
theorem dL_law_1767 : decode cL_law 1767 = .ok (.aload_n 2, 1) := by decide +kernel
theorem dL_law_1768 : decode cL_law 1768 = .ok (.aload_n 0, 1) := by decide +kernel
theorem dL_law_1769 : decode cL_law 1769 = .ok (.iload 4, 2) := by decide +kernel
theorem dL_law_1771 : decode cL_law 1771 = .ok (.iconst 1, 1) := by decide +kernel
theorem dL_law_1772 : decode cL_law 1772 = .ok (.iadd, 1) := by decide +kernel
theorem dL_law_1773 : decode cL_law 1773 = .ok (.iaload, 1) := by decide +kernel
theorem dL_law_1774 : decode cL_law 1774 = .ok (.aload_n 0, 1) := by decide +kernel
theorem dL_law_1775 : decode cL_law 1775 = .ok (.iload 4, 2) := by decide +kernel
theorem dL_law_1777 : decode cL_law 1777 = .ok (.iconst 2, 1) := by decide +kernel
theorem dL_law_1778 : decode cL_law 1778 = .ok (.iadd, 1) := by decide +kernel
theorem dL_law_1779 : decode cL_law 1779 = .ok (.iaload, 1) := by decide +kernel
theorem dL_law_1780 : decode cL_law 1780 = .ok (.aload_n 0, 1) := by decide +kernel
theorem dL_law_1781 : decode cL_law 1781 = .ok (.iload 4, 2) := by decide +kernel
theorem dL_law_1783 : decode cL_law 1783 = .ok (.iconst 3, 1) := by decide +kernel
theorem dL_law_1784 : decode cL_law 1784 = .ok (.iadd, 1) := by decide +kernel
theorem dL_law_1785 : decode cL_law 1785 = .ok (.iaload, 1) := by decide +kernel
theorem dL_law_1786 : decode cL_law 1786 = .ok (.ifCond .eq 7, 3) := by decide +kernel
theorem dL_law_1789 : decode cL_law 1789 = .ok (.iconst 1, 1) := by decide +kernel
theorem dL_law_1790 : decode cL_law 1790 = .ok (.goto 4, 3) := by decide +kernel
theorem dL_law_1793 : decode cL_law 1793 = .ok (.iconst 0, 1) := by decide +kernel
theorem dL_law_1794 : decode cL_law 1794 = .ok (.invokevirtual 180, 3) := by decide +kernel
theorem dL_law_1797 : decode cL_law 1797 = .ok (.istore 6, 2) := by decide +kernel
theorem dL_law_1799 : decode cL_law 1799 = .ok (.aload_n 2, 1) := by decide +kernel
theorem dL_law_1800 : decode cL_law 1800 = .ok (.invokevirtual 109, 3) := by decide +kernel
theorem dL_law_1803 : decode cL_law 1803 = .ok (.iload 5, 2) := by decide +kernel
theorem dL_law_1805 : decode cL_law 1805 = .ok (.if_icmp .eq 5, 3) := by decide +kernel
theorem dL_law_1810 : decode cL_law 1810 = .ok (.iload 5, 2) := by decide +kernel
theorem dL_law_1812 : decode cL_law 1812 = .ok (.ifCond .ne 22, 3) := by decide +kernel
theorem dL_law_1815 : decode cL_law 1815 = .ok (.aload_n 3, 1) := by decide +kernel
theorem dL_law_1816 : decode cL_law 1816 = .ok (.iconst 0, 1) := by decide +kernel
theorem dL_law_1817 : decode cL_law 1817 = .ok (.laload, 1) := by decide +kernel
theorem dL_law_1818 : decode cL_law 1818 = .ok (.iload 6, 2) := by decide +kernel
theorem dL_law_1820 : decode cL_law 1820 = .ok (.ifCond .eq 7, 3) := by decide +kernel
theorem dL_law_1823 : decode cL_law 1823 = .ok (.lconst 1, 1) := by decide +kernel
theorem dL_law_1824 : decode cL_law 1824 = .ok (.goto 4, 3) := by decide +kernel
theorem dL_law_1827 : decode cL_law 1827 = .ok (.lconst 0, 1) := by decide +kernel
theorem dL_law_1828 : decode cL_law 1828 = .ok (.lcmp, 1) := by decide +kernel
theorem dL_law_1829 : decode cL_law 1829 = .ok (.ifCond .eq 5, 3) := by decide +kernel
theorem dL_law_1834 : decode cL_law 1834 = .ok (.goto 335, 3) := by decide +kernel
/-! ===== the law's cases use consent ===== -/
theorem mv_L8_use : MV yX8_use cX8_use 6 (some .int) 4 := ⟨⟨v_1600, v_10, by decide, by decide, by decide +kernel⟩, v_1598, v_1599⟩
theorem x_consent {q : Par} {a b : Int} {y : Bool} {j : Nat} (h : o_consent q a b y = .inl j) : j = 0 := by
  unfold o_consent at h
  repeat' split at h
  all_goals first | exact (Sum.inl.inj h).symm | exact absurd h (fun e => by cases e)
theorem mv_L8_consent : MV yX8_consent cX8_consent 5 (some .boolean) 3 := ⟨⟨v_1604, v_10, by decide, by decide, by decide +kernel⟩, v_1602, v_1603⟩
section
variable {E : Ev} {X : Cx} {G : GH} {n1 n2 b L : Nat} {xs : Nat → Int32} {q : Par}
theorem la_21 (Z : LwF E X b L xs) {i : Nat} (hi : i + 6 ≤ L) (hn1 : n1 + 13 ≤ 600000) (hn2 : n2 + 708 ≤ 7000000) (hC : IC q G) (hR : IR q G) (kk : ∀ G2, Inv G2 → AW E X 7 2169 (lvL X b i) [] G2 (n1 + 13) (n2 + 708)) : AW E X 7 1642 (lvL X b i) [] G n1 n2 := by
  obtain ⟨F, hRm, hl0, hPe, hX, hL⟩ := id Z
  have hPP := Z.pp
  refine aw_al_n F 3 dL_law_1642 rfl rfl ?_
  refine la_arg F hX (k := 1) hi hL (by decide) 4 0 rfl rfl (kv := (1 : Int32)) (by decide) dL_law_1643 dL_law_1644 dL_law_1646 (by decide) dL_law_1647 dL_law_1648 rfl ?_
  refine la_arg F hX (k := 2) hi hL (by decide) 4 0 rfl rfl (kv := (2 : Int32)) (by decide) dL_law_1649 dL_law_1650 dL_law_1652 (by decide) dL_law_1653 dL_law_1654 rfl ?_
  refine la_arg F hX (k := 3) hi hL (by decide) 4 0 rfl rfl (kv := (3 : Int32)) (by decide) dL_law_1655 dL_law_1656 dL_law_1658 (by decide) dL_law_1659 dL_law_1660 rfl ?_
  refine la_arg F hX (k := 4) hi hL (by decide) 4 0 rfl rfl (kv := (4 : Int32)) (by decide) dL_law_1661 dL_law_1662 dL_law_1664 (by decide) dL_law_1665 dL_law_1666 rfl ?_
  refine aw_al_n F 1 dL_law_1667 rfl rfl ?_
  have hI := cI_use (q := q) (G := G) (i32_self (xs (i + 1))) (i32_self (xs (i + 2))) (i32_self (xs (i + 3))) (i32_self (xs (i + 4))) hC
  simp only [zI_self] at hI
  have hW : CtW (lX X) yL_use cL_use 7 [(0, 14, 17, 18), (0, 14, 21, 13)] 8 12 702 E (PX X) (sdX X) G [.ref (sdX X 0 0), .int (xs (i + 1)), .int (xs (i + 2)), .int (xs (i + 3)), .int (xs (i + 4)), .ref (sdX X 25 1)] (pI (LQ kc2 (o_use q (xs (i + 1)).toInt (xs (i + 2)).toInt (xs (i + 3)).toInt (xs (i + 4)).toInt) q G)) := by
    refine kL_use hPP (k_X7_use hl0 hPP hPe hI) (fun r G1 h => wq_r h) (fun i2 G1 hi2 h => ?_)
    exact ⟨fun e0 => by subst e0; exact wq_x rfl (by decide) h, fun e0 => by subst e0; exact wq_x rfl (by decide) h⟩
  refine aw_cSW F hRm (n := 6) (stk := []) [.ref (sdX X 0 0), .int (xs (i + 1)), .int (xs (i + 2)), .int (xs (i + 3)), .int (xs (i + 4)), .ref (sdX X 25 1)] hW ⟨v_1038, v_0, by decide, by decide, by decide +kernel⟩ v_1037 v_1036 rfl rfl (Nat.le_of_ble_eq_true rfl) ⟨(Nat.le_of_ble_eq_true rfl), (Nat.le_of_ble_eq_true rfl)⟩ ⟨by omega, by omega⟩ dL_law_1668 (fun k G1 hk => ?_)
  refine aw_is F dL_law_1671 (by decide) (lv1 := (5, .int k) :: lvL X b i) rfl ?_
  refine aw_al_n F 3 dL_law_1673 rfl rfl ?_
  refine la_arg F hX (k := 1) hi hL (by decide) 5 1 rfl rfl (kv := (1 : Int32)) (by decide) dL_law_1674 dL_law_1675 dL_law_1677 (by decide) dL_law_1678 dL_law_1679 rfl ?_
  refine la_arg F hX (k := 2) hi hL (by decide) 5 1 rfl rfl (kv := (2 : Int32)) (by decide) dL_law_1680 dL_law_1681 dL_law_1683 (by decide) dL_law_1684 dL_law_1685 rfl ?_
  refine la_arg F hX (k := 3) hi hL (by decide) 5 1 rfl rfl (kv := (3 : Int32)) (by decide) dL_law_1686 dL_law_1687 dL_law_1689 (by decide) dL_law_1690 dL_law_1691 rfl ?_
  refine la_arg F hX (k := 4) hi hL (by decide) 5 1 rfl rfl (kv := (4 : Int32)) (by decide) dL_law_1692 dL_law_1693 dL_law_1695 (by decide) dL_law_1696 dL_law_1697 rfl ?_
  have hM := cM_use (q := q) (G := G1) (i32_self (xs (i + 1))) (i32_self (xs (i + 2))) (i32_self (xs (i + 3))) (i32_self (xs (i + 4))) hC.pv (hk.ir hR)
  simp only [zI_self] at hM
  refine aw_cVi F hRm (o := 24) (c := 8) (stk := []) [.int (xs (i + 1)), .int (xs (i + 2)), .int (xs (i + 3)), .int (xs (i + 4))] (k_X8_use hPP hM) mv_L8_use v_1597 cf8 (lo_s rfl) (hPP 24 rfl) rfl (by decide) rfl rfl (Nat.le_of_ble_eq_true rfl) ⟨(Nat.le_of_ble_eq_true rfl), (Nat.le_of_ble_eq_true rfl)⟩ ⟨by omega, by omega⟩ dL_law_1698 (fun r G2 hr => ?_)
  obtain ⟨e5, er, hv⟩ := wq_m hk hr
  refine la_tail Z (i := i) e5 er (by omega) (by omega) dL_law_1701 dL_law_1703 dL_law_1704 dL_law_1707 dL_law_1709 dL_law_1714 dL_law_1716 dL_law_1719 dL_law_1720 dL_law_1721 dL_law_1722 dL_law_1724 dL_law_1725 dL_law_1726 dL_law_1731 (by decide) ?_
  exact aw_wide (by omega) (by omega) (kk G2 hv)
theorem la_22 (Z : LwF E X b L xs) {i : Nat} (hi : i + 6 ≤ L) (hn1 : n1 + 13 ≤ 600000) (hn2 : n2 + 708 ≤ 7000000) (hC : IC q G) (hR : IR q G) (kk : ∀ G2, Inv G2 → AW E X 7 2169 (lvL X b i) [] G2 (n1 + 13) (n2 + 708)) : AW E X 7 1734 (lvL X b i) [] G n1 n2 := by
  obtain ⟨F, hRm, hl0, hPe, hX, hL⟩ := id Z
  have hPP := Z.pp
  refine aw_al_n F 3 dL_law_1734 rfl rfl ?_
  refine la_arg F hX (k := 1) hi hL (by decide) 4 0 rfl rfl (kv := (1 : Int32)) (by decide) dL_law_1735 dL_law_1736 dL_law_1738 (by decide) dL_law_1739 dL_law_1740 rfl ?_
  refine la_arg F hX (k := 2) hi hL (by decide) 4 0 rfl rfl (kv := (2 : Int32)) (by decide) dL_law_1741 dL_law_1742 dL_law_1744 (by decide) dL_law_1745 dL_law_1746 rfl ?_
  refine la_arg F hX (k := 3) hi hL (by decide) 4 0 rfl rfl (kv := (3 : Int32)) (by decide) dL_law_1747 dL_law_1748 dL_law_1750 (by decide) dL_law_1751 dL_law_1752 rfl ?_
  refine la_bool F dL_law_1753 dL_law_1756 dL_law_1757 dL_law_1760 rfl ?_
  refine aw_al_n F 1 dL_law_1761 rfl rfl ?_
  have hI := cI_consent (q := q) (G := G) (y := decide (xs (i + 3) ≠ 0)) (i32_self (xs (i + 1))) (i32_self (xs (i + 2))) hC
  simp only [zI_self] at hI
  have hW : CtW (lX X) yL_consent cL_consent 6 [(0, 19, 22, 18)] 8 11 696 E (PX X) (sdX X) G [.ref (sdX X 0 0), .int (xs (i + 1)), .int (xs (i + 2)), .int (bI (decide (xs (i + 3) ≠ 0))), .ref (sdX X 25 1)] (pI (LQ kc2 (o_consent q (xs (i + 1)).toInt (xs (i + 2)).toInt (decide (xs (i + 3) ≠ 0))) q G)) := by
    refine kL_consent hPP (k_X7_consent hl0 hPP hPe hI) (fun r G1 h => wq_r h) (fun i2 G1 hi2 h => ?_)
    have e0 := x_consent h.1
    subst e0
    exact ⟨rfl, wq_x rfl (by decide) h⟩
  refine aw_cSW F hRm (n := 5) (stk := []) [.ref (sdX X 0 0), .int (xs (i + 1)), .int (xs (i + 2)), .int (bI (decide (xs (i + 3) ≠ 0))), .ref (sdX X 25 1)] hW ⟨v_1047, v_0, by decide, by decide, by decide +kernel⟩ v_1046 v_1045 rfl rfl (Nat.le_of_ble_eq_true rfl) ⟨(Nat.le_of_ble_eq_true rfl), (Nat.le_of_ble_eq_true rfl)⟩ ⟨by omega, by omega⟩ dL_law_1762 (fun k G1 hk => ?_)
  refine aw_is F dL_law_1765 (by decide) (lv1 := (5, .int k) :: lvL X b i) rfl ?_
  refine aw_al_n F 3 dL_law_1767 rfl rfl ?_
  refine la_arg F hX (k := 1) hi hL (by decide) 5 1 rfl rfl (kv := (1 : Int32)) (by decide) dL_law_1768 dL_law_1769 dL_law_1771 (by decide) dL_law_1772 dL_law_1773 rfl ?_
  refine la_arg F hX (k := 2) hi hL (by decide) 5 1 rfl rfl (kv := (2 : Int32)) (by decide) dL_law_1774 dL_law_1775 dL_law_1777 (by decide) dL_law_1778 dL_law_1779 rfl ?_
  refine la_arg F hX (k := 3) hi hL (by decide) 5 1 rfl rfl (kv := (3 : Int32)) (by decide) dL_law_1780 dL_law_1781 dL_law_1783 (by decide) dL_law_1784 dL_law_1785 rfl ?_
  refine la_bool F dL_law_1786 dL_law_1789 dL_law_1790 dL_law_1793 rfl ?_
  have hM := cM_consent (q := q) (G := G1) (y := decide (xs (i + 3) ≠ 0)) (i32_self (xs (i + 1))) (i32_self (xs (i + 2))) hC.pv (hk.ir hR)
  simp only [zI_self] at hM
  refine aw_cVb F hRm (o := 24) (c := 8) (stk := []) [.int (xs (i + 1)), .int (xs (i + 2)), .int (bI (decide (xs (i + 3) ≠ 0)))] (k_X8_consent hPP hM) mv_L8_consent v_1601 cf8 (lo_s rfl) (hPP 24 rfl) rfl (by decide) rfl rfl (Nat.le_of_ble_eq_true rfl) ⟨(Nat.le_of_ble_eq_true rfl), (Nat.le_of_ble_eq_true rfl)⟩ ⟨by omega, by omega⟩ dL_law_1794 (fun r G2 hr => ?_)
  obtain ⟨e5, er, hv⟩ := wq_m hk hr
  refine la_tailB Z (i := i) e5 er (by omega) (by omega) dL_law_1797 dL_law_1799 dL_law_1800 dL_law_1803 dL_law_1805 dL_law_1810 dL_law_1812 dL_law_1815 dL_law_1816 dL_law_1817 dL_law_1818 dL_law_1820 dL_law_1823 dL_law_1824 dL_law_1827 dL_law_1828 dL_law_1829 dL_law_1834 (by decide) ?_
  exact aw_wide (by omega) (by omega) (kk G2 hv)
end
