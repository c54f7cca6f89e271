theorem v_1053 : (Jvm.Cond.methodLink "MarkFieldLaw" (181 : Nat) ({ cls := "MarkFieldLaw", name := "drop", desc := "(LMarkField;I[J)I" } : Jvm.MethodName)) ∈ tb := tb_of (List.mem_of_getElem? (i := 1053) (by decide +kernel)) rfl
theorem v_1054 : (Jvm.Cond.static ({ cls := "MarkFieldLaw", name := "drop", desc := "(LMarkField;I[J)I" } : Jvm.MethodName)) ∈ tb := tb_of (List.mem_of_getElem? (i := 1054) (by decide +kernel)) rfl
theorem v_1055 : (Jvm.Cond.codeWith ({ cls := "MarkFieldLaw", name := "drop", desc := "(LMarkField;I[J)I" } : Jvm.MethodName) method_24_code (4 : Nat) (Option.some Jvm.ClassFile.FieldType.int) [((0 : Nat), (9 : Nat), (12 : Nat), (18 : Nat))]) ∈ tb := tb_of (List.mem_of_getElem? (i := 1055) (by decide +kernel)) rfl
theorem v_1067 : (Jvm.Cond.methodLink "MarkFieldLaw" (184 : Nat) ({ cls := "MarkFieldLaw", name := "rule", desc := "(LMarkField;II[J)I" } : Jvm.MethodName)) ∈ tb := tb_of (List.mem_of_getElem? (i := 1067) (by decide +kernel)) rfl
theorem v_1068 : (Jvm.Cond.static ({ cls := "MarkFieldLaw", name := "rule", desc := "(LMarkField;II[J)I" } : Jvm.MethodName)) ∈ tb := tb_of (List.mem_of_getElem? (i := 1068) (by decide +kernel)) rfl
theorem v_1069 : (Jvm.Cond.codeWith ({ cls := "MarkFieldLaw", name := "rule", desc := "(LMarkField;II[J)I" } : Jvm.MethodName) method_25_code (5 : Nat) (Option.some Jvm.ClassFile.FieldType.int) [((0 : Nat), (10 : Nat), (13 : Nat), (18 : Nat)), ((0 : Nat), (10 : Nat), (17 : Nat), (13 : Nat))]) ∈ tb := tb_of (List.mem_of_getElem? (i := 1069) (by decide +kernel)) rfl
theorem v_1609 : (Jvm.Cond.methodLink "MarkFieldLaw" (183 : Nat) ({ cls := "MarkFieldModel", name := "drop", desc := "(I)I" } : Jvm.MethodName)) ∈ tb := tb_of (List.mem_of_getElem? (i := 1609) (by decide +kernel)) rfl
theorem v_1610 : (Jvm.Cond.instanceMethod ({ cls := "MarkFieldModel", name := "drop", desc := "(I)I" } : Jvm.MethodName)) ∈ tb := tb_of (List.mem_of_getElem? (i := 1610) (by decide +kernel)) rfl
theorem v_1611 : (Jvm.Cond.selects "MarkFieldModel" ({ cls := "MarkFieldModel", name := "drop", desc := "(I)I" } : Jvm.MethodName) ({ cls := "MarkFieldModel", name := "drop", desc := "(I)I" } : Jvm.MethodName)) ∈ tb := tb_of (List.mem_of_getElem? (i := 1611) (by decide +kernel)) rfl
theorem v_1612 : (Jvm.Cond.code ({ cls := "MarkFieldModel", name := "drop", desc := "(I)I" } : Jvm.MethodName) prog_10_method_83_code (5 : Nat) (Option.some Jvm.ClassFile.FieldType.int)) ∈ tb := tb_of (List.mem_of_getElem? (i := 1612) (by decide +kernel)) rfl
theorem v_1613 : (Jvm.Cond.methodLink "MarkFieldLaw" (186 : Nat) ({ cls := "MarkFieldModel", name := "rule", desc := "(II)I" } : Jvm.MethodName)) ∈ tb := tb_of (List.mem_of_getElem? (i := 1613) (by decide +kernel)) rfl
theorem v_1614 : (Jvm.Cond.instanceMethod ({ cls := "MarkFieldModel", name := "rule", desc := "(II)I" } : Jvm.MethodName)) ∈ tb := tb_of (List.mem_of_getElem? (i := 1614) (by decide +kernel)) rfl
theorem v_1615 : (Jvm.Cond.selects "MarkFieldModel" ({ cls := "MarkFieldModel", name := "rule", desc := "(II)I" } : Jvm.MethodName) ({ cls := "MarkFieldModel", name := "rule", desc := "(II)I" } : Jvm.MethodName)) ∈ tb := tb_of (List.mem_of_getElem? (i := 1615) (by decide +kernel)) rfl
theorem v_1616 : (Jvm.Cond.code ({ cls := "MarkFieldModel", name := "rule", desc := "(II)I" } : Jvm.MethodName) prog_10_method_85_code (4 : Nat) (Option.some Jvm.ClassFile.FieldType.int)) ∈ tb := tb_of (List.mem_of_getElem? (i := 1616) (by decide +kernel)) rfl
theorem dL_law_1837 : decode cL_law 1837 = .ok (.aload_n 1, 1) := by decide +kernel
theorem dL_law_1838 : decode cL_law 1838 = .ok (.aload_n 0, 1) := by decide +kernel
theorem dL_law_1839 : decode cL_law 1839 = .ok (.iload 4, 2) := by decide +kernel
theorem dL_law_1841 : decode cL_law 1841 = .ok (.iconst 1, 1) := by decide +kernel
theorem dL_law_1842 : decode cL_law 1842 = .ok (.iadd, 1) := by decide +kernel
theorem dL_law_1843 : decode cL_law 1843 = .ok (.iaload, 1) := by decide +kernel
theorem dL_law_1844 : decode cL_law 1844 = .ok (.aload_n 3, 1) := by decide +kernel
theorem dL_law_1845 : decode cL_law 1845 = .ok (.invokestatic 181, 3) := by decide +kernel
theorem dL_law_1848 : decode cL_law 1848 = .ok (.istore 5, 2) := by decide +kernel
theorem dL_law_1850 : decode cL_law 1850 = .ok (.aload_n 2, 1) := by decide +kernel
theorem dL_law_1851 : decode cL_law 1851 = .ok (.aload_n 0, 1) := by decide +kernel
theorem dL_law_1852 : decode cL_law 1852 = .ok (.iload 4, 2) := by decide +kernel
theorem dL_law_1854 : decode cL_law 1854 = .ok (.iconst 1, 1) := by decide +kernel
theorem dL_law_1855 : decode cL_law 1855 = .ok (.iadd, 1) := by decide +kernel
theorem dL_law_1856 : decode cL_law 1856 = .ok (.iaload, 1) := by decide +kernel
theorem dL_law_1857 : decode cL_law 1857 = .ok (.invokevirtual 183, 3) := by decide +kernel
theorem dL_law_1860 : decode cL_law 1860 = .ok (.istore 6, 2) := by decide +kernel
theorem dL_law_1862 : decode cL_law 1862 = .ok (.aload_n 2, 1) := by decide +kernel
theorem dL_law_1863 : decode cL_law 1863 = .ok (.invokevirtual 109, 3) := by decide +kernel
theorem dL_law_1866 : decode cL_law 1866 = .ok (.iload 5, 2) := by decide +kernel
theorem dL_law_1868 : decode cL_law 1868 = .ok (.if_icmp .eq 5, 3) := by decide +kernel
theorem dL_law_1873 : decode cL_law 1873 = .ok (.iload 5, 2) := by decide +kernel
theorem dL_law_1875 : decode cL_law 1875 = .ok (.ifCond .ne 15, 3) := by decide +kernel
theorem dL_law_1878 : decode cL_law 1878 = .ok (.aload_n 3, 1) := by decide +kernel
theorem dL_law_1879 : decode cL_law 1879 = .ok (.iconst 0, 1) := by decide +kernel
theorem dL_law_1880 : decode cL_law 1880 = .ok (.laload, 1) := by decide +kernel
theorem dL_law_1881 : decode cL_law 1881 = .ok (.iload 6, 2) := by decide +kernel
theorem dL_law_1883 : decode cL_law 1883 = .ok (.i2l, 1) := by decide +kernel
theorem dL_law_1884 : decode cL_law 1884 = .ok (.lcmp, 1) := by decide +kernel
theorem dL_law_1885 : decode cL_law 1885 = .ok (.ifCond .eq 5, 3) := by decide +kernel
theorem dL_law_1890 : decode cL_law 1890 = .ok (.goto 279, 3) := by decide +kernel
theorem dL_law_1893 : decode cL_law 1893 = .ok (.aload_n 1, 1) := by decide +kernel
theorem dL_law_1894 : decode cL_law 1894 = .ok (.aload_n 0, 1) := by decide +kernel
theorem dL_law_1895 : decode cL_law 1895 = .ok (.iload 4, 2) := by decide +kernel
theorem dL_law_1897 : decode cL_law 1897 = .ok (.iconst 1, 1) := by decide +kernel
theorem dL_law_1898 : decode cL_law 1898 = .ok (.iadd, 1) := by decide +kernel
theorem dL_law_1899 : decode cL_law 1899 = .ok (.iaload, 1) := by decide +kernel
theorem dL_law_1900 : decode cL_law 1900 = .ok (.aload_n 0, 1) := by decide +kernel
theorem dL_law_1901 : decode cL_law 1901 = .ok (.iload 4, 2) := by decide +kernel
theorem dL_law_1903 : decode cL_law 1903 = .ok (.iconst 2, 1) := by decide +kernel
theorem dL_law_1904 : decode cL_law 1904 = .ok (.iadd, 1) := by decide +kernel
theorem dL_law_1905 : decode cL_law 1905 = .ok (.iaload, 1) := by decide +kernel
theorem dL_law_1906 : decode cL_law 1906 = .ok (.aload_n 3, 1) := by decide +kernel
theorem dL_law_1907 : decode cL_law 1907 = .ok (.invokestatic 184, 3) := by decide +kernel
theorem dL_law_1910 : decode cL_law 1910 = .ok (.istore 5, 2) := by decide +kernel
theorem dL_law_1912 : decode cL_law 1912 = .ok (.aload_n 2, 1) := by decide +kernel
theorem dL_law_1913 : decode cL_law 1913 = .ok (.aload_n 0, 1) := by decide +kernel
theorem dL_law_1914 : decode cL_law 1914 = .ok (.iload 4, 2) := by decide +kernel
theorem dL_law_1916 : decode cL_law 1916 = .ok (.iconst 1, 1) := by decide +kernel
theorem dL_law_1917 : decode cL_law 1917 = .ok (.iadd, 1) := by decide +kernel
theorem dL_law_1918 : decode cL_law 1918 = .ok (.iaload, 1) := by decide +kernel
theorem dL_law_1919 : decode cL_law 1919 = .ok (.aload_n 0, 1) := by decide +kernel
theorem dL_law_1920 : decode cL_law 1920 = .ok (.iload 4, 2) := by decide +kernel
theorem dL_law_1922 : decode cL_law 1922 = .ok (.iconst 2, 1) := by decide +kernel
theorem dL_law_1923 : decode cL_law 1923 = .ok (.iadd, 1) := by decide +kernel
theorem dL_law_1924 : decode cL_law 1924 = .ok (.iaload, 1) := by decide +kernel
theorem dL_law_1925 : decode cL_law 1925 = .ok (.invokevirtual 186, 3) := by decide +kernel
theorem dL_law_1928 : decode cL_law 1928 = .ok (.istore 6, 2) := by decide +kernel
theorem dL_law_1930 : decode cL_law 1930 = .ok (.aload_n 2, 1) := by decide +kernel
theorem dL_law_1931 : decode cL_law 1931 = .ok (.invokevirtual 109, 3) := by decide +kernel
theorem dL_law_1934 : decode cL_law 1934 = .ok (.iload 5, 2) := by decide +kernel
theorem dL_law_1936 : decode cL_law 1936 = .ok (.if_icmp .eq 5, 3) := by decide +kernel
theorem dL_law_1941 : decode cL_law 1941 = .ok (.iload 5, 2) := by decide +kernel
theorem dL_law_1943 : decode cL_law 1943 = .ok (.ifCond .ne 15, 3) := by decide +kernel
theorem dL_law_1946 : decode cL_law 1946 = .ok (.aload_n 3, 1) := by decide +kernel
theorem dL_law_1947 : decode cL_law 1947 = .ok (.iconst 0, 1) := by decide +kernel
theorem dL_law_1948 : decode cL_law 1948 = .ok (.laload, 1) := by decide +kernel
theorem dL_law_1949 : decode cL_law 1949 = .ok (.iload 6, 2) := by decide +kernel
theorem dL_law_1951 : decode cL_law 1951 = .ok (.i2l, 1) := by decide +kernel
theorem dL_law_1952 : decode cL_law 1952 = .ok (.lcmp, 1) := by decide +kernel
theorem dL_law_1953 : decode cL_law 1953 = .ok (.ifCond .eq 5, 3) := by decide +kernel
theorem dL_law_1958 : decode cL_law 1958 = .ok (.goto 211, 3) := by decide +kernel
/-! ===== the law's cases drop rule ===== -/
theorem x_drop {q : Par} {a : Int} {j : Nat} (h : o_drop q a = .inl j) : j = 0 := by
  unfold o_drop at h
  repeat' split at h
  all_goals first | exact (Sum.inl.inj h).symm | exact absurd h (fun e => by cases e)
theorem mv_L8_drop : MV yX8_drop cX8_drop 5 (some .int) 1 := ⟨⟨v_1612, v_10, by decide, by decide, by decide +kernel⟩, v_1610, v_1611⟩
theorem mv_L8_rule : MV yX8_rule cX8_rule 4 (some .int) 2 := ⟨⟨v_1616, v_10, by decide, by decide, by decide +kernel⟩, v_1614, v_1615⟩
section
variable {E : Ev} {X : Cx} {G : GH} {n1 n2 b L : Nat} {xs : Nat → Int32} {q : Par}
theorem la_23 (Z : LwF E X b L xs) {i : Nat} (hi : i + 6 ≤ L) (hn1 : n1 + 13 ≤ 600000) (hn2 : n2 + 708 ≤ 7000000) (hC : IC q G) (hR : IR q G) (kk : ∀ G2, Inv G2 → AW E X 7 2169 (lvL X b i) [] G2 (n1 + 13) (n2 + 708)) : AW E X 7 1837 (lvL X b i) [] G n1 n2 := by
  obtain ⟨F, hRm, hl0, hPe, hX, hL⟩ := id Z
  have hPP := Z.pp
  refine aw_al_n F 3 dL_law_1837 rfl rfl ?_
  refine la_arg F hX (k := 1) hi hL (by decide) 4 0 rfl rfl (kv := (1 : Int32)) (by decide) dL_law_1838 dL_law_1839 dL_law_1841 (by decide) dL_law_1842 dL_law_1843 rfl ?_
  refine aw_al_n F 1 dL_law_1844 rfl rfl ?_
  have hI := cI_drop (q := q) (G := G) (i32_self (xs (i + 1))) hC
  simp only [zI_self] at hI
  have hW : CtW (lX X) yL_drop cL_drop 4 [(0, 9, 12, 18)] 8 11 696 E (PX X) (sdX X) G [.ref (sdX X 0 0), .int (xs (i + 1)), .ref (sdX X 25 1)] (pI (LQ kc2 (o_drop q (xs (i + 1)).toInt) q G)) := by
    refine kL_drop hPP (k_X7_drop hl0 hPP hPe hI) (fun r G1 h => wq_r h) (fun i2 G1 hi2 h => ?_)
    have e0 := x_drop h.1
    subst e0
    exact ⟨rfl, wq_x rfl (by decide) h⟩
  refine aw_cSW F hRm (n := 3) (stk := []) [.ref (sdX X 0 0), .int (xs (i + 1)), .ref (sdX X 25 1)] hW ⟨v_1055, v_0, by decide, by decide, by decide +kernel⟩ v_1054 v_1053 rfl rfl (Nat.le_of_ble_eq_true rfl) ⟨(Nat.le_of_ble_eq_true rfl), (Nat.le_of_ble_eq_true rfl)⟩ ⟨by omega, by omega⟩ dL_law_1845 (fun k G1 hk => ?_)
  refine aw_is F dL_law_1848 (by decide) (lv1 := (5, .int k) :: lvL X b i) rfl ?_
  refine aw_al_n F 3 dL_law_1850 rfl rfl ?_
  refine la_arg F hX (k := 1) hi hL (by decide) 5 1 rfl rfl (kv := (1 : Int32)) (by decide) dL_law_1851 dL_law_1852 dL_law_1854 (by decide) dL_law_1855 dL_law_1856 rfl ?_
  have hM := cM_drop (q := q) (G := G1) (i32_self (xs (i + 1))) hC.pv (hk.ir hR)
  simp only [zI_self] at hM
  refine aw_cVi F hRm (o := 24) (c := 8) (stk := []) [.int (xs (i + 1))] (k_X8_drop hPP hM) mv_L8_drop v_1609 cf8 (lo_s rfl) (hPP 24 rfl) rfl (by decide) rfl rfl (Nat.le_of_ble_eq_true rfl) ⟨(Nat.le_of_ble_eq_true rfl), (Nat.le_of_ble_eq_true rfl)⟩ ⟨by omega, by omega⟩ dL_law_1857 (fun r G2 hr => ?_)
  obtain ⟨e5, er, hv⟩ := wq_m hk hr
  refine la_tail Z (i := i) e5 er (by omega) (by omega) dL_law_1860 dL_law_1862 dL_law_1863 dL_law_1866 dL_law_1868 dL_law_1873 dL_law_1875 dL_law_1878 dL_law_1879 dL_law_1880 dL_law_1881 dL_law_1883 dL_law_1884 dL_law_1885 dL_law_1890 (by decide) ?_
  exact aw_wide (by omega) (by omega) (kk G2 hv)
theorem la_24 (Z : LwF E X b L xs) {i : Nat} (hi : i + 6 ≤ L) (hn1 : n1 + 13 ≤ 600000) (hn2 : n2 + 708 ≤ 7000000) (hC : IC q G) (hR : IR q G) (kk : ∀ G2, Inv G2 → AW E X 7 2169 (lvL X b i) [] G2 (n1 + 13) (n2 + 708)) : AW E X 7 1893 (lvL X b i) [] G n1 n2 := by
  obtain ⟨F, hRm, hl0, hPe, hX, hL⟩ := id Z
  have hPP := Z.pp
  refine aw_al_n F 3 dL_law_1893 rfl rfl ?_
  refine la_arg F hX (k := 1) hi hL (by decide) 4 0 rfl rfl (kv := (1 : Int32)) (by decide) dL_law_1894 dL_law_1895 dL_law_1897 (by decide) dL_law_1898 dL_law_1899 rfl ?_
  refine la_arg F hX (k := 2) hi hL (by decide) 4 0 rfl rfl (kv := (2 : Int32)) (by decide) dL_law_1900 dL_law_1901 dL_law_1903 (by decide) dL_law_1904 dL_law_1905 rfl ?_
  refine aw_al_n F 1 dL_law_1906 rfl rfl ?_
  have hI := cI_rule (q := q) (G := G) (i32_self (xs (i + 1))) (i32_self (xs (i + 2))) hC
  simp only [zI_self] at hI
  have hW : CtW (lX X) yL_rule cL_rule 5 [(0, 10, 13, 18), (0, 10, 17, 13)] 8 11 696 E (PX X) (sdX X) G [.ref (sdX X 0 0), .int (xs (i + 1)), .int (xs (i + 2)), .ref (sdX X 25 1)] (pI (LQ kc2 (o_rule q (xs (i + 1)).toInt (xs (i + 2)).toInt) q G)) := by
    refine kL_rule hPP (k_X7_rule hl0 hPP hPe hI) (fun r G1 h => wq_r h) (fun i2 G1 hi2 h => ?_)
    exact ⟨fun e0 => by subst e0; exact wq_x rfl (by decide) h, fun e0 => by subst e0; exact wq_x rfl (by decide) h⟩
  refine aw_cSW F hRm (n := 4) (stk := []) [.ref (sdX X 0 0), .int (xs (i + 1)), .int (xs (i + 2)), .ref (sdX X 25 1)] hW ⟨v_1069, v_0, by decide, by decide, by decide +kernel⟩ v_1068 v_1067 rfl rfl (Nat.le_of_ble_eq_true rfl) ⟨(Nat.le_of_ble_eq_true rfl), (Nat.le_of_ble_eq_true rfl)⟩ ⟨by omega, by omega⟩ dL_law_1907 (fun k G1 hk => ?_)
  refine aw_is F dL_law_1910 (by decide) (lv1 := (5, .int k) :: lvL X b i) rfl ?_
  refine aw_al_n F 3 dL_law_1912 rfl rfl ?_
  refine la_arg F hX (k := 1) hi hL (by decide) 5 1 rfl rfl (kv := (1 : Int32)) (by decide) dL_law_1913 dL_law_1914 dL_law_1916 (by decide) dL_law_1917 dL_law_1918 rfl ?_
  refine la_arg F hX (k := 2) hi hL (by decide) 5 1 rfl rfl (kv := (2 : Int32)) (by decide) dL_law_1919 dL_law_1920 dL_law_1922 (by decide) dL_law_1923 dL_law_1924 rfl ?_
  have hM := cM_rule (q := q) (G := G1) (i32_self (xs (i + 1))) (i32_self (xs (i + 2))) hC.pv (hk.ir hR)
  simp only [zI_self] at hM
  refine aw_cVi F hRm (o := 24) (c := 8) (stk := []) [.int (xs (i + 1)), .int (xs (i + 2))] (k_X8_rule hPP hM) mv_L8_rule v_1613 cf8 (lo_s rfl) (hPP 24 rfl) rfl (by decide) rfl rfl (Nat.le_of_ble_eq_true rfl) ⟨(Nat.le_of_ble_eq_true rfl), (Nat.le_of_ble_eq_true rfl)⟩ ⟨by omega, by omega⟩ dL_law_1925 (fun r G2 hr => ?_)
  obtain ⟨e5, er, hv⟩ := wq_m hk hr
  refine la_tail Z (i := i) e5 er (by omega) (by omega) dL_law_1928 dL_law_1930 dL_law_1931 dL_law_1934 dL_law_1936 dL_law_1941 dL_law_1943 dL_law_1946 dL_law_1947 dL_law_1948 dL_law_1949 dL_law_1951 dL_law_1952 dL_law_1953 dL_law_1958 (by decide) ?_
  exact aw_wide (by omega) (by omega) (kk G2 hv)
end
