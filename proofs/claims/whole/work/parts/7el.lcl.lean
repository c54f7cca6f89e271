theorem v_346 : (Jvm.Cond.methodLink "MarkFieldLaw" (190 : Nat) ({ cls := "MarkField", name := "undo", desc := "()I" } : Jvm.MethodName)) ∈ tb := tb_of (List.mem_of_getElem? (i := 346) (by decide +kernel)) rfl
theorem v_347 : (Jvm.Cond.instanceMethod ({ cls := "MarkField", name := "undo", desc := "()I" } : Jvm.MethodName)) ∈ tb := tb_of (List.mem_of_getElem? (i := 347) (by decide +kernel)) rfl
theorem v_348 : (Jvm.Cond.selects "MarkField" ({ cls := "MarkField", name := "undo", desc := "()I" } : Jvm.MethodName) ({ cls := "MarkField", name := "undo", desc := "()I" } : Jvm.MethodName)) ∈ tb := tb_of (List.mem_of_getElem? (i := 348) (by decide +kernel)) rfl
theorem v_349 : (Jvm.Cond.code ({ cls := "MarkField", name := "undo", desc := "()I" } : Jvm.MethodName) prog_1_method_28_code (1 : Nat) (Option.some Jvm.ClassFile.FieldType.int)) ∈ tb := tb_of (List.mem_of_getElem? (i := 349) (by decide +kernel)) rfl
theorem v_358 : (Jvm.Cond.methodLink "MarkFieldLaw" (194 : Nat) ({ cls := "MarkField", name := "image", desc := "()V" } : Jvm.MethodName)) ∈ tb := tb_of (List.mem_of_getElem? (i := 358) (by decide +kernel)) rfl
theorem v_359 : (Jvm.Cond.instanceMethod ({ cls := "MarkField", name := "image", desc := "()V" } : Jvm.MethodName)) ∈ tb := tb_of (List.mem_of_getElem? (i := 359) (by decide +kernel)) rfl
theorem v_360 : (Jvm.Cond.selects "MarkField" ({ cls := "MarkField", name := "image", desc := "()V" } : Jvm.MethodName) ({ cls := "MarkField", name := "image", desc := "()V" } : Jvm.MethodName)) ∈ tb := tb_of (List.mem_of_getElem? (i := 360) (by decide +kernel)) rfl
theorem v_361 : (Jvm.Cond.code ({ cls := "MarkField", name := "image", desc := "()V" } : Jvm.MethodName) prog_1_method_29_code (1 : Nat) (Option.none : Option Jvm.ClassFile.FieldType)) ∈ tb := tb_of (List.mem_of_getElem? (i := 361) (by decide +kernel)) rfl
theorem v_363 : (Jvm.Cond.methodLink "MarkFieldLaw" (198 : Nat) ({ cls := "MarkField", name := "back", desc := "()Z" } : Jvm.MethodName)) ∈ tb := tb_of (List.mem_of_getElem? (i := 363) (by decide +kernel)) rfl
theorem v_364 : (Jvm.Cond.instanceMethod ({ cls := "MarkField", name := "back", desc := "()Z" } : Jvm.MethodName)) ∈ tb := tb_of (List.mem_of_getElem? (i := 364) (by decide +kernel)) rfl
theorem v_365 : (Jvm.Cond.selects "MarkField" ({ cls := "MarkField", name := "back", desc := "()Z" } : Jvm.MethodName) ({ cls := "MarkField", name := "back", desc := "()Z" } : Jvm.MethodName)) ∈ tb := tb_of (List.mem_of_getElem? (i := 365) (by decide +kernel)) rfl
theorem v_366 : (Jvm.Cond.code ({ cls := "MarkField", name := "back", desc := "()Z" } : Jvm.MethodName) prog_1_method_30_code (1 : Nat) (Option.some Jvm.ClassFile.FieldType.boolean)) ∈ tb := tb_of (List.mem_of_getElem? (i := 366) (by decide +kernel)) rfl
theorem v_1077 : (Jvm.Cond.methodLink "MarkFieldLaw" (187 : Nat) ({ cls := "MarkFieldLaw", name := "near", desc := "(LMarkField;IIZ[J)I" } : Jvm.MethodName)) ∈ tb := tb_of (List.mem_of_getElem? (i := 1077) (by decide +kernel)) rfl
theorem v_1078 : (Jvm.Cond.static ({ cls := "MarkFieldLaw", name := "near", desc := "(LMarkField;IIZ[J)I" } : Jvm.MethodName)) ∈ tb := tb_of (List.mem_of_getElem? (i := 1078) (by decide +kernel)) rfl
theorem v_1079 : (Jvm.Cond.codeWith ({ cls := "MarkFieldLaw", name := "near", desc := "(LMarkField;IIZ[J)I" } : Jvm.MethodName) method_26_code (6 : Nat) (Option.some Jvm.ClassFile.FieldType.int) [((0 : Nat), (19 : Nat), (22 : Nat), (18 : Nat))]) ∈ tb := tb_of (List.mem_of_getElem? (i := 1079) (by decide +kernel)) rfl
theorem v_1585 : (Jvm.Cond.methodLink "MarkFieldLaw" (193 : Nat) ({ cls := "MarkFieldModel", name := "undo", desc := "()I" } : Jvm.MethodName)) ∈ tb := tb_of (List.mem_of_getElem? (i := 1585) (by decide +kernel)) rfl
theorem v_1586 : (Jvm.Cond.instanceMethod ({ cls := "MarkFieldModel", name := "undo", desc := "()I" } : Jvm.MethodName)) ∈ tb := tb_of (List.mem_of_getElem? (i := 1586) (by decide +kernel)) rfl
theorem v_1587 : (Jvm.Cond.selects "MarkFieldModel" ({ cls := "MarkFieldModel", name := "undo", desc := "()I" } : Jvm.MethodName) ({ cls := "MarkFieldModel", name := "undo", desc := "()I" } : Jvm.MethodName)) ∈ tb := tb_of (List.mem_of_getElem? (i := 1587) (by decide +kernel)) rfl
theorem v_1588 : (Jvm.Cond.code ({ cls := "MarkFieldModel", name := "undo", desc := "()I" } : Jvm.MethodName) prog_10_method_78_code (2 : Nat) (Option.some Jvm.ClassFile.FieldType.int)) ∈ tb := tb_of (List.mem_of_getElem? (i := 1588) (by decide +kernel)) rfl
theorem v_1620 : (Jvm.Cond.methodLink "MarkFieldLaw" (189 : Nat) ({ cls := "MarkFieldModel", name := "near", desc := "(IIZ)Z" } : Jvm.MethodName)) ∈ tb := tb_of (List.mem_of_getElem? (i := 1620) (by decide +kernel)) rfl
theorem v_1621 : (Jvm.Cond.instanceMethod ({ cls := "MarkFieldModel", name := "near", desc := "(IIZ)Z" } : Jvm.MethodName)) ∈ tb := tb_of (List.mem_of_getElem? (i := 1621) (by decide +kernel)) rfl
theorem v_1622 : (Jvm.Cond.selects "MarkFieldModel" ({ cls := "MarkFieldModel", name := "near", desc := "(IIZ)Z" } : Jvm.MethodName) ({ cls := "MarkFieldModel", name := "near", desc := "(IIZ)Z" } : Jvm.MethodName)) ∈ tb := tb_of (List.mem_of_getElem? (i := 1622) (by decide +kernel)) rfl
theorem v_1623 : (Jvm.Cond.code ({ cls := "MarkFieldModel", name := "near", desc := "(IIZ)Z" } : Jvm.MethodName) prog_10_method_87_code (5 : Nat) (Option.some Jvm.ClassFile.FieldType.boolean)) ∈ tb := tb_of (List.mem_of_getElem? (i := 1623) (by decide +kernel)) rfl
theorem v_1627 : (Jvm.Cond.methodLink "MarkFieldLaw" (197 : Nat) ({ cls := "MarkFieldModel", name := "image", desc := "()V" } : Jvm.MethodName)) ∈ tb := tb_of (List.mem_of_getElem? (i := 1627) (by decide +kernel)) rfl
theorem v_1628 : (Jvm.Cond.instanceMethod ({ cls := "MarkFieldModel", name := "image", desc := "()V" } : Jvm.MethodName)) ∈ tb := tb_of (List.mem_of_getElem? (i := 1628) (by decide +kernel)) rfl
theorem v_1629 : (Jvm.Cond.selects "MarkFieldModel" ({ cls := "MarkFieldModel", name := "image", desc := "()V" } : Jvm.MethodName) ({ cls := "MarkFieldModel", name := "image", desc := "()V" } : Jvm.MethodName)) ∈ tb := tb_of (List.mem_of_getElem? (i := 1629) (by decide +kernel)) rfl
theorem v_1630 : (Jvm.Cond.code ({ cls := "MarkFieldModel", name := "image", desc := "()V" } : Jvm.MethodName) prog_10_method_88_code (2 : Nat) (Option.none : Option Jvm.ClassFile.FieldType)) ∈ tb := tb_of (List.mem_of_getElem? (i := 1630) (by decide +kernel)) rfl
theorem v_1631 : (Jvm.Cond.methodLink "MarkFieldLaw" (202 : Nat) ({ cls := "MarkFieldModel", name := "back", desc := "()Z" } : Jvm.MethodName)) ∈ tb := tb_of (List.mem_of_getElem? (i := 1631) (by decide +kernel)) rfl
theorem v_1632 : (Jvm.Cond.instanceMethod ({ cls := "MarkFieldModel", name := "back", desc := "()Z" } : Jvm.MethodName)) ∈ tb := tb_of (List.mem_of_getElem? (i := 1632) (by decide +kernel)) rfl
theorem v_1633 : (Jvm.Cond.selects "MarkFieldModel" ({ cls := "MarkFieldModel", name := "back", desc := "()Z" } : Jvm.MethodName) ({ cls := "MarkFieldModel", name := "back", desc := "()Z" } : Jvm.MethodName)) ∈ tb := tb_of (List.mem_of_getElem? (i := 1633) (by decide +kernel)) rfl
theorem v_1634 : (Jvm.Cond.code ({ cls := "MarkFieldModel", name := "back", desc := "()Z" } : Jvm.MethodName) prog_10_method_89_code (2 : Nat) (Option.some Jvm.ClassFile.FieldType.boolean)) ∈ tb := tb_of (List.mem_of_getElem? (i := 1634) (by decide +kernel)) rfl
theorem dL_law_1961 : decode cL_law 1961 = .ok (.aload_n 1, 1) := by decide +kernel
theorem dL_law_1962 : decode cL_law 1962 = .ok (.aload_n 0, 1) := by decide +kernel
theorem dL_law_1963 : decode cL_law 1963 = .ok (.iload 4, 2) := by decide +kernel
theorem dL_law_1965 : decode cL_law 1965 = .ok (.iconst 1, 1) := by decide +kernel
theorem dL_law_1966 : decode cL_law 1966 = .ok (.iadd, 1) := by decide +kernel
theorem dL_law_1967 : decode cL_law 1967 = .ok (.iaload, 1) := by decide +kernel
theorem dL_law_1968 : decode cL_law 1968 = .ok (.aload_n 0, 1) := by decide +kernel
theorem dL_law_1969 : decode cL_law 1969 = .ok (.iload 4, 2) := by decide +kernel
theorem dL_law_1971 : decode cL_law 1971 = .ok (.iconst 2, 1) := by decide +kernel
theorem dL_law_1972 : decode cL_law 1972 = .ok (.iadd, 1) := by decide +kernel
theorem dL_law_1973 : decode cL_law 1973 = .ok (.iaload, 1) := by decide +kernel
theorem dL_law_1974 : decode cL_law 1974 = .ok (.aload_n 0, 1) := by decide +kernel
theorem dL_law_1975 : decode cL_law 1975 = .ok (.iload 4, 2) := by decide +kernel
theorem dL_law_1977 : decode cL_law 1977 = .ok (.iconst 3, 1) := by decide +kernel
theorem dL_law_1978 : decode cL_law 1978 = .ok (.iadd, 1) := by decide +kernel
theorem dL_law_1979 : decode cL_law 1979 = .ok (.iaload, 1) := by decide +kernel
theorem dL_law_1980 : decode cL_law 1980 = .ok (.ifCond .eq 7, 3) := by decide +kernel
theorem dL_law_1983 : decode cL_law 1983 = .ok (.iconst 1, 1) := by decide +kernel
theorem dL_law_1984 : decode cL_law 1984 = .ok (.goto 4, 3) := by decide +kernel
theorem dL_law_1987 : decode cL_law 1987 = .ok (.iconst 0, 1) := by decide +kernel
theorem dL_law_1988 : decode cL_law 1988 = .ok (.aload_n 3, 1) := by decide +kernel
theorem dL_law_1989 : decode cL_law 1989 = .ok (.invokestatic 187, 3) := by decide +kernel
theorem dL_law_1992 : decode cL_law 1992 = .ok (.istore 5, 2) := by decide +kernel
theorem dL_law_1994 : decode cL_law 1994 = .ok (.aload_n 2, 1) := by decide +kernel
theorem dL_law_1995 : decode cL_law 1995 = .ok (.aload_n 0, 1) := by decide +kernel
theorem dL_law_1996 : decode cL_law 1996 = .ok (.iload 4, 2) := by decide +kernel
theorem dL_law_1998 : decode cL_law 1998 = .ok (.iconst 1, 1) := by decide +kernel
theorem dL_law_1999 : decode cL_law 1999 = .ok (.iadd, 1) := by decide +kernel
theorem dL_law_2000 : decode cL_law 2000 = .ok (.iaload, 1) := by decide +kernel
theorem dL_law_2001 : decode cL_law 2001 = .ok (.aload_n 0, 1) := by decide +kernel
theorem dL_law_2002 : decode cL_law 2002 = .ok (.iload 4, 2) := by decide +kernel
theorem dL_law_2004 : decode cL_law 2004 = .ok (.iconst 2, 1) := by decide +kernel
theorem dL_law_2005 : decode cL_law 2005 = .ok (.iadd, 1) := by decide +kernel
theorem dL_law_2006 : decode cL_law 2006 = .ok (.iaload, 1) := by decide +kernel
theorem dL_law_2007 : decode cL_law 2007 = .ok (.aload_n 0, 1) := by decide +kernel
theorem dL_law_2008 : decode cL_law 2008 = .ok (.iload 4, 2) := by decide +kernel
theorem dL_law_2010 : decode cL_law 2010 = .ok (.iconst 3, 1) := by decide +kernel
theorem dL_law_2011 : decode cL_law 2011 = .ok (.iadd, 1) := by decide +kernel
theorem dL_law_2012 : decode cL_law 2012 = .ok (.iaload, 1) := by decide +kernel
theorem dL_law_2013 : decode cL_law 2013 = .ok (.ifCond .eq 7, 3) := by decide +kernel
theorem dL_law_2016 : decode cL_law 2016 = .ok (.iconst 1, 1) := by decide +kernel
theorem dL_law_2017 : decode cL_law 2017 = .ok (.goto 4, 3) := by decide +kernel
theorem dL_law_2020 : decode cL_law 2020 = .ok (.iconst 0, 1) := by decide +kernel
theorem dL_law_2021 : decode cL_law 2021 = .ok (.invokevirtual 189, 3) := by decide +kernel
theorem dL_law_2024 : decode cL_law 2024 = .ok (.istore 6, 2) := by decide +kernel
theorem dL_law_2026 : decode cL_law 2026 = .ok (.aload_n 2, 1) := by decide +kernel
theorem dL_law_2027 : decode cL_law 2027 = .ok (.invokevirtual 109, 3) := by decide +kernel
theorem dL_law_2030 : decode cL_law 2030 = .ok (.iload 5, 2) := by decide +kernel
theorem dL_law_2032 : decode cL_law 2032 = .ok (.if_icmp .eq 5, 3) := by decide +kernel
theorem dL_law_2037 : decode cL_law 2037 = .ok (.iload 5, 2) := by decide +kernel
theorem dL_law_2039 : decode cL_law 2039 = .ok (.ifCond .ne 22, 3) := by decide +kernel
theorem dL_law_2042 : decode cL_law 2042 = .ok (.aload_n 3, 1) := by decide +kernel
theorem dL_law_2043 : decode cL_law 2043 = .ok (.iconst 0, 1) := by decide +kernel
theorem dL_law_2044 : decode cL_law 2044 = .ok (.laload, 1) := by decide +kernel
theorem dL_law_2045 : decode cL_law 2045 = .ok (.iload 6, 2) := by decide +kernel
theorem dL_law_2047 : decode cL_law 2047 = .ok (.ifCond .eq 7, 3) := by decide +kernel
theorem dL_law_2050 : decode cL_law 2050 = .ok (.lconst 1, 1) := by decide +kernel
theorem dL_law_2051 : decode cL_law 2051 = .ok (.goto 4, 3) := by decide +kernel
theorem dL_law_2054 : decode cL_law 2054 = .ok (.lconst 0, 1) := by decide +kernel
theorem dL_law_2055 : decode cL_law 2055 = .ok (.lcmp, 1) := by decide +kernel
theorem dL_law_2056 : decode cL_law 2056 = .ok (.ifCond .eq 5, 3) := by decide +kernel
theorem dL_law_2061 : decode cL_law 2061 = .ok (.goto 108, 3) := by decide +kernel
theorem dL_law_2064 : decode cL_law 2064 = .ok (.aload_n 1, 1) := by decide +kernel
theorem dL_law_2065 : decode cL_law 2065 = .ok (.invokevirtual 190, 3) := by decide +kernel
theorem dL_law_2068 : decode cL_law 2068 = .ok (.aload_n 2, 1) := by decide +kernel
theorem dL_law_2069 : decode cL_law 2069 = .ok (.invokevirtual 193, 3) := by decide +kernel
theorem dL_law_2072 : decode cL_law 2072 = .ok (.if_icmp .eq 97, 3) := by decide +kernel
theorem dL_law_2077 : decode cL_law 2077 = .ok (.aload_n 1, 1) := by decide +kernel
theorem dL_law_2078 : decode cL_law 2078 = .ok (.invokevirtual 194, 3) := by decide +kernel
theorem dL_law_2081 : decode cL_law 2081 = .ok (.aload_n 2, 1) := by decide +kernel
theorem dL_law_2082 : decode cL_law 2082 = .ok (.invokevirtual 197, 3) := by decide +kernel
theorem dL_law_2085 : decode cL_law 2085 = .ok (.goto 84, 3) := by decide +kernel
theorem dL_law_2088 : decode cL_law 2088 = .ok (.aload_n 1, 1) := by decide +kernel
theorem dL_law_2089 : decode cL_law 2089 = .ok (.invokevirtual 198, 3) := by decide +kernel
theorem dL_law_2092 : decode cL_law 2092 = .ok (.aload_n 2, 1) := by decide +kernel
theorem dL_law_2093 : decode cL_law 2093 = .ok (.invokevirtual 202, 3) := by decide +kernel
theorem dL_law_2096 : decode cL_law 2096 = .ok (.if_icmp .eq 73, 3) := by decide +kernel
/-! ===== the law's cases near undo image back ===== -/
theorem x_near {q : Par} {a b : Int} {y : Bool} {j : Nat} (h : o_near q a b y = .inl j) : j = 0 := by
  unfold o_near at h
  repeat' split at h
  all_goals first | exact (Sum.inl.inj h).symm | exact absurd h (fun e => by cases e)
theorem mv_L8_near : MV yX8_near cX8_near 5 (some .boolean) 3 := ⟨⟨v_1623, v_10, by decide, by decide, by decide +kernel⟩, v_1621, v_1622⟩
theorem mv_L8_undo : MV yX8_undo cX8_undo 2 (some .int) 0 := ⟨⟨v_1588, v_10, by decide, by decide, by decide +kernel⟩, v_1586, v_1587⟩
theorem mv_L7_undo : MV yX7_undo cX7_undo 1 (some .int) 0 := ⟨⟨v_349, v_1, by decide, by decide, by decide +kernel⟩, v_347, v_348⟩
theorem mv_L8_image : MV yX8_image cX8_image 2 none 0 := ⟨⟨v_1630, v_10, by decide, by decide, by decide +kernel⟩, v_1628, v_1629⟩
theorem mv_L7_image : MV yX7_image cX7_image 1 none 0 := ⟨⟨v_361, v_1, by decide, by decide, by decide +kernel⟩, v_359, v_360⟩
theorem mv_L8_back : MV yX8_back cX8_back 2 (some .boolean) 0 := ⟨⟨v_1634, v_10, by decide, by decide, by decide +kernel⟩, v_1632, v_1633⟩
theorem mv_L7_back : MV yX7_back cX7_back 1 (some .boolean) 0 := ⟨⟨v_366, v_1, by decide, by decide, by decide +kernel⟩, v_364, v_365⟩
section
variable {E : Ev} {X : Cx} {G : GH} {n1 n2 b L : Nat} {xs : Nat → Int32} {q : Par}
theorem la_25 (Z : LwF E X b L xs) {i : Nat} (hi : i + 6 ≤ L) (hn1 : n1 + 13 ≤ 600000) (hn2 : n2 + 708 ≤ 7000000) (hC : IC q G) (hR : IR q G) (kk : ∀ G2, Inv G2 → AW E X 7 2169 (lvL X b i) [] G2 (n1 + 13) (n2 + 708)) : AW E X 7 1961 (lvL X b i) [] G n1 n2 := by
  obtain ⟨F, hRm, hl0, hPe, hX, hL⟩ := id Z
  have hPP := Z.pp
  refine aw_al_n F 3 dL_law_1961 rfl rfl ?_
  refine la_arg F hX (k := 1) hi hL (by decide) 4 0 rfl rfl (kv := (1 : Int32)) (by decide) dL_law_1962 dL_law_1963 dL_law_1965 (by decide) dL_law_1966 dL_law_1967 rfl ?_
  refine la_arg F hX (k := 2) hi hL (by decide) 4 0 rfl rfl (kv := (2 : Int32)) (by decide) dL_law_1968 dL_law_1969 dL_law_1971 (by decide) dL_law_1972 dL_law_1973 rfl ?_
  refine la_arg F hX (k := 3) hi hL (by decide) 4 0 rfl rfl (kv := (3 : Int32)) (by decide) dL_law_1974 dL_law_1975 dL_law_1977 (by decide) dL_law_1978 dL_law_1979 rfl ?_
  refine la_bool F dL_law_1980 dL_law_1983 dL_law_1984 dL_law_1987 rfl ?_
  refine aw_al_n F 1 dL_law_1988 rfl rfl ?_
  have hI := cI_near (q := q) (G := G) (y := decide (xs (i + 3) ≠ 0)) (i32_self (xs (i + 1))) (i32_self (xs (i + 2))) hC
  simp only [zI_self] at hI
  have hW : CtW (lX X) yL_near cL_near 6 [(0, 19, 22, 18)] 7 10 690 E (PX X) (sdX X) G [.ref (sdX X 0 0), .int (xs (i + 1)), .int (xs (i + 2)), .int (bI (decide (xs (i + 3) ≠ 0))), .ref (sdX X 25 1)] (pI (LQ kc2 (o_near q (xs (i + 1)).toInt (xs (i + 2)).toInt (decide (xs (i + 3) ≠ 0))) q G)) := by
    refine kL_near hPP (k_X7_near hl0 hPP hPe hI) (fun r G1 h => wq_r h) (fun i2 G1 hi2 h => ?_)
    have e0 := x_near h.1
    subst e0
    exact ⟨rfl, wq_x rfl (by decide) h⟩
  refine aw_cSW F hRm (n := 5) (stk := []) [.ref (sdX X 0 0), .int (xs (i + 1)), .int (xs (i + 2)), .int (bI (decide (xs (i + 3) ≠ 0))), .ref (sdX X 25 1)] hW ⟨v_1079, v_0, by decide, by decide, by decide +kernel⟩ v_1078 v_1077 rfl rfl (Nat.le_of_ble_eq_true rfl) ⟨(Nat.le_of_ble_eq_true rfl), (Nat.le_of_ble_eq_true rfl)⟩ ⟨by omega, by omega⟩ dL_law_1989 (fun k G1 hk => ?_)
  refine aw_is F dL_law_1992 (by decide) (lv1 := (5, .int k) :: lvL X b i) rfl ?_
  refine aw_al_n F 3 dL_law_1994 rfl rfl ?_
  refine la_arg F hX (k := 1) hi hL (by decide) 5 1 rfl rfl (kv := (1 : Int32)) (by decide) dL_law_1995 dL_law_1996 dL_law_1998 (by decide) dL_law_1999 dL_law_2000 rfl ?_
  refine la_arg F hX (k := 2) hi hL (by decide) 5 1 rfl rfl (kv := (2 : Int32)) (by decide) dL_law_2001 dL_law_2002 dL_law_2004 (by decide) dL_law_2005 dL_law_2006 rfl ?_
  refine la_arg F hX (k := 3) hi hL (by decide) 5 1 rfl rfl (kv := (3 : Int32)) (by decide) dL_law_2007 dL_law_2008 dL_law_2010 (by decide) dL_law_2011 dL_law_2012 rfl ?_
  refine la_bool F dL_law_2013 dL_law_2016 dL_law_2017 dL_law_2020 rfl ?_
  have hM := cM_near (q := q) (G := G1) (y := decide (xs (i + 3) ≠ 0)) (i32_self (xs (i + 1))) (i32_self (xs (i + 2))) hC.pv (hk.ir hR)
  simp only [zI_self] at hM
  refine aw_cVb F hRm (o := 24) (c := 8) (stk := []) [.int (xs (i + 1)), .int (xs (i + 2)), .int (bI (decide (xs (i + 3) ≠ 0)))] (k_X8_near hPP hM) mv_L8_near v_1620 cf8 (lo_s rfl) (hPP 24 rfl) rfl (by decide) rfl rfl (Nat.le_of_ble_eq_true rfl) ⟨(Nat.le_of_ble_eq_true rfl), (Nat.le_of_ble_eq_true rfl)⟩ ⟨by omega, by omega⟩ dL_law_2021 (fun r G2 hr => ?_)
  obtain ⟨e5, er, hv⟩ := wq_m hk hr
  refine la_tailB Z (i := i) e5 er (by omega) (by omega) dL_law_2024 dL_law_2026 dL_law_2027 dL_law_2030 dL_law_2032 dL_law_2037 dL_law_2039 dL_law_2042 dL_law_2043 dL_law_2044 dL_law_2045 dL_law_2047 dL_law_2050 dL_law_2051 dL_law_2054 dL_law_2055 dL_law_2056 dL_law_2061 (by decide) ?_
  exact aw_wide (by omega) (by omega) (kk G2 hv)
theorem la_26 (Z : LwF E X b L xs) {i : Nat} (hi : i + 6 ≤ L) (hn1 : n1 + 13 ≤ 600000) (hn2 : n2 + 708 ≤ 7000000) (hC : IC q G) (hR : IR q G) (kk : ∀ G2, Inv G2 → AW E X 7 2169 (lvL X b i) [] G2 (n1 + 13) (n2 + 708)) : AW E X 7 2064 (lvL X b i) [] G n1 n2 := by
  obtain ⟨F, hRm, hl0, hPe, hX, hL⟩ := id Z
  have hPP := Z.pp
  refine aw_al_n F 3 dL_law_2064 rfl rfl ?_
  have hI := cI_undo (q := q) (G := G) hC
  refine aw_cVi F hRm (o := 0) (c := 7) (stk := []) [] (k_X7_undo hPP hI) mv_L7_undo v_346 cf7 (lo_s rfl) (hPP 0 rfl) rfl (by decide) rfl rfl (Nat.le_of_ble_eq_true rfl) ⟨(Nat.le_of_ble_eq_true rfl), (Nat.le_of_ble_eq_true rfl)⟩ ⟨by omega, by omega⟩ dL_law_2065 (fun r1 G1 h1 => ?_)
  refine aw_al_n F 2 dL_law_2068 rfl rfl ?_
  have e4 : G1 24 = G 24 := by
    obtain ⟨v, q2, e1, e2, e3, e4, e5⟩ := h1
    exact e4
  have hM := cM_undo (q := q) (G := G1) hC.pv (hR.cg e4)
  refine aw_cVi F hRm (o := 24) (c := 8) (stk := [.int r1]) [] (k_X8_undo hPP hM) mv_L8_undo v_1585 cf8 (lo_s rfl) (hPP 24 rfl) rfl (by decide) rfl rfl (Nat.le_of_ble_eq_true rfl) ⟨(Nat.le_of_ble_eq_true rfl), (Nat.le_of_ble_eq_true rfl)⟩ ⟨by omega, by omega⟩ dL_law_2069 (fun r2 G2 h2 => ?_)
  obtain ⟨er, hv⟩ := co_m (kc := kc2) hR h1 (fun _ => h2)
  refine aw_icmp_eq F (tgt := 2169) dL_law_2072 (by decide) (fun _ => ?_) (fun h => absurd er h)
  exact aw_wide (by omega) (by omega) (kk G2 hv)
theorem la_27 (Z : LwF E X b L xs) {i : Nat} (hi : i + 6 ≤ L) (hn1 : n1 + 13 ≤ 600000) (hn2 : n2 + 708 ≤ 7000000) (hC : IC q G) (hR : IR q G) (kk : ∀ G2, Inv G2 → AW E X 7 2169 (lvL X b i) [] G2 (n1 + 13) (n2 + 708)) : AW E X 7 2077 (lvL X b i) [] G n1 n2 := by
  obtain ⟨F, hRm, hl0, hPe, hX, hL⟩ := id Z
  have hPP := Z.pp
  refine aw_al_n F 3 dL_law_2077 rfl rfl ?_
  have hI := cI_image (q := q) (G := G) hC
  refine aw_cV F hRm (o := 0) (c := 7) (stk := []) [] (k_X7_image hPP hPe hI) mv_L7_image v_358 cf7 (lo_s rfl) (hPP 0 rfl) rfl (by decide) rfl rfl (Nat.le_of_ble_eq_true rfl) ⟨(Nat.le_of_ble_eq_true rfl), (Nat.le_of_ble_eq_true rfl)⟩ ⟨by omega, by omega⟩ dL_law_2078 (fun v1 G1 h1 => ?_)
  obtain ⟨rfl, h1⟩ := h1
  refine aw_al_n F 2 dL_law_2081 rfl rfl ?_
  have hM := cM_image (q := q) (G := G1) (hR.cg h1.2.1)
  refine aw_cVv F hRm (o := 24) (c := 8) (stk := []) [] (k_X8_image hPP hM) mv_L8_image v_1627 cf8 (lo_s rfl) (hPP 24 rfl) rfl (by decide) rfl rfl (Nat.le_of_ble_eq_true rfl) ⟨(Nat.le_of_ble_eq_true rfl), (Nat.le_of_ble_eq_true rfl)⟩ ⟨by omega, by omega⟩ dL_law_2082 (fun G2 h2 => ?_)
  refine aw_go F (tgt := 2169) dL_law_2085 (by decide) ?_
  have hc : IC (qim q) G2 := h1.1.fr (W := fun x _ _ => x = 24) (fun a b j hn => by rw [h2.1 a hn]) (fun x c j hw => by omega)
  exact aw_wide (by omega) (by omega) (kk G2 (hc.inv h2.2.2.t))
theorem la_28 (Z : LwF E X b L xs) {i : Nat} (hi : i + 6 ≤ L) (hn1 : n1 + 13 ≤ 600000) (hn2 : n2 + 708 ≤ 7000000) (hC : IC q G) (hR : IR q G) (kk : ∀ G2, Inv G2 → AW E X 7 2169 (lvL X b i) [] G2 (n1 + 13) (n2 + 708)) : AW E X 7 2088 (lvL X b i) [] G n1 n2 := by
  obtain ⟨F, hRm, hl0, hPe, hX, hL⟩ := id Z
  have hPP := Z.pp
  refine aw_al_n F 3 dL_law_2088 rfl rfl ?_
  have hI := cI_back (q := q) (G := G) hC
  refine aw_cVb F hRm (o := 0) (c := 7) (stk := []) [] (k_X7_back hPP hI) mv_L7_back v_363 cf7 (lo_s rfl) (hPP 0 rfl) rfl (by decide) rfl rfl (Nat.le_of_ble_eq_true rfl) ⟨(Nat.le_of_ble_eq_true rfl), (Nat.le_of_ble_eq_true rfl)⟩ ⟨by omega, by omega⟩ dL_law_2089 (fun r1 G1 h1 => ?_)
  refine aw_al_n F 2 dL_law_2092 rfl rfl ?_
  have e4 : G1 24 = G 24 := by
    obtain ⟨v, q2, e1, e2, e3, e4, e5⟩ := h1
    exact e4
  have hM := cM_back (q := q) (G := G1) (hR.cg e4)
  refine aw_cVb F hRm (o := 24) (c := 8) (stk := [.int (bI r1)]) [] (k_X8_back hPP hM) mv_L8_back v_1631 cf8 (lo_s rfl) (hPP 24 rfl) rfl (by decide) rfl rfl (Nat.le_of_ble_eq_true rfl) ⟨(Nat.le_of_ble_eq_true rfl), (Nat.le_of_ble_eq_true rfl)⟩ ⟨by omega, by omega⟩ dL_law_2093 (fun r2 G2 h2 => ?_)
  obtain ⟨er, hv⟩ := co_m (kc := kc2) hR h1 (fun _ => h2)
  refine aw_icmp_eq F (tgt := 2169) dL_law_2096 (by decide) (fun _ => ?_) (fun h => absurd er h)
  exact aw_wide (by omega) (by omega) (kk G2 hv)
end
