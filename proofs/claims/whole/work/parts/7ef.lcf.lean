theorem v_895 : (Jvm.Cond.methodLink "MarkFieldLaw" (148 : Nat) ({ cls := "MarkFieldLaw", name := "shared", desc := "(LMarkField;I[J)I" } : Jvm.MethodName)) ∈ tb := tb_of (List.mem_of_getElem? (i := 895) (by decide +kernel)) rfl
theorem v_896 : (Jvm.Cond.static ({ cls := "MarkFieldLaw", name := "shared", desc := "(LMarkField;I[J)I" } : Jvm.MethodName)) ∈ tb := tb_of (List.mem_of_getElem? (i := 896) (by decide +kernel)) rfl
theorem v_897 : (Jvm.Cond.codeWith ({ cls := "MarkFieldLaw", name := "shared", desc := "(LMarkField;I[J)I" } : Jvm.MethodName) method_13_code (4 : Nat) (Option.some Jvm.ClassFile.FieldType.int) [((0 : Nat), (9 : Nat), (12 : Nat), (13 : Nat))]) ∈ tb := tb_of (List.mem_of_getElem? (i := 897) (by decide +kernel)) rfl
theorem v_910 : (Jvm.Cond.methodLink "MarkFieldLaw" (151 : Nat) ({ cls := "MarkFieldLaw", name := "refused", desc := "(LMarkField;II[J)I" } : Jvm.MethodName)) ∈ tb := tb_of (List.mem_of_getElem? (i := 910) (by decide +kernel)) rfl
theorem v_911 : (Jvm.Cond.static ({ cls := "MarkFieldLaw", name := "refused", desc := "(LMarkField;II[J)I" } : Jvm.MethodName)) ∈ tb := tb_of (List.mem_of_getElem? (i := 911) (by decide +kernel)) rfl
theorem v_912 : (Jvm.Cond.codeWith ({ cls := "MarkFieldLaw", name := "refused", desc := "(LMarkField;II[J)I" } : Jvm.MethodName) method_14_code (5 : Nat) (Option.some Jvm.ClassFile.FieldType.int) [((0 : Nat), (10 : Nat), (13 : Nat), (18 : Nat)), ((0 : Nat), (10 : Nat), (17 : Nat), (13 : Nat))]) ∈ tb := tb_of (List.mem_of_getElem? (i := 912) (by decide +kernel)) rfl
theorem v_1500 : (Jvm.Cond.methodLink "MarkFieldLaw" (150 : Nat) ({ cls := "MarkFieldModel", name := "shared", desc := "(I)I" } : Jvm.MethodName)) ∈ tb := tb_of (List.mem_of_getElem? (i := 1500) (by decide +kernel)) rfl
theorem v_1501 : (Jvm.Cond.instanceMethod ({ cls := "MarkFieldModel", name := "shared", desc := "(I)I" } : Jvm.MethodName)) ∈ tb := tb_of (List.mem_of_getElem? (i := 1501) (by decide +kernel)) rfl
theorem v_1502 : (Jvm.Cond.selects "MarkFieldModel" ({ cls := "MarkFieldModel", name := "shared", desc := "(I)I" } : Jvm.MethodName) ({ cls := "MarkFieldModel", name := "shared", desc := "(I)I" } : Jvm.MethodName)) ∈ tb := tb_of (List.mem_of_getElem? (i := 1502) (by decide +kernel)) rfl
theorem v_1503 : (Jvm.Cond.code ({ cls := "MarkFieldModel", name := "shared", desc := "(I)I" } : Jvm.MethodName) prog_10_method_59_code (7 : Nat) (Option.some Jvm.ClassFile.FieldType.int)) ∈ tb := tb_of (List.mem_of_getElem? (i := 1503) (by decide +kernel)) rfl
theorem v_1508 : (Jvm.Cond.methodLink "MarkFieldLaw" (153 : Nat) ({ cls := "MarkFieldModel", name := "refused", desc := "(II)I" } : Jvm.MethodName)) ∈ tb := tb_of (List.mem_of_getElem? (i := 1508) (by decide +kernel)) rfl
theorem v_1509 : (Jvm.Cond.instanceMethod ({ cls := "MarkFieldModel", name := "refused", desc := "(II)I" } : Jvm.MethodName)) ∈ tb := tb_of (List.mem_of_getElem? (i := 1509) (by decide +kernel)) rfl
theorem v_1510 : (Jvm.Cond.selects "MarkFieldModel" ({ cls := "MarkFieldModel", name := "refused", desc := "(II)I" } : Jvm.MethodName) ({ cls := "MarkFieldModel", name := "refused", desc := "(II)I" } : Jvm.MethodName)) ∈ tb := tb_of (List.mem_of_getElem? (i := 1510) (by decide +kernel)) rfl
theorem v_1511 : (Jvm.Cond.code ({ cls := "MarkFieldModel", name := "refused", desc := "(II)I" } : Jvm.MethodName) prog_10_method_61_code (6 : Nat) (Option.some Jvm.ClassFile.FieldType.int)) ∈ tb := tb_of (List.mem_of_getElem? (i := 1511) (by decide +kernel)) rfl
theorem dL_law_1006 : decode cL_law 1006 = .ok (.aload_n 1, 1) := by decide +kernel
theorem dL_law_1007 : decode cL_law 1007 = .ok (.aload_n 0, 1) := by decide +kernel
theorem dL_law_1008 : decode cL_law 1008 = .ok (.iload 4, 2) := by decide +kernel
theorem dL_law_1010 : decode cL_law 1010 = .ok (.iconst 1, 1) := by decide +kernel
theorem dL_law_1011 : decode cL_law 1011 = .ok (.iadd, 1) := by decide +kernel
theorem dL_law_1012 : decode cL_law 1012 = .ok (.iaload, 1) := by decide +kernel
theorem dL_law_1013 : decode cL_law 1013 = .ok (.aload_n 3, 1) := by decide +kernel
theorem dL_law_1014 : decode cL_law 1014 = .ok (.invokestatic 148, 3) := by decide +kernel
theorem dL_law_1017 : decode cL_law 1017 = .ok (.istore 5, 2) := by decide +kernel
theorem dL_law_1019 : decode cL_law 1019 = .ok (.aload_n 2, 1) := by decide +kernel
theorem dL_law_1020 : decode cL_law 1020 = .ok (.aload_n 0, 1) := by decide +kernel
theorem dL_law_1021 : decode cL_law 1021 = .ok (.iload 4, 2) := by decide +kernel
theorem dL_law_1023 : decode cL_law 1023 = .ok (.iconst 1, 1) := by decide +kernel
theorem dL_law_1024 : decode cL_law 1024 = .ok (.iadd, 1) := by decide +kernel
theorem dL_law_1025 : decode cL_law 1025 = .ok (.iaload, 1) := by decide +kernel
theorem dL_law_1026 : decode cL_law 1026 = .ok (.invokevirtual 150, 3) := by decide +kernel
theorem dL_law_1029 : decode cL_law 1029 = .ok (.istore 6, 2) := by decide +kernel
theorem dL_law_1031 : decode cL_law 1031 = .ok (.aload_n 2, 1) := by decide +kernel
theorem dL_law_1032 : decode cL_law 1032 = .ok (.invokevirtual 109, 3) := by decide +kernel
theorem dL_law_1035 : decode cL_law 1035 = .ok (.iload 5, 2) := by decide +kernel
theorem dL_law_1037 : decode cL_law 1037 = .ok (.if_icmp .eq 5, 3) := by decide +kernel
theorem dL_law_1042 : decode cL_law 1042 = .ok (.iload 5, 2) := by decide +kernel
theorem dL_law_1044 : decode cL_law 1044 = .ok (.ifCond .ne 15, 3) := by decide +kernel
theorem dL_law_1047 : decode cL_law 1047 = .ok (.aload_n 3, 1) := by decide +kernel
theorem dL_law_1048 : decode cL_law 1048 = .ok (.iconst 0, 1) := by decide +kernel
theorem dL_law_1049 : decode cL_law 1049 = .ok (.laload, 1) := by decide +kernel
theorem dL_law_1050 : decode cL_law 1050 = .ok (.iload 6, 2) := by decide +kernel
theorem dL_law_1052 : decode cL_law 1052 = .ok (.i2l, 1) := by decide +kernel
theorem dL_law_1053 : decode cL_law 1053 = .ok (.lcmp, 1) := by decide +kernel
theorem dL_law_1054 : decode cL_law 1054 = .ok (.ifCond .eq 5, 3) := by decide +kernel
theorem dL_law_1059 : decode cL_law 1059 = .ok (.goto 1110, 3) := by decide +kernel
theorem dL_law_1062 : decode cL_law 1062 = .ok (.aload_n 1, 1) := by decide +kernel
theorem dL_law_1063 : decode cL_law 1063 = .ok (.aload_n 0, 1) := by decide +kernel
theorem dL_law_1064 : decode cL_law 1064 = .ok (.iload 4, 2) := by decide +kernel
theorem dL_law_1066 : decode cL_law 1066 = .ok (.iconst 1, 1) := by decide +kernel
theorem dL_law_1067 : decode cL_law 1067 = .ok (.iadd, 1) := by decide +kernel
theorem dL_law_1068 : decode cL_law 1068 = .ok (.iaload, 1) := by decide +kernel
theorem dL_law_1069 : decode cL_law 1069 = .ok (.aload_n 0, 1) := by decide +kernel
theorem dL_law_1070 : decode cL_law 1070 = .ok (.iload 4, 2) := by decide +kernel
theorem dL_law_1072 : decode cL_law 1072 = .ok (.iconst 2, 1) := by decide +kernel
theorem dL_law_1073 : decode cL_law 1073 = .ok (.iadd, 1) := by decide +kernel
theorem dL_law_1074 : decode cL_law 1074 = .ok (.iaload, 1) := by decide +kernel
theorem dL_law_1075 : decode cL_law 1075 = .ok (.aload_n 3, 1) := by decide +kernel
theorem dL_law_1076 : decode cL_law 1076 = .ok (.invokestatic 151, 3) := by decide +kernel
theorem dL_law_1079 : decode cL_law 1079 = .ok (.istore 5, 2) := by decide +kernel
theorem dL_law_1081 : decode cL_law 1081 = .ok (.aload_n 2, 1) := by decide +kernel
theorem dL_law_1082 : decode cL_law 1082 = .ok (.aload_n 0, 1) := by decide +kernel
theorem dL_law_1083 : decode cL_law 1083 = .ok (.iload 4, 2) := by decide +kernel
theorem dL_law_1085 : decode cL_law 1085 = .ok (.iconst 1, 1) := by decide +kernel
theorem dL_law_1086 : decode cL_law 1086 = .ok (.iadd, 1) := by decide +kernel
theorem dL_law_1087 : decode cL_law 1087 = .ok (.iaload, 1) := by decide +kernel
theorem dL_law_1088 : decode cL_law 1088 = .ok (.aload_n 0, 1) := by decide +kernel
theorem dL_law_1089 : decode cL_law 1089 = .ok (.iload 4, 2) := by decide +kernel
theorem dL_law_1091 : decode cL_law 1091 = .ok (.iconst 2, 1) := by decide +kernel
theorem dL_law_1092 : decode cL_law 1092 = .ok (.iadd, 1) := by decide +kernel
theorem dL_law_1093 : decode cL_law 1093 = .ok (.iaload, 1) := by decide +kernel
theorem dL_law_1094 : decode cL_law 1094 = .ok (.invokevirtual 153, 3) := by decide +kernel
theorem dL_law_1097 : decode cL_law 1097 = .ok (.istore 6, 2) := by decide +kernel
theorem dL_law_1099 : decode cL_law 1099 = .ok (.aload_n 2, 1) := by decide +kernel
theorem dL_law_1100 : decode cL_law 1100 = .ok (.invokevirtual 109, 3) := by decide +kernel
theorem dL_law_1103 : decode cL_law 1103 = .ok (.iload 5, 2) := by decide +kernel
theorem dL_law_1105 : decode cL_law 1105 = .ok (.if_icmp .eq 5, 3) := by decide +kernel
theorem dL_law_1110 : decode cL_law 1110 = .ok (.iload 5, 2) := by decide +kernel
theorem dL_law_1112 : decode cL_law 1112 = .ok (.ifCond .ne 15, 3) := by decide +kernel
theorem dL_law_1115 : decode cL_law 1115 = .ok (.aload_n 3, 1) := by decide +kernel
theorem dL_law_1116 : decode cL_law 1116 = .ok (.iconst 0, 1) := by decide +kernel
theorem dL_law_1117 : decode cL_law 1117 = .ok (.laload, 1) := by decide +kernel
theorem dL_law_1118 : decode cL_law 1118 = .ok (.iload 6, 2) := by decide +kernel
theorem dL_law_1120 : decode cL_law 1120 = .ok (.i2l, 1) := by decide +kernel
theorem dL_law_1121 : decode cL_law 1121 = .ok (.lcmp, 1) := by decide +kernel
theorem dL_law_1122 : decode cL_law 1122 = .ok (.ifCond .eq 5, 3) := by decide +kernel
theorem dL_law_1127 : decode cL_law 1127 = .ok (.goto 1042, 3) := by decide +kernel
/-! ===== the law's cases shared refused ===== -/
theorem x_shared {q : Par} {a : Int} {j : Nat} (h : o_shared q a = .inl j) : j = 1 := by
  unfold o_shared at h
  repeat' split at h
  all_goals first | exact (Sum.inl.inj h).symm | exact absurd h (fun e => by cases e)
theorem mv_L8_shared : MV yX8_shared cX8_shared 7 (some .int) 1 := ⟨⟨v_1503, v_10, by decide, by decide, by decide +kernel⟩, v_1501, v_1502⟩
theorem mv_L8_refused : MV yX8_refused cX8_refused 6 (some .int) 2 := ⟨⟨v_1511, v_10, by decide, by decide, by decide +kernel⟩, v_1509, v_1510⟩
section
variable {E : Ev} {X : Cx} {G : GH} {n1 n2 b L : Nat} {xs : Nat → Int32} {q : Par}
theorem la_12 (Z : LwF E X b L xs) {i : Nat} (hi : i + 6 ≤ L) (hn1 : n1 + 13 ≤ 600000) (hn2 : n2 + 708 ≤ 7000000) (hC : IC q G) (hR : IR q G) (kk : ∀ G2, Inv G2 → AW E X 7 2169 (lvL X b i) [] G2 (n1 + 13) (n2 + 708)) : AW E X 7 1006 (lvL X b i) [] G n1 n2 := by
  obtain ⟨F, hRm, hl0, hPe, hX, hL⟩ := id Z
  have hPP := Z.pp
  refine aw_al_n F 3 dL_law_1006 rfl rfl ?_
  refine la_arg F hX (k := 1) hi hL (by decide) 4 0 rfl rfl (kv := (1 : Int32)) (by decide) dL_law_1007 dL_law_1008 dL_law_1010 (by decide) dL_law_1011 dL_law_1012 rfl ?_
  refine aw_al_n F 1 dL_law_1013 rfl rfl ?_
  have hI := cI_shared (q := q) (G := G) (i32_self (xs (i + 1))) hC
  simp only [zI_self] at hI
  have hW : CtW (lX X) yL_shared cL_shared 4 [(0, 9, 12, 13)] 8 1 6 E (PX X) (sdX X) G [.ref (sdX X 0 0), .int (xs (i + 1)), .ref (sdX X 25 1)] (pI (LQ kc1 (o_shared q (xs (i + 1)).toInt) q G)) := by
    refine kL_shared hPP (k_X7_shared hl0 hPP hI) (fun r G1 h => wq_r h) (fun i2 G1 hi2 h => ?_)
    have e0 := x_shared h.1
    subst e0
    exact ⟨rfl, wq_x rfl (by decide) h⟩
  refine aw_cSW F hRm (n := 3) (stk := []) [.ref (sdX X 0 0), .int (xs (i + 1)), .ref (sdX X 25 1)] hW ⟨v_897, v_0, by decide, by decide, by decide +kernel⟩ v_896 v_895 rfl rfl (Nat.le_of_ble_eq_true rfl) ⟨(Nat.le_of_ble_eq_true rfl), (Nat.le_of_ble_eq_true rfl)⟩ ⟨by omega, by omega⟩ dL_law_1014 (fun k G1 hk => ?_)
  refine aw_is F dL_law_1017 (by decide) (lv1 := (5, .int k) :: lvL X b i) rfl ?_
  refine aw_al_n F 3 dL_law_1019 rfl rfl ?_
  refine la_arg F hX (k := 1) hi hL (by decide) 5 1 rfl rfl (kv := (1 : Int32)) (by decide) dL_law_1020 dL_law_1021 dL_law_1023 (by decide) dL_law_1024 dL_law_1025 rfl ?_
  have hM := cM_shared (q := q) (G := G1) (i32_self (xs (i + 1))) hC.pv (hk.ir hR)
  simp only [zI_self] at hM
  refine aw_cVi F hRm (o := 24) (c := 8) (stk := []) [.int (xs (i + 1))] (k_X8_shared hPP hM) mv_L8_shared v_1500 cf8 (lo_s rfl) (hPP 24 rfl) rfl (by decide) rfl rfl (Nat.le_of_ble_eq_true rfl) ⟨(Nat.le_of_ble_eq_true rfl), (Nat.le_of_ble_eq_true rfl)⟩ ⟨by omega, by omega⟩ dL_law_1026 (fun r G2 hr => ?_)
  obtain ⟨e5, er, hv⟩ := wq_m hk hr
  refine la_tail Z (i := i) e5 er (by omega) (by omega) dL_law_1029 dL_law_1031 dL_law_1032 dL_law_1035 dL_law_1037 dL_law_1042 dL_law_1044 dL_law_1047 dL_law_1048 dL_law_1049 dL_law_1050 dL_law_1052 dL_law_1053 dL_law_1054 dL_law_1059 (by decide) ?_
  exact aw_wide (by omega) (by omega) (kk G2 hv)
theorem la_13 (Z : LwF E X b L xs) {i : Nat} (hi : i + 6 ≤ L) (hn1 : n1 + 13 ≤ 600000) (hn2 : n2 + 708 ≤ 7000000) (hC : IC q G) (hR : IR q G) (kk : ∀ G2, Inv G2 → AW E X 7 2169 (lvL X b i) [] G2 (n1 + 13) (n2 + 708)) : AW E X 7 1062 (lvL X b i) [] G n1 n2 := by
  obtain ⟨F, hRm, hl0, hPe, hX, hL⟩ := id Z
  have hPP := Z.pp
  refine aw_al_n F 3 dL_law_1062 rfl rfl ?_
  refine la_arg F hX (k := 1) hi hL (by decide) 4 0 rfl rfl (kv := (1 : Int32)) (by decide) dL_law_1063 dL_law_1064 dL_law_1066 (by decide) dL_law_1067 dL_law_1068 rfl ?_
  refine la_arg F hX (k := 2) hi hL (by decide) 4 0 rfl rfl (kv := (2 : Int32)) (by decide) dL_law_1069 dL_law_1070 dL_law_1072 (by decide) dL_law_1073 dL_law_1074 rfl ?_
  refine aw_al_n F 1 dL_law_1075 rfl rfl ?_
  have hI := cI_refused (q := q) (G := G) (i32_self (xs (i + 1))) (i32_self (xs (i + 2))) hC
  simp only [zI_self] at hI
  have hW : CtW (lX X) yL_refused cL_refused 5 [(0, 10, 13, 18), (0, 10, 17, 13)] 8 2 12 E (PX X) (sdX X) G [.ref (sdX X 0 0), .int (xs (i + 1)), .int (xs (i + 2)), .ref (sdX X 25 1)] (pI (LQ kc2 (o_refused q (xs (i + 1)).toInt (xs (i + 2)).toInt) q G)) := by
    refine kL_refused hPP (k_X7_refused hl0 hPP hI) (fun r G1 h => wq_r h) (fun i2 G1 hi2 h => ?_)
    exact ⟨fun e0 => by subst e0; exact wq_x rfl (by decide) h, fun e0 => by subst e0; exact wq_x rfl (by decide) h⟩
  refine aw_cSW F hRm (n := 4) (stk := []) [.ref (sdX X 0 0), .int (xs (i + 1)), .int (xs (i + 2)), .ref (sdX X 25 1)] hW ⟨v_912, v_0, by decide, by decide, by decide +kernel⟩ v_911 v_910 rfl rfl (Nat.le_of_ble_eq_true rfl) ⟨(Nat.le_of_ble_eq_true rfl), (Nat.le_of_ble_eq_true rfl)⟩ ⟨by omega, by omega⟩ dL_law_1076 (fun k G1 hk => ?_)
  refine aw_is F dL_law_1079 (by decide) (lv1 := (5, .int k) :: lvL X b i) rfl ?_
  refine aw_al_n F 3 dL_law_1081 rfl rfl ?_
  refine la_arg F hX (k := 1) hi hL (by decide) 5 1 rfl rfl (kv := (1 : Int32)) (by decide) dL_law_1082 dL_law_1083 dL_law_1085 (by decide) dL_law_1086 dL_law_1087 rfl ?_
  refine la_arg F hX (k := 2) hi hL (by decide) 5 1 rfl rfl (kv := (2 : Int32)) (by decide) dL_law_1088 dL_law_1089 dL_law_1091 (by decide) dL_law_1092 dL_law_1093 rfl ?_
  have hM := cM_refused (q := q) (G := G1) (i32_self (xs (i + 1))) (i32_self (xs (i + 2))) hC.pv (hk.ir hR)
  simp only [zI_self] at hM
  refine aw_cVi F hRm (o := 24) (c := 8) (stk := []) [.int (xs (i + 1)), .int (xs (i + 2))] (k_X8_refused hPP hM) mv_L8_refused v_1508 cf8 (lo_s rfl) (hPP 24 rfl) rfl (by decide) rfl rfl (Nat.le_of_ble_eq_true rfl) ⟨(Nat.le_of_ble_eq_true rfl), (Nat.le_of_ble_eq_true rfl)⟩ ⟨by omega, by omega⟩ dL_law_1094 (fun r G2 hr => ?_)
  obtain ⟨e5, er, hv⟩ := wq_m hk hr
  refine la_tail Z (i := i) e5 er (by omega) (by omega) dL_law_1097 dL_law_1099 dL_law_1100 dL_law_1103 dL_law_1105 dL_law_1110 dL_law_1112 dL_law_1115 dL_law_1116 dL_law_1117 dL_law_1118 dL_law_1120 dL_law_1121 dL_law_1122 dL_law_1127 (by decide) ?_
  exact aw_wide (by omega) (by omega) (kk G2 hv)
end
