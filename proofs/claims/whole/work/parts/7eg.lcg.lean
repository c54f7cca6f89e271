theorem v_917 : (Jvm.Cond.methodLink "MarkFieldLaw" (154 : Nat) ({ cls := "MarkFieldLaw", name := "firstDay", desc := "(LMarkField;II[J)I" } : Jvm.MethodName)) ∈ tb := tb_of (List.mem_of_getElem? (i := 917) (by decide +kernel)) rfl
theorem v_918 : (Jvm.Cond.static ({ cls := "MarkFieldLaw", name := "firstDay", desc := "(LMarkField;II[J)I" } : Jvm.MethodName)) ∈ tb := tb_of (List.mem_of_getElem? (i := 918) (by decide +kernel)) rfl
theorem v_919 : (Jvm.Cond.codeWith ({ cls := "MarkFieldLaw", name := "firstDay", desc := "(LMarkField;II[J)I" } : Jvm.MethodName) method_15_code (5 : Nat) (Option.some Jvm.ClassFile.FieldType.int) [((0 : Nat), (10 : Nat), (13 : Nat), (18 : Nat))]) ∈ tb := tb_of (List.mem_of_getElem? (i := 919) (by decide +kernel)) rfl
theorem v_931 : (Jvm.Cond.methodLink "MarkFieldLaw" (157 : Nat) ({ cls := "MarkFieldLaw", name := "would", desc := "(LMarkField;IIII[J)I" } : Jvm.MethodName)) ∈ tb := tb_of (List.mem_of_getElem? (i := 931) (by decide +kernel)) rfl
theorem v_932 : (Jvm.Cond.static ({ cls := "MarkFieldLaw", name := "would", desc := "(LMarkField;IIII[J)I" } : Jvm.MethodName)) ∈ tb := tb_of (List.mem_of_getElem? (i := 932) (by decide +kernel)) rfl
theorem v_933 : (Jvm.Cond.codeWith ({ cls := "MarkFieldLaw", name := "would", desc := "(LMarkField;IIII[J)I" } : Jvm.MethodName) method_16_code (7 : Nat) (Option.some Jvm.ClassFile.FieldType.int) [((0 : Nat), (14 : Nat), (17 : Nat), (18 : Nat)), ((0 : Nat), (14 : Nat), (21 : Nat), (13 : Nat))]) ∈ tb := tb_of (List.mem_of_getElem? (i := 933) (by decide +kernel)) rfl
theorem v_1516 : (Jvm.Cond.methodLink "MarkFieldLaw" (156 : Nat) ({ cls := "MarkFieldModel", name := "firstDay", desc := "(II)I" } : Jvm.MethodName)) ∈ tb := tb_of (List.mem_of_getElem? (i := 1516) (by decide +kernel)) rfl
theorem v_1517 : (Jvm.Cond.instanceMethod ({ cls := "MarkFieldModel", name := "firstDay", desc := "(II)I" } : Jvm.MethodName)) ∈ tb := tb_of (List.mem_of_getElem? (i := 1517) (by decide +kernel)) rfl
theorem v_1518 : (Jvm.Cond.selects "MarkFieldModel" ({ cls := "MarkFieldModel", name := "firstDay", desc := "(II)I" } : Jvm.MethodName) ({ cls := "MarkFieldModel", name := "firstDay", desc := "(II)I" } : Jvm.MethodName)) ∈ tb := tb_of (List.mem_of_getElem? (i := 1518) (by decide +kernel)) rfl
theorem v_1519 : (Jvm.Cond.code ({ cls := "MarkFieldModel", name := "firstDay", desc := "(II)I" } : Jvm.MethodName) prog_10_method_64_code (5 : Nat) (Option.some Jvm.ClassFile.FieldType.int)) ∈ tb := tb_of (List.mem_of_getElem? (i := 1519) (by decide +kernel)) rfl
theorem v_1536 : (Jvm.Cond.methodLink "MarkFieldLaw" (159 : Nat) ({ cls := "MarkFieldModel", name := "would", desc := "(IIII)I" } : Jvm.MethodName)) ∈ tb := tb_of (List.mem_of_getElem? (i := 1536) (by decide +kernel)) rfl
theorem v_1537 : (Jvm.Cond.instanceMethod ({ cls := "MarkFieldModel", name := "would", desc := "(IIII)I" } : Jvm.MethodName)) ∈ tb := tb_of (List.mem_of_getElem? (i := 1537) (by decide +kernel)) rfl
theorem v_1538 : (Jvm.Cond.selects "MarkFieldModel" ({ cls := "MarkFieldModel", name := "would", desc := "(IIII)I" } : Jvm.MethodName) ({ cls := "MarkFieldModel", name := "would", desc := "(IIII)I" } : Jvm.MethodName)) ∈ tb := tb_of (List.mem_of_getElem? (i := 1538) (by decide +kernel)) rfl
theorem v_1539 : (Jvm.Cond.code ({ cls := "MarkFieldModel", name := "would", desc := "(IIII)I" } : Jvm.MethodName) prog_10_method_73_code (7 : Nat) (Option.some Jvm.ClassFile.FieldType.int)) ∈ tb := tb_of (List.mem_of_getElem? (i := 1539) (by decide +kernel)) rfl
theorem dL_law_1130 : decode cL_law 1130 = .ok (.aload_n 1, 1) := by decide +kernel
theorem dL_law_1131 : decode cL_law 1131 = .ok (.aload_n 0, 1) := by decide +kernel
theorem dL_law_1132 : decode cL_law 1132 = .ok (.iload 4, 2) := by decide +kernel
theorem dL_law_1134 : decode cL_law 1134 = .ok (.iconst 1, 1) := by decide +kernel
theorem dL_law_1135 : decode cL_law 1135 = .ok (.iadd, 1) := by decide +kernel
theorem dL_law_1136 : decode cL_law 1136 = .ok (.iaload, 1) := by decide +kernel
theorem dL_law_1137 : decode cL_law 1137 = .ok (.aload_n 0, 1) := by decide +kernel
theorem dL_law_1138 : decode cL_law 1138 = .ok (.iload 4, 2) := by decide +kernel
theorem dL_law_1140 : decode cL_law 1140 = .ok (.iconst 2, 1) := by decide +kernel
theorem dL_law_1141 : decode cL_law 1141 = .ok (.iadd, 1) := by decide +kernel
theorem dL_law_1142 : decode cL_law 1142 = .ok (.iaload, 1) := by decide +kernel
theorem dL_law_1143 : decode cL_law 1143 = .ok (.aload_n 3, 1) := by decide +kernel
theorem dL_law_1144 : decode cL_law 1144 = .ok (.invokestatic 154, 3) := by decide +kernel
theorem dL_law_1147 : decode cL_law 1147 = .ok (.istore 5, 2) := by decide +kernel
theorem dL_law_1149 : decode cL_law 1149 = .ok (.aload_n 2, 1) := by decide +kernel
theorem dL_law_1150 : decode cL_law 1150 = .ok (.aload_n 0, 1) := by decide +kernel
theorem dL_law_1151 : decode cL_law 1151 = .ok (.iload 4, 2) := by decide +kernel
theorem dL_law_1153 : decode cL_law 1153 = .ok (.iconst 1, 1) := by decide +kernel
theorem dL_law_1154 : decode cL_law 1154 = .ok (.iadd, 1) := by decide +kernel
theorem dL_law_1155 : decode cL_law 1155 = .ok (.iaload, 1) := by decide +kernel
theorem dL_law_1156 : decode cL_law 1156 = .ok (.aload_n 0, 1) := by decide +kernel
theorem dL_law_1157 : decode cL_law 1157 = .ok (.iload 4, 2) := by decide +kernel
theorem dL_law_1159 : decode cL_law 1159 = .ok (.iconst 2, 1) := by decide +kernel
theorem dL_law_1160 : decode cL_law 1160 = .ok (.iadd, 1) := by decide +kernel
theorem dL_law_1161 : decode cL_law 1161 = .ok (.iaload, 1) := by decide +kernel
theorem dL_law_1162 : decode cL_law 1162 = .ok (.invokevirtual 156, 3) := by decide +kernel
theorem dL_law_1165 : decode cL_law 1165 = .ok (.istore 6, 2) := by decide +kernel
theorem dL_law_1167 : decode cL_law 1167 = .ok (.aload_n 2, 1) := by decide +kernel
theorem dL_law_1168 : decode cL_law 1168 = .ok (.invokevirtual 109, 3) := by decide +kernel
theorem dL_law_1171 : decode cL_law 1171 = .ok (.iload 5, 2) := by decide +kernel
theorem dL_law_1173 : decode cL_law 1173 = .ok (.if_icmp .eq 5, 3) := by decide +kernel
theorem dL_law_1178 : decode cL_law 1178 = .ok (.iload 5, 2) := by decide +kernel
theorem dL_law_1180 : decode cL_law 1180 = .ok (.ifCond .ne 15, 3) := by decide +kernel
theorem dL_law_1183 : decode cL_law 1183 = .ok (.aload_n 3, 1) := by decide +kernel
theorem dL_law_1184 : decode cL_law 1184 = .ok (.iconst 0, 1) := by decide +kernel
theorem dL_law_1185 : decode cL_law 1185 = .ok (.laload, 1) := by decide +kernel
theorem dL_law_1186 : decode cL_law 1186 = .ok (.iload 6, 2) := by decide +kernel
theorem dL_law_1188 : decode cL_law 1188 = .ok (.i2l, 1) := by decide +kernel
theorem dL_law_1189 : decode cL_law 1189 = .ok (.lcmp, 1) := by decide +kernel
theorem dL_law_1190 : decode cL_law 1190 = .ok (.ifCond .eq 5, 3) := by decide +kernel
theorem dL_law_1195 : decode cL_law 1195 = .ok (.goto 974, 3) := by decide +kernel
theorem dL_law_1198 : decode cL_law 1198 = .ok (.aload_n 1, 1) := by decide +kernel
theorem dL_law_1199 : decode cL_law 1199 = .ok (.aload_n 0, 1) := by decide +kernel
theorem dL_law_1200 : decode cL_law 1200 = .ok (.iload 4, 2) := by decide +kernel
theorem dL_law_1202 : decode cL_law 1202 = .ok (.iconst 1, 1) := by decide +kernel
theorem dL_law_1203 : decode cL_law 1203 = .ok (.iadd, 1) := by decide +kernel
theorem dL_law_1204 : decode cL_law 1204 = .ok (.iaload, 1) := by decide +kernel
theorem dL_law_1205 : decode cL_law 1205 = .ok (.aload_n 0, 1) := by decide +kernel
theorem dL_law_1206 : decode cL_law 1206 = .ok (.iload 4, 2) := by decide +kernel
theorem dL_law_1208 : decode cL_law 1208 = .ok (.iconst 2, 1) := by decide +kernel
theorem dL_law_1209 : decode cL_law 1209 = .ok (.iadd, 1) := by decide +kernel
theorem dL_law_1210 : decode cL_law 1210 = .ok (.iaload, 1) := by decide +kernel
theorem dL_law_1211 : decode cL_law 1211 = .ok (.aload_n 0, 1) := by decide +kernel
theorem dL_law_1212 : decode cL_law 1212 = .ok (.iload 4, 2) := by decide +kernel
theorem dL_law_1214 : decode cL_law 1214 = .ok (.iconst 3, 1) := by decide +kernel
theorem dL_law_1215 : decode cL_law 1215 = .ok (.iadd, 1) := by decide +kernel
theorem dL_law_1216 : decode cL_law 1216 = .ok (.iaload, 1) := by decide +kernel
theorem dL_law_1217 : decode cL_law 1217 = .ok (.aload_n 0, 1) := by decide +kernel
theorem dL_law_1218 : decode cL_law 1218 = .ok (.iload 4, 2) := by decide +kernel
theorem dL_law_1220 : decode cL_law 1220 = .ok (.iconst 4, 1) := by decide +kernel
theorem dL_law_1221 : decode cL_law 1221 = .ok (.iadd, 1) := by decide +kernel
theorem dL_law_1222 : decode cL_law 1222 = .ok (.iaload, 1) := by decide +kernel
theorem dL_law_1223 : decode cL_law 1223 = .ok (.aload_n 3, 1) := by decide +kernel
theorem dL_law_1224 : decode cL_law 1224 = .ok (.invokestatic 157, 3) := by decide +kernel
theorem dL_law_1227 : decode cL_law 1227 = .ok (.istore 5, 2) := by decide +kernel
theorem dL_law_1229 : decode cL_law 1229 = .ok (.aload_n 2, 1) := by decide +kernel
theorem dL_law_1230 : decode cL_law 1230 = .ok (.aload_n 0, 1) := by decide +kernel
theorem dL_law_1231 : decode cL_law 1231 = .ok (.iload 4, 2) := by decide +kernel
theorem dL_law_1233 : decode cL_law 1233 = .ok (.iconst 1, 1) := by decide +kernel
theorem dL_law_1234 : decode cL_law 1234 = .ok (.iadd, 1) := by decide +kernel
theorem dL_law_1235 : decode cL_law 1235 = .ok (.iaload, 1) := by decide +kernel
theorem dL_law_1236 : decode cL_law 1236 = .ok (.aload_n 0, 1) := by decide +kernel
theorem dL_law_1237 : decode cL_law 1237 = .ok (.iload 4, 2) := by decide +kernel
theorem dL_law_1239 : decode cL_law 1239 = .ok (.iconst 2, 1) := by decide +kernel
theorem dL_law_1240 : decode cL_law 1240 = .ok (.iadd, 1) := by decide +kernel
theorem dL_law_1241 : decode cL_law 1241 = .ok (.iaload, 1) := by decide +kernel
theorem dL_law_1242 : decode cL_law 1242 = .ok (.aload_n 0, 1) := by decide +kernel
theorem dL_law_1243 : decode cL_law 1243 = .ok (.iload 4, 2) := by decide +kernel
theorem dL_law_1245 : decode cL_law 1245 = .ok (.iconst 3, 1) := by decide +kernel
theorem dL_law_1246 : decode cL_law 1246 = .ok (.iadd, 1) := by decide +kernel
theorem dL_law_1247 : decode cL_law 1247 = .ok (.iaload, 1) := by decide +kernel
theorem dL_law_1248 : decode cL_law 1248 = .ok (.aload_n 0, 1) := by decide +kernel
theorem dL_law_1249 : decode cL_law 1249 = .ok (.iload 4, 2) := by decide +kernel
theorem dL_law_1251 : decode cL_law 1251 = .ok (.iconst 4, 1) := by decide +kernel
theorem dL_law_1252 : decode cL_law 1252 = .ok (.iadd, 1) := by decide +kernel
theorem dL_law_1253 : decode cL_law 1253 = .ok (.iaload, 1) := by decide +kernel
theorem dL_law_1254 : decode cL_law 1254 = .ok (.invokevirtual 159, 3) := by decide +kernel
theorem dL_law_1257 : decode cL_law 1257 = .ok (.istore 6, 2) := by decide +kernel
theorem dL_law_1259 : decode cL_law 1259 = .ok (.aload_n 2, 1) := by decide +kernel
theorem dL_law_1260 : decode cL_law 1260 = .ok (.invokevirtual 109, 3) := by decide +kernel
theorem dL_law_1263 : decode cL_law 1263 = .ok (.iload 5, 2) := by decide +kernel
theorem dL_law_1265 : decode cL_law 1265 = .ok (.if_icmp .eq 5, 3) := by decide +kernel
theorem dL_law_1270 : decode cL_law 1270 = .ok (.iload 5, 2) := by decide +kernel
theorem dL_law_1272 : decode cL_law 1272 = .ok (.ifCond .ne 15, 3) := by decide +kernel
theorem dL_law_1275 : decode cL_law 1275 = .ok (.aload_n 3, 1) := by decide +kernel
theorem dL_law_1276 : decode cL_law 1276 = .ok (.iconst 0, 1) := by decide +kernel
theorem dL_law_1277 : decode cL_law 1277 = .ok (.laload, 1) := by decide +kernel
theorem dL_law_1278 : decode cL_law 1278 = .ok (.iload 6, 2) := by decide +kernel
theorem dL_law_1280 : decode cL_law 1280 = .ok (.i2l, 1) := by decide +kernel
theorem dL_law_1281 : decode cL_law 1281 = .ok (.lcmp, 1) := by decide +kernel
theorem dL_law_1282 : decode cL_law 1282 = .ok (.ifCond .eq 5, 3) := by decide +kernel
theorem dL_law_1287 : decode cL_law 1287 = .ok (.goto 882, 3) := by decide +kernel
/-! ===== the law's cases firstDay would ===== -/
theorem x_firstDay {q : Par} {a b : Int} {j : Nat} (h : o_firstDay q a b = .inl j) : j = 0 := by
  unfold o_firstDay at h
  repeat' split at h
  all_goals first | exact (Sum.inl.inj h).symm | exact absurd h (fun e => by cases e)
theorem mv_L8_firstDay : MV yX8_firstDay cX8_firstDay 5 (some .int) 2 := ⟨⟨v_1519, v_10, by decide, by decide, by decide +kernel⟩, v_1517, v_1518⟩
theorem mv_L8_would : MV yX8_would cX8_would 7 (some .int) 4 := ⟨⟨v_1539, v_10, by decide, by decide, by decide +kernel⟩, v_1537, v_1538⟩
section
variable {E : Ev} {X : Cx} {G : GH} {n1 n2 b L : Nat} {xs : Nat → Int32} {q : Par}
theorem la_14 (Z : LwF E X b L xs) {i : Nat} (hi : i + 6 ≤ L) (hn1 : n1 + 13 ≤ 600000) (hn2 : n2 + 708 ≤ 7000000) (hC : IC q G) (hR : IR q G) (kk : ∀ G2, Inv G2 → AW E X 7 2169 (lvL X b i) [] G2 (n1 + 13) (n2 + 708)) : AW E X 7 1130 (lvL X b i) [] G n1 n2 := by
  obtain ⟨F, hRm, hl0, hPe, hX, hL⟩ := id Z
  have hPP := Z.pp
  refine aw_al_n F 3 dL_law_1130 rfl rfl ?_
  refine la_arg F hX (k := 1) hi hL (by decide) 4 0 rfl rfl (kv := (1 : Int32)) (by decide) dL_law_1131 dL_law_1132 dL_law_1134 (by decide) dL_law_1135 dL_law_1136 rfl ?_
  refine la_arg F hX (k := 2) hi hL (by decide) 4 0 rfl rfl (kv := (2 : Int32)) (by decide) dL_law_1137 dL_law_1138 dL_law_1140 (by decide) dL_law_1141 dL_law_1142 rfl ?_
  refine aw_al_n F 1 dL_law_1143 rfl rfl ?_
  have hI := cI_firstDay (q := q) (G := G) (i32_self (xs (i + 1))) (i32_self (xs (i + 2))) hC
  simp only [zI_self] at hI
  have hW : CtW (lX X) yL_firstDay cL_firstDay 5 [(0, 10, 13, 18)] 8 2 12 E (PX X) (sdX X) G [.ref (sdX X 0 0), .int (xs (i + 1)), .int (xs (i + 2)), .ref (sdX X 25 1)] (pI (LQ kc2 (o_firstDay q (xs (i + 1)).toInt (xs (i + 2)).toInt) q G)) := by
    refine kL_firstDay hPP (k_X7_firstDay hl0 hPP hI) (fun r G1 h => wq_r h) (fun i2 G1 hi2 h => ?_)
    have e0 := x_firstDay h.1
    subst e0
    exact ⟨rfl, wq_x rfl (by decide) h⟩
  refine aw_cSW F hRm (n := 4) (stk := []) [.ref (sdX X 0 0), .int (xs (i + 1)), .int (xs (i + 2)), .ref (sdX X 25 1)] hW ⟨v_919, v_0, by decide, by decide, by decide +kernel⟩ v_918 v_917 rfl rfl (Nat.le_of_ble_eq_true rfl) ⟨(Nat.le_of_ble_eq_true rfl), (Nat.le_of_ble_eq_true rfl)⟩ ⟨by omega, by omega⟩ dL_law_1144 (fun k G1 hk => ?_)
  refine aw_is F dL_law_1147 (by decide) (lv1 := (5, .int k) :: lvL X b i) rfl ?_
  refine aw_al_n F 3 dL_law_1149 rfl rfl ?_
  refine la_arg F hX (k := 1) hi hL (by decide) 5 1 rfl rfl (kv := (1 : Int32)) (by decide) dL_law_1150 dL_law_1151 dL_law_1153 (by decide) dL_law_1154 dL_law_1155 rfl ?_
  refine la_arg F hX (k := 2) hi hL (by decide) 5 1 rfl rfl (kv := (2 : Int32)) (by decide) dL_law_1156 dL_law_1157 dL_law_1159 (by decide) dL_law_1160 dL_law_1161 rfl ?_
  have hM := cM_firstDay (q := q) (G := G1) (i32_self (xs (i + 1))) (i32_self (xs (i + 2))) hC.pv (hk.ir hR)
  simp only [zI_self] at hM
  refine aw_cVi F hRm (o := 24) (c := 8) (stk := []) [.int (xs (i + 1)), .int (xs (i + 2))] (k_X8_firstDay hPP hM) mv_L8_firstDay v_1516 cf8 (lo_s rfl) (hPP 24 rfl) rfl (by decide) rfl rfl (Nat.le_of_ble_eq_true rfl) ⟨(Nat.le_of_ble_eq_true rfl), (Nat.le_of_ble_eq_true rfl)⟩ ⟨by omega, by omega⟩ dL_law_1162 (fun r G2 hr => ?_)
  obtain ⟨e5, er, hv⟩ := wq_m hk hr
  refine la_tail Z (i := i) e5 er (by omega) (by omega) dL_law_1165 dL_law_1167 dL_law_1168 dL_law_1171 dL_law_1173 dL_law_1178 dL_law_1180 dL_law_1183 dL_law_1184 dL_law_1185 dL_law_1186 dL_law_1188 dL_law_1189 dL_law_1190 dL_law_1195 (by decide) ?_
  exact aw_wide (by omega) (by omega) (kk G2 hv)
theorem la_15 (Z : LwF E X b L xs) {i : Nat} (hi : i + 6 ≤ L) (hn1 : n1 + 13 ≤ 600000) (hn2 : n2 + 708 ≤ 7000000) (hC : IC q G) (hR : IR q G) (kk : ∀ G2, Inv G2 → AW E X 7 2169 (lvL X b i) [] G2 (n1 + 13) (n2 + 708)) : AW E X 7 1198 (lvL X b i) [] G n1 n2 := by
  obtain ⟨F, hRm, hl0, hPe, hX, hL⟩ := id Z
  have hPP := Z.pp
  refine aw_al_n F 3 dL_law_1198 rfl rfl ?_
  refine la_arg F hX (k := 1) hi hL (by decide) 4 0 rfl rfl (kv := (1 : Int32)) (by decide) dL_law_1199 dL_law_1200 dL_law_1202 (by decide) dL_law_1203 dL_law_1204 rfl ?_
  refine la_arg F hX (k := 2) hi hL (by decide) 4 0 rfl rfl (kv := (2 : Int32)) (by decide) dL_law_1205 dL_law_1206 dL_law_1208 (by decide) dL_law_1209 dL_law_1210 rfl ?_
  refine la_arg F hX (k := 3) hi hL (by decide) 4 0 rfl rfl (kv := (3 : Int32)) (by decide) dL_law_1211 dL_law_1212 dL_law_1214 (by decide) dL_law_1215 dL_law_1216 rfl ?_
  refine la_arg F hX (k := 4) hi hL (by decide) 4 0 rfl rfl (kv := (4 : Int32)) (by decide) dL_law_1217 dL_law_1218 dL_law_1220 (by decide) dL_law_1221 dL_law_1222 rfl ?_
  refine aw_al_n F 1 dL_law_1223 rfl rfl ?_
  have hI := cI_would (q := q) (G := G) (i32_self (xs (i + 1))) (i32_self (xs (i + 2))) (i32_self (xs (i + 3))) (i32_self (xs (i + 4))) hC
  simp only [zI_self] at hI
  have hW : CtW (lX X) yL_would cL_would 7 [(0, 14, 17, 18), (0, 14, 21, 13)] 9 4 24 E (PX X) (sdX X) G [.ref (sdX X 0 0), .int (xs (i + 1)), .int (xs (i + 2)), .int (xs (i + 3)), .int (xs (i + 4)), .ref (sdX X 25 1)] (pI (LQ kc2 (o_would q (xs (i + 1)).toInt (xs (i + 2)).toInt (xs (i + 3)).toInt (xs (i + 4)).toInt) q G)) := by
    refine kL_would hPP (k_X7_would hl0 hPP hI) (fun r G1 h => wq_r h) (fun i2 G1 hi2 h => ?_)
    exact ⟨fun e0 => by subst e0; exact wq_x rfl (by decide) h, fun e0 => by subst e0; exact wq_x rfl (by decide) h⟩
  refine aw_cSW F hRm (n := 6) (stk := []) [.ref (sdX X 0 0), .int (xs (i + 1)), .int (xs (i + 2)), .int (xs (i + 3)), .int (xs (i + 4)), .ref (sdX X 25 1)] hW ⟨v_933, v_0, by decide, by decide, by decide +kernel⟩ v_932 v_931 rfl rfl (Nat.le_of_ble_eq_true rfl) ⟨(Nat.le_of_ble_eq_true rfl), (Nat.le_of_ble_eq_true rfl)⟩ ⟨by omega, by omega⟩ dL_law_1224 (fun k G1 hk => ?_)
  refine aw_is F dL_law_1227 (by decide) (lv1 := (5, .int k) :: lvL X b i) rfl ?_
  refine aw_al_n F 3 dL_law_1229 rfl rfl ?_
  refine la_arg F hX (k := 1) hi hL (by decide) 5 1 rfl rfl (kv := (1 : Int32)) (by decide) dL_law_1230 dL_law_1231 dL_law_1233 (by decide) dL_law_1234 dL_law_1235 rfl ?_
  refine la_arg F hX (k := 2) hi hL (by decide) 5 1 rfl rfl (kv := (2 : Int32)) (by decide) dL_law_1236 dL_law_1237 dL_law_1239 (by decide) dL_law_1240 dL_law_1241 rfl ?_
  refine la_arg F hX (k := 3) hi hL (by decide) 5 1 rfl rfl (kv := (3 : Int32)) (by decide) dL_law_1242 dL_law_1243 dL_law_1245 (by decide) dL_law_1246 dL_law_1247 rfl ?_
  refine la_arg F hX (k := 4) hi hL (by decide) 5 1 rfl rfl (kv := (4 : Int32)) (by decide) dL_law_1248 dL_law_1249 dL_law_1251 (by decide) dL_law_1252 dL_law_1253 rfl ?_
  have hM := cM_would (q := q) (G := G1) (i32_self (xs (i + 1))) (i32_self (xs (i + 2))) (i32_self (xs (i + 3))) (i32_self (xs (i + 4))) hC.pv (hk.ir hR)
  simp only [zI_self] at hM
  refine aw_cVi F hRm (o := 24) (c := 8) (stk := []) [.int (xs (i + 1)), .int (xs (i + 2)), .int (xs (i + 3)), .int (xs (i + 4))] (k_X8_would hPP hM) mv_L8_would v_1536 cf8 (lo_s rfl) (hPP 24 rfl) rfl (by decide) rfl rfl (Nat.le_of_ble_eq_true rfl) ⟨(Nat.le_of_ble_eq_true rfl), (Nat.le_of_ble_eq_true rfl)⟩ ⟨by omega, by omega⟩ dL_law_1254 (fun r G2 hr => ?_)
  obtain ⟨e5, er, hv⟩ := wq_m hk hr
  refine la_tail Z (i := i) e5 er (by omega) (by omega) dL_law_1257 dL_law_1259 dL_law_1260 dL_law_1263 dL_law_1265 dL_law_1270 dL_law_1272 dL_law_1275 dL_law_1276 dL_law_1277 dL_law_1278 dL_law_1280 dL_law_1281 dL_law_1282 dL_law_1287 (by decide) ?_
  exact aw_wide (by omega) (by omega) (kk G2 hv)
end
