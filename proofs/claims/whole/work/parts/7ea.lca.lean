theorem v_0 : (Jvm.Cond.initialized "MarkFieldLaw") ∈ tb := tb_of (List.mem_of_getElem? (i := 0) (by decide +kernel)) rfl
theorem v_334 : (Jvm.Cond.methodLink "MarkFieldLaw" (98 : Nat) ({ cls := "MarkField", name := "feed", desc := "(IIIII)I" } : Jvm.MethodName)) ∈ tb := tb_of (List.mem_of_getElem? (i := 334) (by decide +kernel)) rfl
theorem v_335 : (Jvm.Cond.instanceMethod ({ cls := "MarkField", name := "feed", desc := "(IIIII)I" } : Jvm.MethodName)) ∈ tb := tb_of (List.mem_of_getElem? (i := 335) (by decide +kernel)) rfl
theorem v_336 : (Jvm.Cond.selects "MarkField" ({ cls := "MarkField", name := "feed", desc := "(IIIII)I" } : Jvm.MethodName) ({ cls := "MarkField", name := "feed", desc := "(IIIII)I" } : Jvm.MethodName)) ∈ tb := tb_of (List.mem_of_getElem? (i := 336) (by decide +kernel)) rfl
theorem v_337 : (Jvm.Cond.code ({ cls := "MarkField", name := "feed", desc := "(IIIII)I" } : Jvm.MethodName) prog_1_method_2_code (6 : Nat) (Option.some Jvm.ClassFile.FieldType.int)) ∈ tb := tb_of (List.mem_of_getElem? (i := 337) (by decide +kernel)) rfl
theorem v_342 : (Jvm.Cond.methodLink "MarkFieldLaw" (113 : Nat) ({ cls := "MarkField", name := "fault", desc := "()I" } : Jvm.MethodName)) ∈ tb := tb_of (List.mem_of_getElem? (i := 342) (by decide +kernel)) rfl
theorem v_343 : (Jvm.Cond.instanceMethod ({ cls := "MarkField", name := "fault", desc := "()I" } : Jvm.MethodName)) ∈ tb := tb_of (List.mem_of_getElem? (i := 343) (by decide +kernel)) rfl
theorem v_344 : (Jvm.Cond.selects "MarkField" ({ cls := "MarkField", name := "fault", desc := "()I" } : Jvm.MethodName) ({ cls := "MarkField", name := "fault", desc := "()I" } : Jvm.MethodName)) ∈ tb := tb_of (List.mem_of_getElem? (i := 344) (by decide +kernel)) rfl
theorem v_345 : (Jvm.Cond.code ({ cls := "MarkField", name := "fault", desc := "()I" } : Jvm.MethodName) prog_1_method_4_code (1 : Nat) (Option.some Jvm.ClassFile.FieldType.int)) ∈ tb := tb_of (List.mem_of_getElem? (i := 345) (by decide +kernel)) rfl
theorem v_371 : (Jvm.Cond.methodLink "MarkFieldLaw" (103 : Nat) ({ cls := "MarkFieldLaw", name := "register", desc := "(LMarkField;I[J)I" } : Jvm.MethodName)) ∈ tb := tb_of (List.mem_of_getElem? (i := 371) (by decide +kernel)) rfl
theorem v_372 : (Jvm.Cond.static ({ cls := "MarkFieldLaw", name := "register", desc := "(LMarkField;I[J)I" } : Jvm.MethodName)) ∈ tb := tb_of (List.mem_of_getElem? (i := 372) (by decide +kernel)) rfl
theorem v_373 : (Jvm.Cond.codeWith ({ cls := "MarkFieldLaw", name := "register", desc := "(LMarkField;I[J)I" } : Jvm.MethodName) method_3_code (4 : Nat) (Option.some Jvm.ClassFile.FieldType.int) [((0 : Nat), (9 : Nat), (12 : Nat), (13 : Nat))]) ∈ tb := tb_of (List.mem_of_getElem? (i := 373) (by decide +kernel)) rfl
theorem v_1635 : (Jvm.Cond.methodLink "MarkFieldLaw" (102 : Nat) ({ cls := "MarkFieldModel", name := "feed", desc := "(IIIII)I" } : Jvm.MethodName)) ∈ tb := tb_of (List.mem_of_getElem? (i := 1635) (by decide +kernel)) rfl
theorem v_1636 : (Jvm.Cond.instanceMethod ({ cls := "MarkFieldModel", name := "feed", desc := "(IIIII)I" } : Jvm.MethodName)) ∈ tb := tb_of (List.mem_of_getElem? (i := 1636) (by decide +kernel)) rfl
theorem v_1637 : (Jvm.Cond.selects "MarkFieldModel" ({ cls := "MarkFieldModel", name := "feed", desc := "(IIIII)I" } : Jvm.MethodName) ({ cls := "MarkFieldModel", name := "feed", desc := "(IIIII)I" } : Jvm.MethodName)) ∈ tb := tb_of (List.mem_of_getElem? (i := 1637) (by decide +kernel)) rfl
theorem v_1638 : (Jvm.Cond.code ({ cls := "MarkFieldModel", name := "feed", desc := "(IIIII)I" } : Jvm.MethodName) prog_10_method_90_code (8 : Nat) (Option.some Jvm.ClassFile.FieldType.int)) ∈ tb := tb_of (List.mem_of_getElem? (i := 1638) (by decide +kernel)) rfl
theorem v_1639 : (Jvm.Cond.methodLink "MarkFieldLaw" (116 : Nat) ({ cls := "MarkFieldModel", name := "fault", desc := "()I" } : Jvm.MethodName)) ∈ tb := tb_of (List.mem_of_getElem? (i := 1639) (by decide +kernel)) rfl
theorem v_1640 : (Jvm.Cond.instanceMethod ({ cls := "MarkFieldModel", name := "fault", desc := "()I" } : Jvm.MethodName)) ∈ tb := tb_of (List.mem_of_getElem? (i := 1640) (by decide +kernel)) rfl
theorem v_1641 : (Jvm.Cond.selects "MarkFieldModel" ({ cls := "MarkFieldModel", name := "fault", desc := "()I" } : Jvm.MethodName) ({ cls := "MarkFieldModel", name := "fault", desc := "()I" } : Jvm.MethodName)) ∈ tb := tb_of (List.mem_of_getElem? (i := 1641) (by decide +kernel)) rfl
theorem v_1642 : (Jvm.Cond.code ({ cls := "MarkFieldModel", name := "fault", desc := "()I" } : Jvm.MethodName) prog_10_method_91_code (1 : Nat) (Option.some Jvm.ClassFile.FieldType.int)) ∈ tb := tb_of (List.mem_of_getElem? (i := 1642) (by decide +kernel)) rfl
theorem v_1643 : (Jvm.Cond.methodLink "MarkFieldLaw" (108 : Nat) ({ cls := "MarkFieldModel", name := "register", desc := "(I)I" } : Jvm.MethodName)) ∈ tb := tb_of (List.mem_of_getElem? (i := 1643) (by decide +kernel)) rfl
theorem v_1644 : (Jvm.Cond.instanceMethod ({ cls := "MarkFieldModel", name := "register", desc := "(I)I" } : Jvm.MethodName)) ∈ tb := tb_of (List.mem_of_getElem? (i := 1644) (by decide +kernel)) rfl
theorem v_1645 : (Jvm.Cond.selects "MarkFieldModel" ({ cls := "MarkFieldModel", name := "register", desc := "(I)I" } : Jvm.MethodName) ({ cls := "MarkFieldModel", name := "register", desc := "(I)I" } : Jvm.MethodName)) ∈ tb := tb_of (List.mem_of_getElem? (i := 1645) (by decide +kernel)) rfl
theorem v_1646 : (Jvm.Cond.code ({ cls := "MarkFieldModel", name := "register", desc := "(I)I" } : Jvm.MethodName) prog_10_method_115_code (4 : Nat) (Option.some Jvm.ClassFile.FieldType.int)) ∈ tb := tb_of (List.mem_of_getElem? (i := 1646) (by decide +kernel)) rfl
theorem dL_law_176 : decode cL_law 176 = .ok (.aload_n 1, 1) := by decide +kernel
theorem dL_law_177 : decode cL_law 177 = .ok (.aload_n 0, 1) := by decide +kernel
theorem dL_law_178 : decode cL_law 178 = .ok (.iload 4, 2) := by decide +kernel
theorem dL_law_180 : decode cL_law 180 = .ok (.iconst 1, 1) := by decide +kernel
theorem dL_law_181 : decode cL_law 181 = .ok (.iadd, 1) := by decide +kernel
theorem dL_law_182 : decode cL_law 182 = .ok (.iaload, 1) := by decide +kernel
theorem dL_law_183 : decode cL_law 183 = .ok (.aload_n 0, 1) := by decide +kernel
theorem dL_law_184 : decode cL_law 184 = .ok (.iload 4, 2) := by decide +kernel
theorem dL_law_186 : decode cL_law 186 = .ok (.iconst 2, 1) := by decide +kernel
theorem dL_law_187 : decode cL_law 187 = .ok (.iadd, 1) := by decide +kernel
theorem dL_law_188 : decode cL_law 188 = .ok (.iaload, 1) := by decide +kernel
theorem dL_law_189 : decode cL_law 189 = .ok (.aload_n 0, 1) := by decide +kernel
theorem dL_law_190 : decode cL_law 190 = .ok (.iload 4, 2) := by decide +kernel
theorem dL_law_192 : decode cL_law 192 = .ok (.iconst 3, 1) := by decide +kernel
theorem dL_law_193 : decode cL_law 193 = .ok (.iadd, 1) := by decide +kernel
theorem dL_law_194 : decode cL_law 194 = .ok (.iaload, 1) := by decide +kernel
theorem dL_law_195 : decode cL_law 195 = .ok (.aload_n 0, 1) := by decide +kernel
theorem dL_law_196 : decode cL_law 196 = .ok (.iload 4, 2) := by decide +kernel
theorem dL_law_198 : decode cL_law 198 = .ok (.iconst 4, 1) := by decide +kernel
theorem dL_law_199 : decode cL_law 199 = .ok (.iadd, 1) := by decide +kernel
theorem dL_law_200 : decode cL_law 200 = .ok (.iaload, 1) := by decide +kernel
theorem dL_law_201 : decode cL_law 201 = .ok (.aload_n 0, 1) := by decide +kernel
theorem dL_law_202 : decode cL_law 202 = .ok (.iload 4, 2) := by decide +kernel
theorem dL_law_204 : decode cL_law 204 = .ok (.iconst 5, 1) := by decide +kernel
theorem dL_law_205 : decode cL_law 205 = .ok (.iadd, 1) := by decide +kernel
theorem dL_law_206 : decode cL_law 206 = .ok (.iaload, 1) := by decide +kernel
theorem dL_law_207 : decode cL_law 207 = .ok (.invokevirtual 98, 3) := by decide +kernel
theorem dL_law_210 : decode cL_law 210 = .ok (.aload_n 2, 1) := by decide +kernel
theorem dL_law_211 : decode cL_law 211 = .ok (.aload_n 0, 1) := by decide +kernel
theorem dL_law_212 : decode cL_law 212 = .ok (.iload 4, 2) := by decide +kernel
theorem dL_law_214 : decode cL_law 214 = .ok (.iconst 1, 1) := by decide +kernel
theorem dL_law_215 : decode cL_law 215 = .ok (.iadd, 1) := by decide +kernel
theorem dL_law_216 : decode cL_law 216 = .ok (.iaload, 1) := by decide +kernel
theorem dL_law_217 : decode cL_law 217 = .ok (.aload_n 0, 1) := by decide +kernel
theorem dL_law_218 : decode cL_law 218 = .ok (.iload 4, 2) := by decide +kernel
theorem dL_law_220 : decode cL_law 220 = .ok (.iconst 2, 1) := by decide +kernel
theorem dL_law_221 : decode cL_law 221 = .ok (.iadd, 1) := by decide +kernel
theorem dL_law_222 : decode cL_law 222 = .ok (.iaload, 1) := by decide +kernel
theorem dL_law_223 : decode cL_law 223 = .ok (.aload_n 0, 1) := by decide +kernel
theorem dL_law_224 : decode cL_law 224 = .ok (.iload 4, 2) := by decide +kernel
theorem dL_law_226 : decode cL_law 226 = .ok (.iconst 3, 1) := by decide +kernel
theorem dL_law_227 : decode cL_law 227 = .ok (.iadd, 1) := by decide +kernel
theorem dL_law_228 : decode cL_law 228 = .ok (.iaload, 1) := by decide +kernel
theorem dL_law_229 : decode cL_law 229 = .ok (.aload_n 0, 1) := by decide +kernel
theorem dL_law_230 : decode cL_law 230 = .ok (.iload 4, 2) := by decide +kernel
theorem dL_law_232 : decode cL_law 232 = .ok (.iconst 4, 1) := by decide +kernel
theorem dL_law_233 : decode cL_law 233 = .ok (.iadd, 1) := by decide +kernel
theorem dL_law_234 : decode cL_law 234 = .ok (.iaload, 1) := by decide +kernel
theorem dL_law_235 : decode cL_law 235 = .ok (.aload_n 0, 1) := by decide +kernel
theorem dL_law_236 : decode cL_law 236 = .ok (.iload 4, 2) := by decide +kernel
theorem dL_law_238 : decode cL_law 238 = .ok (.iconst 5, 1) := by decide +kernel
theorem dL_law_239 : decode cL_law 239 = .ok (.iadd, 1) := by decide +kernel
theorem dL_law_240 : decode cL_law 240 = .ok (.iaload, 1) := by decide +kernel
theorem dL_law_241 : decode cL_law 241 = .ok (.invokevirtual 102, 3) := by decide +kernel
theorem dL_law_244 : decode cL_law 244 = .ok (.if_icmp .eq 1925, 3) := by decide +kernel
theorem dL_law_249 : decode cL_law 249 = .ok (.aload_n 1, 1) := by decide +kernel
theorem dL_law_250 : decode cL_law 250 = .ok (.aload_n 0, 1) := by decide +kernel
theorem dL_law_251 : decode cL_law 251 = .ok (.iload 4, 2) := by decide +kernel
theorem dL_law_253 : decode cL_law 253 = .ok (.iconst 1, 1) := by decide +kernel
theorem dL_law_254 : decode cL_law 254 = .ok (.iadd, 1) := by decide +kernel
theorem dL_law_255 : decode cL_law 255 = .ok (.iaload, 1) := by decide +kernel
theorem dL_law_256 : decode cL_law 256 = .ok (.aload_n 3, 1) := by decide +kernel
theorem dL_law_257 : decode cL_law 257 = .ok (.invokestatic 103, 3) := by decide +kernel
theorem dL_law_260 : decode cL_law 260 = .ok (.istore 5, 2) := by decide +kernel
theorem dL_law_262 : decode cL_law 262 = .ok (.aload_n 2, 1) := by decide +kernel
theorem dL_law_263 : decode cL_law 263 = .ok (.aload_n 0, 1) := by decide +kernel
theorem dL_law_264 : decode cL_law 264 = .ok (.iload 4, 2) := by decide +kernel
theorem dL_law_266 : decode cL_law 266 = .ok (.iconst 1, 1) := by decide +kernel
theorem dL_law_267 : decode cL_law 267 = .ok (.iadd, 1) := by decide +kernel
theorem dL_law_268 : decode cL_law 268 = .ok (.iaload, 1) := by decide +kernel
theorem dL_law_269 : decode cL_law 269 = .ok (.invokevirtual 108, 3) := by decide +kernel
theorem dL_law_272 : decode cL_law 272 = .ok (.istore 6, 2) := by decide +kernel
theorem dL_law_274 : decode cL_law 274 = .ok (.aload_n 2, 1) := by decide +kernel
theorem dL_law_275 : decode cL_law 275 = .ok (.invokevirtual 109, 3) := by decide +kernel
theorem dL_law_278 : decode cL_law 278 = .ok (.iload 5, 2) := by decide +kernel
theorem dL_law_280 : decode cL_law 280 = .ok (.if_icmp .eq 5, 3) := by decide +kernel
theorem dL_law_285 : decode cL_law 285 = .ok (.iload 5, 2) := by decide +kernel
theorem dL_law_287 : decode cL_law 287 = .ok (.ifCond .ne 15, 3) := by decide +kernel
theorem dL_law_290 : decode cL_law 290 = .ok (.aload_n 3, 1) := by decide +kernel
theorem dL_law_291 : decode cL_law 291 = .ok (.iconst 0, 1) := by decide +kernel
theorem dL_law_292 : decode cL_law 292 = .ok (.laload, 1) := by decide +kernel
theorem dL_law_293 : decode cL_law 293 = .ok (.iload 6, 2) := by decide +kernel
theorem dL_law_295 : decode cL_law 295 = .ok (.i2l, 1) := by decide +kernel
theorem dL_law_296 : decode cL_law 296 = .ok (.lcmp, 1) := by decide +kernel
theorem dL_law_297 : decode cL_law 297 = .ok (.ifCond .eq 5, 3) := by decide +kernel
theorem dL_law_302 : decode cL_law 302 = .ok (.goto 1867, 3) := by decide +kernel
theorem dL_law_305 : decode cL_law 305 = .ok (.aload_n 1, 1) := by decide +kernel
theorem dL_law_306 : decode cL_law 306 = .ok (.invokevirtual 113, 3) := by decide +kernel
theorem dL_law_309 : decode cL_law 309 = .ok (.aload_n 2, 1) := by decide +kernel
theorem dL_law_310 : decode cL_law 310 = .ok (.invokevirtual 116, 3) := by decide +kernel
theorem dL_law_313 : decode cL_law 313 = .ok (.if_icmp .eq 1856, 3) := by decide +kernel
/-! ===== the law's cases feed register fault ===== -/
theorem mv_L8_feed : MV yX8_feed cX8_feed 8 (some .int) 5 := ⟨⟨v_1638, v_10, by decide, by decide, by decide +kernel⟩, v_1636, v_1637⟩
theorem mv_L7_feed : MV yX7_feed cX7_feed 6 (some .int) 5 := ⟨⟨v_337, v_1, by decide, by decide, by decide +kernel⟩, v_335, v_336⟩
theorem x_register {q : Par} {a : Int} {j : Nat} (h : o_register q a = .inl j) : j = 1 := by
  unfold o_register at h
  repeat' split at h
  all_goals try (unfold rgO at h; split at h <;> cases h)
  all_goals first | exact (Sum.inl.inj h).symm | exact absurd h (fun e => by cases e)
theorem mv_L8_register : MV yX8_register cX8_register 4 (some .int) 1 := ⟨⟨v_1646, v_10, by decide, by decide, by decide +kernel⟩, v_1644, v_1645⟩
theorem mv_L8_fault : MV yX8_fault cX8_fault 1 (some .int) 0 := ⟨⟨v_1642, v_10, by decide, by decide, by decide +kernel⟩, v_1640, v_1641⟩
theorem mv_L7_fault : MV yX7_fault cX7_fault 1 (some .int) 0 := ⟨⟨v_345, v_1, by decide, by decide, by decide +kernel⟩, v_343, v_344⟩
section
variable {E : Ev} {X : Cx} {G : GH} {n1 n2 b L : Nat} {xs : Nat → Int32} {q : Par}
theorem la_0 (Z : LwF E X b L xs) {i : Nat} (hi : i + 6 ≤ L) (hn1 : n1 + 13 ≤ 600000) (hn2 : n2 + 708 ≤ 7000000) (hC : IC q G) (hR : IR q G) (kk : ∀ G2, Inv G2 → AW E X 7 2169 (lvL X b i) [] G2 (n1 + 13) (n2 + 708)) : AW E X 7 176 (lvL X b i) [] G n1 n2 := by
  obtain ⟨F, hRm, hl0, hPe, hX, hL⟩ := id Z
  have hPP := Z.pp
  refine aw_al_n F 3 dL_law_176 rfl rfl ?_
  refine la_arg F hX (k := 1) hi hL (by decide) 4 0 rfl rfl (kv := (1 : Int32)) (by decide) dL_law_177 dL_law_178 dL_law_180 (by decide) dL_law_181 dL_law_182 rfl ?_
  refine la_arg F hX (k := 2) hi hL (by decide) 4 0 rfl rfl (kv := (2 : Int32)) (by decide) dL_law_183 dL_law_184 dL_law_186 (by decide) dL_law_187 dL_law_188 rfl ?_
  refine la_arg F hX (k := 3) hi hL (by decide) 4 0 rfl rfl (kv := (3 : Int32)) (by decide) dL_law_189 dL_law_190 dL_law_192 (by decide) dL_law_193 dL_law_194 rfl ?_
  refine la_arg F hX (k := 4) hi hL (by decide) 4 0 rfl rfl (kv := (4 : Int32)) (by decide) dL_law_195 dL_law_196 dL_law_198 (by decide) dL_law_199 dL_law_200 rfl ?_
  refine la_arg F hX (k := 5) hi hL (by decide) 4 0 rfl rfl (kv := (5 : Int32)) (by decide) dL_law_201 dL_law_202 dL_law_204 (by decide) dL_law_205 dL_law_206 rfl ?_
  have hI := cI_feed (q := q) (G := G) (x1 := xs (i + 1)) (x2 := xs (i + 2)) (x3 := xs (i + 3)) (x4 := xs (i + 4)) (x5 := xs (i + 5)) hC
  refine aw_cVi F hRm (o := 0) (c := 7) (stk := []) [.int (xs (i + 1)), .int (xs (i + 2)), .int (xs (i + 3)), .int (xs (i + 4)), .int (xs (i + 5))] (k_X7_feed hPP hI) mv_L7_feed v_334 cf7 (lo_s rfl) (hPP 0 rfl) rfl (by decide) rfl rfl (Nat.le_of_ble_eq_true rfl) ⟨(Nat.le_of_ble_eq_true rfl), (Nat.le_of_ble_eq_true rfl)⟩ ⟨by omega, by omega⟩ dL_law_207 (fun r1 G1 h1 => ?_)
  refine aw_al_n F 2 dL_law_210 rfl rfl ?_
  refine la_arg F hX (k := 1) hi hL (by decide) 4 0 rfl rfl (kv := (1 : Int32)) (by decide) dL_law_211 dL_law_212 dL_law_214 (by decide) dL_law_215 dL_law_216 rfl ?_
  refine la_arg F hX (k := 2) hi hL (by decide) 4 0 rfl rfl (kv := (2 : Int32)) (by decide) dL_law_217 dL_law_218 dL_law_220 (by decide) dL_law_221 dL_law_222 rfl ?_
  refine la_arg F hX (k := 3) hi hL (by decide) 4 0 rfl rfl (kv := (3 : Int32)) (by decide) dL_law_223 dL_law_224 dL_law_226 (by decide) dL_law_227 dL_law_228 rfl ?_
  refine la_arg F hX (k := 4) hi hL (by decide) 4 0 rfl rfl (kv := (4 : Int32)) (by decide) dL_law_229 dL_law_230 dL_law_232 (by decide) dL_law_233 dL_law_234 rfl ?_
  refine la_arg F hX (k := 5) hi hL (by decide) 4 0 rfl rfl (kv := (5 : Int32)) (by decide) dL_law_235 dL_law_236 dL_law_238 (by decide) dL_law_239 dL_law_240 rfl ?_
  have e4 : G1 24 = G 24 := by
    obtain ⟨v, q2, e1, e2, e3, e4, e5⟩ := h1
    exact e4
  have hM := cM_feed (q := q) (G := G1) (x1 := xs (i + 1)) (x2 := xs (i + 2)) (x3 := xs (i + 3)) (x4 := xs (i + 4)) (x5 := xs (i + 5)) hC.pv (hR.cg e4)
  refine aw_cVi F hRm (o := 24) (c := 8) (stk := [.int r1]) [.int (xs (i + 1)), .int (xs (i + 2)), .int (xs (i + 3)), .int (xs (i + 4)), .int (xs (i + 5))] (k_X8_feed hPP hM) mv_L8_feed v_1635 cf8 (lo_s rfl) (hPP 24 rfl) rfl (by decide) rfl rfl (Nat.le_of_ble_eq_true rfl) ⟨(Nat.le_of_ble_eq_true rfl), (Nat.le_of_ble_eq_true rfl)⟩ ⟨by omega, by omega⟩ dL_law_241 (fun r2 G2 h2 => ?_)
  obtain ⟨er, hv⟩ := co_m (kc := kc2) hR h1 (fun _ => h2)
  refine aw_icmp_eq F (tgt := 2169) dL_law_244 (by decide) (fun _ => ?_) (fun h => absurd er h)
  exact aw_wide (by omega) (by omega) (kk G2 hv)
theorem la_1 (Z : LwF E X b L xs) {i : Nat} (hi : i + 6 ≤ L) (hn1 : n1 + 13 ≤ 600000) (hn2 : n2 + 708 ≤ 7000000) (hC : IC q G) (hR : IR q G) (kk : ∀ G2, Inv G2 → AW E X 7 2169 (lvL X b i) [] G2 (n1 + 13) (n2 + 708)) : AW E X 7 249 (lvL X b i) [] G n1 n2 := by
  obtain ⟨F, hRm, hl0, hPe, hX, hL⟩ := id Z
  have hPP := Z.pp
  refine aw_al_n F 3 dL_law_249 rfl rfl ?_
  refine la_arg F hX (k := 1) hi hL (by decide) 4 0 rfl rfl (kv := (1 : Int32)) (by decide) dL_law_250 dL_law_251 dL_law_253 (by decide) dL_law_254 dL_law_255 rfl ?_
  refine aw_al_n F 1 dL_law_256 rfl rfl ?_
  have hI := cI_register (q := q) (G := G) (i32_self (xs (i + 1))) hC
  simp only [zI_self] at hI
  have hW : CtW (lX X) yL_register cL_register 4 [(0, 9, 12, 13)] 12 1 6 E (PX X) (sdX X) G [.ref (sdX X 0 0), .int (xs (i + 1)), .ref (sdX X 25 1)] (pI (LQ kc1 (o_register q (xs (i + 1)).toInt) q G)) := by
    refine kL_register hPP (k_X7_register hl0 hPP hI) (fun r G1 h => wq_r h) (fun i2 G1 hi2 h => ?_)
    have e0 := x_register h.1
    subst e0
    exact ⟨rfl, wq_x rfl (by decide) h⟩
  refine aw_cSW F hRm (n := 3) (stk := []) [.ref (sdX X 0 0), .int (xs (i + 1)), .ref (sdX X 25 1)] hW ⟨v_373, v_0, by decide, by decide, by decide +kernel⟩ v_372 v_371 rfl rfl (Nat.le_of_ble_eq_true rfl) ⟨(Nat.le_of_ble_eq_true rfl), (Nat.le_of_ble_eq_true rfl)⟩ ⟨by omega, by omega⟩ dL_law_257 (fun k G1 hk => ?_)
  refine aw_is F dL_law_260 (by decide) (lv1 := (5, .int k) :: lvL X b i) rfl ?_
  refine aw_al_n F 3 dL_law_262 rfl rfl ?_
  refine la_arg F hX (k := 1) hi hL (by decide) 5 1 rfl rfl (kv := (1 : Int32)) (by decide) dL_law_263 dL_law_264 dL_law_266 (by decide) dL_law_267 dL_law_268 rfl ?_
  have hM := cM_register (q := q) (G := G1) (i32_self (xs (i + 1))) hC.pv (hk.ir hR)
  simp only [zI_self] at hM
  refine aw_cVi F hRm (o := 24) (c := 8) (stk := []) [.int (xs (i + 1))] (k_X8_register hPP hM) mv_L8_register v_1643 cf8 (lo_s rfl) (hPP 24 rfl) rfl (by decide) rfl rfl (Nat.le_of_ble_eq_true rfl) ⟨(Nat.le_of_ble_eq_true rfl), (Nat.le_of_ble_eq_true rfl)⟩ ⟨by omega, by omega⟩ dL_law_269 (fun r G2 hr => ?_)
  obtain ⟨e5, er, hv⟩ := wq_m hk hr
  refine la_tail Z (i := i) e5 er (by omega) (by omega) dL_law_272 dL_law_274 dL_law_275 dL_law_278 dL_law_280 dL_law_285 dL_law_287 dL_law_290 dL_law_291 dL_law_292 dL_law_293 dL_law_295 dL_law_296 dL_law_297 dL_law_302 (by decide) ?_
  exact aw_wide (by omega) (by omega) (kk G2 hv)
theorem la_2 (Z : LwF E X b L xs) {i : Nat} (hi : i + 6 ≤ L) (hn1 : n1 + 13 ≤ 600000) (hn2 : n2 + 708 ≤ 7000000) (hC : IC q G) (hR : IR q G) (kk : ∀ G2, Inv G2 → AW E X 7 2169 (lvL X b i) [] G2 (n1 + 13) (n2 + 708)) : AW E X 7 305 (lvL X b i) [] G n1 n2 := by
  obtain ⟨F, hRm, hl0, hPe, hX, hL⟩ := id Z
  have hPP := Z.pp
  refine aw_al_n F 3 dL_law_305 rfl rfl ?_
  have hI := cI_fault (q := q) (G := G) hC
  refine aw_cVi F hRm (o := 0) (c := 7) (stk := []) [] (k_X7_fault hPP hI) mv_L7_fault v_342 cf7 (lo_s rfl) (hPP 0 rfl) rfl (by decide) rfl rfl (Nat.le_of_ble_eq_true rfl) ⟨(Nat.le_of_ble_eq_true rfl), (Nat.le_of_ble_eq_true rfl)⟩ ⟨by omega, by omega⟩ dL_law_306 (fun r1 G1 h1 => ?_)
  refine aw_al_n F 2 dL_law_309 rfl rfl ?_
  have e4 : G1 24 = G 24 := by
    obtain ⟨v, q2, e1, e2, e3, e4, e5⟩ := h1
    exact e4
  have hM := cM_fault (q := q) (G := G1) (hR.cg e4)
  refine aw_cVi F hRm (o := 24) (c := 8) (stk := [.int r1]) [] (k_X8_fault hPP hM) mv_L8_fault v_1639 cf8 (lo_s rfl) (hPP 24 rfl) rfl (by decide) rfl rfl (Nat.le_of_ble_eq_true rfl) ⟨(Nat.le_of_ble_eq_true rfl), (Nat.le_of_ble_eq_true rfl)⟩ ⟨by omega, by omega⟩ dL_law_310 (fun r2 G2 h2 => ?_)
  obtain ⟨er, hv⟩ := co_m (kc := kc2) hR h1 (fun _ => h2)
  refine aw_icmp_eq F (tgt := 2169) dL_law_313 (by decide) (fun _ => ?_) (fun h => absurd er h)
  exact aw_wide (by omega) (by omega) (kk G2 hv)
end
