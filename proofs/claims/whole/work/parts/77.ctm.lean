theorem v_2 : (Jvm.Cond.initialized "MarkField$Tape") ∈ tb := tb_of (List.mem_of_getElem? (i := 2) (by decide +kernel)) rfl
theorem v_5 : (Jvm.Cond.initialized "MarkField$Acts") ∈ tb := tb_of (List.mem_of_getElem? (i := 5) (by decide +kernel)) rfl
theorem v_6 : (Jvm.Cond.initialized "MarkField$Likeness") ∈ tb := tb_of (List.mem_of_getElem? (i := 6) (by decide +kernel)) rfl
theorem v_7 : (Jvm.Cond.initialized "MarkField$Standing") ∈ tb := tb_of (List.mem_of_getElem? (i := 7) (by decide +kernel)) rfl
theorem v_8 : (Jvm.Cond.initialized "MarkField$Reader") ∈ tb := tb_of (List.mem_of_getElem? (i := 8) (by decide +kernel)) rfl
theorem v_9 : (Jvm.Cond.initialized "MarkField$Question") ∈ tb := tb_of (List.mem_of_getElem? (i := 9) (by decide +kernel)) rfl
theorem v_28 : (Jvm.Cond.methodLink "MarkField" (1 : Nat) ({ cls := "java/lang/Object", name := "<init>", desc := "()V" } : Jvm.MethodName)) ∈ tb := tb_of (List.mem_of_getElem? (i := 28) (by decide +kernel)) rfl
theorem v_31 : (Jvm.Cond.classLink "MarkField" (7 : Nat) "MarkField$Tape") ∈ tb := tb_of (List.mem_of_getElem? (i := 31) (by decide +kernel)) rfl
theorem v_32 : (Jvm.Cond.instantiable "MarkField$Tape" (7 : Nat)) ∈ tb := tb_of (List.mem_of_getElem? (i := 32) (by decide +kernel)) rfl
theorem v_34 : (Jvm.Cond.instanceMethod ({ cls := "MarkField$Tape", name := "<init>", desc := "()V" } : Jvm.MethodName)) ∈ tb := tb_of (List.mem_of_getElem? (i := 34) (by decide +kernel)) rfl
theorem v_35 : (Jvm.Cond.code ({ cls := "MarkField$Tape", name := "<init>", desc := "()V" } : Jvm.MethodName) prog_8_method_1_code (1 : Nat) (Option.none : Option Jvm.ClassFile.FieldType)) ∈ tb := tb_of (List.mem_of_getElem? (i := 35) (by decide +kernel)) rfl
theorem v_145 : (Jvm.Cond.classLink "MarkField" (32 : Nat) "MarkField$Acts") ∈ tb := tb_of (List.mem_of_getElem? (i := 145) (by decide +kernel)) rfl
theorem v_146 : (Jvm.Cond.instantiable "MarkField$Acts" (3 : Nat)) ∈ tb := tb_of (List.mem_of_getElem? (i := 146) (by decide +kernel)) rfl
theorem v_148 : (Jvm.Cond.instanceMethod ({ cls := "MarkField$Acts", name := "<init>", desc := "()V" } : Jvm.MethodName)) ∈ tb := tb_of (List.mem_of_getElem? (i := 148) (by decide +kernel)) rfl
theorem v_149 : (Jvm.Cond.code ({ cls := "MarkField$Acts", name := "<init>", desc := "()V" } : Jvm.MethodName) prog_2_method_1_code (1 : Nat) (Option.none : Option Jvm.ClassFile.FieldType)) ∈ tb := tb_of (List.mem_of_getElem? (i := 149) (by decide +kernel)) rfl
theorem v_164 : (Jvm.Cond.classLink "MarkField" (39 : Nat) "MarkField$Likeness") ∈ tb := tb_of (List.mem_of_getElem? (i := 164) (by decide +kernel)) rfl
theorem v_165 : (Jvm.Cond.instantiable "MarkField$Likeness" (8 : Nat)) ∈ tb := tb_of (List.mem_of_getElem? (i := 165) (by decide +kernel)) rfl
theorem v_167 : (Jvm.Cond.instanceMethod ({ cls := "MarkField$Likeness", name := "<init>", desc := "()V" } : Jvm.MethodName)) ∈ tb := tb_of (List.mem_of_getElem? (i := 167) (by decide +kernel)) rfl
theorem v_168 : (Jvm.Cond.code ({ cls := "MarkField$Likeness", name := "<init>", desc := "()V" } : Jvm.MethodName) prog_3_method_1_code (1 : Nat) (Option.none : Option Jvm.ClassFile.FieldType)) ∈ tb := tb_of (List.mem_of_getElem? (i := 168) (by decide +kernel)) rfl
theorem v_203 : (Jvm.Cond.classLink "MarkField" (49 : Nat) "MarkField$Standing") ∈ tb := tb_of (List.mem_of_getElem? (i := 203) (by decide +kernel)) rfl
theorem v_204 : (Jvm.Cond.instantiable "MarkField$Standing" (8 : Nat)) ∈ tb := tb_of (List.mem_of_getElem? (i := 204) (by decide +kernel)) rfl
theorem v_206 : (Jvm.Cond.instanceMethod ({ cls := "MarkField$Standing", name := "<init>", desc := "()V" } : Jvm.MethodName)) ∈ tb := tb_of (List.mem_of_getElem? (i := 206) (by decide +kernel)) rfl
theorem v_207 : (Jvm.Cond.code ({ cls := "MarkField$Standing", name := "<init>", desc := "()V" } : Jvm.MethodName) prog_7_method_1_code (1 : Nat) (Option.none : Option Jvm.ClassFile.FieldType)) ∈ tb := tb_of (List.mem_of_getElem? (i := 207) (by decide +kernel)) rfl
theorem v_241 : (Jvm.Cond.classLink "MarkField" (56 : Nat) "MarkField$Reader") ∈ tb := tb_of (List.mem_of_getElem? (i := 241) (by decide +kernel)) rfl
theorem v_242 : (Jvm.Cond.instantiable "MarkField$Reader" (5 : Nat)) ∈ tb := tb_of (List.mem_of_getElem? (i := 242) (by decide +kernel)) rfl
theorem v_243 : (Jvm.Cond.methodLink "MarkField" (58 : Nat) ({ cls := "MarkField$Reader", name := "<init>", desc := "(LMarkField$Tape;LMarkField$Register;)V" } : Jvm.MethodName)) ∈ tb := tb_of (List.mem_of_getElem? (i := 243) (by decide +kernel)) rfl
theorem v_244 : (Jvm.Cond.instanceMethod ({ cls := "MarkField$Reader", name := "<init>", desc := "(LMarkField$Tape;LMarkField$Register;)V" } : Jvm.MethodName)) ∈ tb := tb_of (List.mem_of_getElem? (i := 244) (by decide +kernel)) rfl
theorem v_245 : (Jvm.Cond.code ({ cls := "MarkField$Reader", name := "<init>", desc := "(LMarkField$Tape;LMarkField$Register;)V" } : Jvm.MethodName) prog_5_method_1_code (3 : Nat) (Option.none : Option Jvm.ClassFile.FieldType)) ∈ tb := tb_of (List.mem_of_getElem? (i := 245) (by decide +kernel)) rfl
theorem v_264 : (Jvm.Cond.classLink "MarkField" (65 : Nat) "MarkField$Question") ∈ tb := tb_of (List.mem_of_getElem? (i := 264) (by decide +kernel)) rfl
theorem v_265 : (Jvm.Cond.instantiable "MarkField$Question" (7 : Nat)) ∈ tb := tb_of (List.mem_of_getElem? (i := 265) (by decide +kernel)) rfl
theorem v_266 : (Jvm.Cond.methodLink "MarkField" (67 : Nat) ({ cls := "MarkField$Question", name := "<init>", desc := "(LMarkField$Tape;LMarkField$Register;LMarkField$Likeness;LMarkField$Standing;)V" } : Jvm.MethodName)) ∈ tb := tb_of (List.mem_of_getElem? (i := 266) (by decide +kernel)) rfl
theorem v_267 : (Jvm.Cond.instanceMethod ({ cls := "MarkField$Question", name := "<init>", desc := "(LMarkField$Tape;LMarkField$Register;LMarkField$Likeness;LMarkField$Standing;)V" } : Jvm.MethodName)) ∈ tb := tb_of (List.mem_of_getElem? (i := 267) (by decide +kernel)) rfl
theorem v_268 : (Jvm.Cond.code ({ cls := "MarkField$Question", name := "<init>", desc := "(LMarkField$Tape;LMarkField$Register;LMarkField$Likeness;LMarkField$Standing;)V" } : Jvm.MethodName) prog_4_method_1_code (5 : Nat) (Option.none : Option Jvm.ClassFile.FieldType)) ∈ tb := tb_of (List.mem_of_getElem? (i := 268) (by decide +kernel)) rfl
theorem v_294 : (Jvm.Cond.fieldLink "MarkField" (10 : Nat) "MarkField" "tape" "LMarkField$Tape;") ∈ tb := tb_of (List.mem_of_getElem? (i := 294) (by decide +kernel)) rfl
theorem v_295 : (Jvm.Cond.fieldLink "MarkField" (61 : Nat) "MarkField" "reader" "LMarkField$Reader;") ∈ tb := tb_of (List.mem_of_getElem? (i := 295) (by decide +kernel)) rfl
theorem v_296 : (Jvm.Cond.fieldLink "MarkField" (70 : Nat) "MarkField" "question" "LMarkField$Question;") ∈ tb := tb_of (List.mem_of_getElem? (i := 296) (by decide +kernel)) rfl
theorem v_298 : (Jvm.Cond.fieldLink "MarkField" (52 : Nat) "MarkField" "standing" "LMarkField$Standing;") ∈ tb := tb_of (List.mem_of_getElem? (i := 298) (by decide +kernel)) rfl
theorem v_299 : (Jvm.Cond.fieldLink "MarkField" (42 : Nat) "MarkField" "known" "LMarkField$Likeness;") ∈ tb := tb_of (List.mem_of_getElem? (i := 299) (by decide +kernel)) rfl
theorem v_300 : (Jvm.Cond.fieldLink "MarkField" (46 : Nat) "MarkField" "imagined" "LMarkField$Likeness;") ∈ tb := tb_of (List.mem_of_getElem? (i := 300) (by decide +kernel)) rfl
theorem v_302 : (Jvm.Cond.fieldLink "MarkField" (23 : Nat) "MarkField" "trial" "LMarkField$Register;") ∈ tb := tb_of (List.mem_of_getElem? (i := 302) (by decide +kernel)) rfl
theorem v_303 : (Jvm.Cond.fieldLink "MarkField" (26 : Nat) "MarkField" "told" "LMarkField$Register;") ∈ tb := tb_of (List.mem_of_getElem? (i := 303) (by decide +kernel)) rfl
theorem v_305 : (Jvm.Cond.fieldLink "MarkField" (74 : Nat) "MarkField" "faultPlace" "I") ∈ tb := tb_of (List.mem_of_getElem? (i := 305) (by decide +kernel)) rfl
/-! ===== the constructor of the whole ===== -/
def mfW (E : Ev) (a : Nat) (A1 A2 A3 A4 A5 A6 A7 A8 A9 A10 : Nat → Nat) : va_W := (a, .inr (7, [.ref (A1 0), .ref (A9 0), .ref (A10 0), .ref (A5 0), .ref (A8 0), .ref (A6 0), .ref (A7 0), .ref (A2 0), .ref (A3 0), .ref (A4 0), .null, .int (-1), .int 3])) :: (((((((((([] ++ tpW E A1) ++ rgW E A2) ++ rgW E A3) ++ rgW E A4) ++ acW E A5) ++ lkW E A6) ++ lkW E A7) ++ sdW E A8) ++ rdW E A9 (A1 0) (A4 0)) ++ quW E A10 (A1 0) (A2 0) (A6 0) (A8 0))
def fs7 : List Value := [.null, .null, .null, .null, .null, .null, .null, .null, .null, .null, .null, .int 0, .int 0]
set_option maxRecDepth 100000 in
set_option maxHeartbeats 4000000 in
theorem k_X7_init {l : Launch} {E : Ev} {w0 : va_W} {a : Nat} : CtA l yX7_init cX7_init 1 2 62 4715 E w0 [(a, .inr (7, fs7))] [.ref a] (fun wx => ∃ A1 A2 A3 A4 A5 A6 A7 A8 A9 A10 : Nat → Nat, wx = mfW E a A1 A2 A3 A4 A5 A6 A7 A8 A9 A10) := by
  refine cta_of (own := "MarkField") (by decide) rfl rfl (Nat.le_of_ble_eq_true rfl) (fun X F T el hao => ?_)
  subst el
  change LW E X 1 0 [(0, .ref a)] [] w0 ((a, .inr (7, fs7)) :: []) 0 0
  refine lw_al_n F 0 dX7_init_0 rfl rfl ?_
  refine lw_ini F T.room v_28 v_29 v_30 (by decide) (Nat.le_of_ble_eq_true rfl) dX7_init_1 ?_
  refine lw_al_n F 0 dX7_init_4 rfl rfl ?_
  refine lw_new F T.room (ci := 6) (fs := fs6) cf6 v_31 v_32 v_2 fs6_ok (Nat.le_of_ble_eq_true rfl) (Nat.le_of_ble_eq_true rfl) dX7_init_5 (fun q1 => ?_)
  refine lw_dup F dX7_init_8 rfl ?_
  refine lw_cI F T.room (n := 0) (wr := (a, .inr (7, [.null, .null, .null, .null, .null, .null, .null, .null, .null, .null, .null, .int 0, .int 0])) :: []) (wc := [(q1, .inr (6, fs6))]) (stk := [.ref q1, .ref a]) [] k_X6_init ⟨v_35, v_2, by decide, by decide, by decide +kernel⟩ rfl v_34 (Or.inr (by decide)) rfl rfl rfl (Nat.le_of_ble_eq_true rfl) ⟨(Nat.le_of_ble_eq_true rfl), (Nat.le_of_ble_eq_true rfl)⟩ ⟨(Nat.le_of_ble_eq_true rfl), (Nat.le_of_ble_eq_true rfl)⟩ dX7_init_9 (fun wd hp => ?_)
  obtain ⟨A1, hA, rfl⟩ := hp
  subst hA
  refine lw_pF F T.ini 0 0 (fs := [.null, .null, .null, .null, .null, .null, .null, .null, .null, .null, .null, .int 0, .int 0]) cf7 rfl (by decide) v_294 rfl rfl rfl rfl (Nat.le_of_ble_eq_true rfl) (wy := (a, .inr (7, [.ref (A1 0), .null, .null, .null, .null, .null, .null, .null, .null, .null, .null, .int 0, .int 0])) :: ([] ++ tpW E A1)) rfl dX7_init_12 ?_
  refine lw_al_n F 0 dX7_init_15 rfl rfl ?_
  refine lw_new F T.room (ci := 4) (fs := fs4) cf4 v_69 v_70 v_3 fs4_ok (Nat.le_of_ble_eq_true rfl) (Nat.le_of_ble_eq_true rfl) dX7_init_16 (fun q2 => ?_)
  refine lw_dup F dX7_init_19 rfl ?_
  refine lw_cI F T.room (n := 0) (wr := (a, .inr (7, [.ref (A1 0), .null, .null, .null, .null, .null, .null, .null, .null, .null, .null, .int 0, .int 0])) :: ([] ++ tpW E A1)) (wc := [(q2, .inr (4, fs4))]) (stk := [.ref q2, .ref a]) [] k_X4_init ⟨v_73, v_3, by decide, by decide, by decide +kernel⟩ rfl v_72 (Or.inl v_71) rfl rfl rfl (Nat.le_of_ble_eq_true rfl) ⟨(Nat.le_of_ble_eq_true rfl), (Nat.le_of_ble_eq_true rfl)⟩ ⟨(Nat.le_of_ble_eq_true rfl), (Nat.le_of_ble_eq_true rfl)⟩ dX7_init_20 (fun wd hp => ?_)
  obtain ⟨A2, hA, rfl⟩ := hp
  subst hA
  refine lw_pF F T.ini 0 7 (fs := [.ref (A1 0), .null, .null, .null, .null, .null, .null, .null, .null, .null, .null, .int 0, .int 0]) cf7 rfl (by decide) v_301 rfl rfl rfl rfl (Nat.le_of_ble_eq_true rfl) (wy := (a, .inr (7, [.ref (A1 0), .null, .null, .null, .null, .null, .null, .ref (A2 0), .null, .null, .null, .int 0, .int 0])) :: (([] ++ tpW E A1) ++ rgW E A2)) rfl dX7_init_23 ?_
  refine lw_al_n F 0 dX7_init_26 rfl rfl ?_
  refine lw_new F T.room (ci := 4) (fs := fs4) cf4 v_69 v_70 v_3 fs4_ok (Nat.le_of_ble_eq_true rfl) (Nat.le_of_ble_eq_true rfl) dX7_init_27 (fun q3 => ?_)
  refine lw_dup F dX7_init_30 rfl ?_
  refine lw_cI F T.room (n := 0) (wr := (a, .inr (7, [.ref (A1 0), .null, .null, .null, .null, .null, .null, .ref (A2 0), .null, .null, .null, .int 0, .int 0])) :: (([] ++ tpW E A1) ++ rgW E A2)) (wc := [(q3, .inr (4, fs4))]) (stk := [.ref q3, .ref a]) [] k_X4_init ⟨v_73, v_3, by decide, by decide, by decide +kernel⟩ rfl v_72 (Or.inl v_71) rfl rfl rfl (Nat.le_of_ble_eq_true rfl) ⟨(Nat.le_of_ble_eq_true rfl), (Nat.le_of_ble_eq_true rfl)⟩ ⟨(Nat.le_of_ble_eq_true rfl), (Nat.le_of_ble_eq_true rfl)⟩ dX7_init_31 (fun wd hp => ?_)
  obtain ⟨A3, hA, rfl⟩ := hp
  subst hA
  refine lw_pF F T.ini 0 8 (fs := [.ref (A1 0), .null, .null, .null, .null, .null, .null, .ref (A2 0), .null, .null, .null, .int 0, .int 0]) cf7 rfl (by decide) v_302 rfl rfl rfl rfl (Nat.le_of_ble_eq_true rfl) (wy := (a, .inr (7, [.ref (A1 0), .null, .null, .null, .null, .null, .null, .ref (A2 0), .ref (A3 0), .null, .null, .int 0, .int 0])) :: ((([] ++ tpW E A1) ++ rgW E A2) ++ rgW E A3)) rfl dX7_init_34 ?_
  refine lw_al_n F 0 dX7_init_37 rfl rfl ?_
  refine lw_new F T.room (ci := 4) (fs := fs4) cf4 v_69 v_70 v_3 fs4_ok (Nat.le_of_ble_eq_true rfl) (Nat.le_of_ble_eq_true rfl) dX7_init_38 (fun q4 => ?_)
  refine lw_dup F dX7_init_41 rfl ?_
  refine lw_cI F T.room (n := 0) (wr := (a, .inr (7, [.ref (A1 0), .null, .null, .null, .null, .null, .null, .ref (A2 0), .ref (A3 0), .null, .null, .int 0, .int 0])) :: ((([] ++ tpW E A1) ++ rgW E A2) ++ rgW E A3)) (wc := [(q4, .inr (4, fs4))]) (stk := [.ref q4, .ref a]) [] k_X4_init ⟨v_73, v_3, by decide, by decide, by decide +kernel⟩ rfl v_72 (Or.inl v_71) rfl rfl rfl (Nat.le_of_ble_eq_true rfl) ⟨(Nat.le_of_ble_eq_true rfl), (Nat.le_of_ble_eq_true rfl)⟩ ⟨(Nat.le_of_ble_eq_true rfl), (Nat.le_of_ble_eq_true rfl)⟩ dX7_init_42 (fun wd hp => ?_)
  obtain ⟨A4, hA, rfl⟩ := hp
  subst hA
  refine lw_pF F T.ini 0 9 (fs := [.ref (A1 0), .null, .null, .null, .null, .null, .null, .ref (A2 0), .ref (A3 0), .null, .null, .int 0, .int 0]) cf7 rfl (by decide) v_303 rfl rfl rfl rfl (Nat.le_of_ble_eq_true rfl) (wy := (a, .inr (7, [.ref (A1 0), .null, .null, .null, .null, .null, .null, .ref (A2 0), .ref (A3 0), .ref (A4 0), .null, .int 0, .int 0])) :: (((([] ++ tpW E A1) ++ rgW E A2) ++ rgW E A3) ++ rgW E A4)) rfl dX7_init_45 ?_
  refine lw_al_n F 0 dX7_init_48 rfl rfl ?_
  refine lw_null F dX7_init_49 ?_
  refine lw_p F 0 10 (fs := [.ref (A1 0), .null, .null, .null, .null, .null, .null, .ref (A2 0), .ref (A3 0), .ref (A4 0), .null, .int 0, .int 0]) cf7 rfl (by decide) v_304 rfl rfl rfl (Nat.le_of_ble_eq_true rfl) (wy := (a, .inr (7, [.ref (A1 0), .null, .null, .null, .null, .null, .null, .ref (A2 0), .ref (A3 0), .ref (A4 0), .null, .int 0, .int 0])) :: (((([] ++ tpW E A1) ++ rgW E A2) ++ rgW E A3) ++ rgW E A4)) rfl dX7_init_50 ?_
  refine lw_al_n F 0 dX7_init_53 rfl rfl ?_
  refine lw_new F T.room (ci := 0) (fs := fs0) cf0 v_145 v_146 v_5 fs0_ok (Nat.le_of_ble_eq_true rfl) (Nat.le_of_ble_eq_true rfl) dX7_init_54 (fun q5 => ?_)
  refine lw_dup F dX7_init_57 rfl ?_
  refine lw_cA F T.room hao (n := 0) (wr := (a, .inr (7, [.ref (A1 0), .null, .null, .null, .null, .null, .null, .ref (A2 0), .ref (A3 0), .ref (A4 0), .null, .int 0, .int 0])) :: (((([] ++ tpW E A1) ++ rgW E A2) ++ rgW E A3) ++ rgW E A4)) (wc := [(q5, .inr (0, fs0))]) (stk := [.ref q5, .ref a]) [] k_X0_init ⟨v_149, v_5, by decide, by decide, by decide +kernel⟩ rfl v_148 (Or.inr (by decide)) rfl rfl rfl (Nat.le_of_ble_eq_true rfl) ⟨(Nat.le_of_ble_eq_true rfl), (Nat.le_of_ble_eq_true rfl)⟩ ⟨(Nat.le_of_ble_eq_true rfl), (Nat.le_of_ble_eq_true rfl)⟩ dX7_init_58 (fun wd hp => ?_)
  obtain ⟨A5, hA, rfl⟩ := hp
  subst hA
  refine lw_pF F T.ini 0 3 (fs := [.ref (A1 0), .null, .null, .null, .null, .null, .null, .ref (A2 0), .ref (A3 0), .ref (A4 0), .null, .int 0, .int 0]) cf7 rfl (by decide) v_297 rfl rfl rfl rfl (Nat.le_of_ble_eq_true rfl) (wy := (a, .inr (7, [.ref (A1 0), .null, .null, .ref (A5 0), .null, .null, .null, .ref (A2 0), .ref (A3 0), .ref (A4 0), .null, .int 0, .int 0])) :: ((((([] ++ tpW E A1) ++ rgW E A2) ++ rgW E A3) ++ rgW E A4) ++ acW E A5)) rfl dX7_init_61 ?_
  refine lw_al_n F 0 dX7_init_64 rfl rfl ?_
  refine lw_new F T.room (ci := 1) (fs := fs1) cf1 v_164 v_165 v_6 fs1_ok (Nat.le_of_ble_eq_true rfl) (Nat.le_of_ble_eq_true rfl) dX7_init_65 (fun q6 => ?_)
  refine lw_dup F dX7_init_68 rfl ?_
  refine lw_cI F T.room (n := 0) (wr := (a, .inr (7, [.ref (A1 0), .null, .null, .ref (A5 0), .null, .null, .null, .ref (A2 0), .ref (A3 0), .ref (A4 0), .null, .int 0, .int 0])) :: ((((([] ++ tpW E A1) ++ rgW E A2) ++ rgW E A3) ++ rgW E A4) ++ acW E A5)) (wc := [(q6, .inr (1, fs1))]) (stk := [.ref q6, .ref a]) [] k_X1_init ⟨v_168, v_6, by decide, by decide, by decide +kernel⟩ rfl v_167 (Or.inr (by decide)) rfl rfl rfl (Nat.le_of_ble_eq_true rfl) ⟨(Nat.le_of_ble_eq_true rfl), (Nat.le_of_ble_eq_true rfl)⟩ ⟨(Nat.le_of_ble_eq_true rfl), (Nat.le_of_ble_eq_true rfl)⟩ dX7_init_69 (fun wd hp => ?_)
  obtain ⟨A6, hA, rfl⟩ := hp
  subst hA
  refine lw_pF F T.ini 0 5 (fs := [.ref (A1 0), .null, .null, .ref (A5 0), .null, .null, .null, .ref (A2 0), .ref (A3 0), .ref (A4 0), .null, .int 0, .int 0]) cf7 rfl (by decide) v_299 rfl rfl rfl rfl (Nat.le_of_ble_eq_true rfl) (wy := (a, .inr (7, [.ref (A1 0), .null, .null, .ref (A5 0), .null, .ref (A6 0), .null, .ref (A2 0), .ref (A3 0), .ref (A4 0), .null, .int 0, .int 0])) :: (((((([] ++ tpW E A1) ++ rgW E A2) ++ rgW E A3) ++ rgW E A4) ++ acW E A5) ++ lkW E A6)) rfl dX7_init_72 ?_
  refine lw_al_n F 0 dX7_init_75 rfl rfl ?_
  refine lw_new F T.room (ci := 1) (fs := fs1) cf1 v_164 v_165 v_6 fs1_ok (Nat.le_of_ble_eq_true rfl) (Nat.le_of_ble_eq_true rfl) dX7_init_76 (fun q7 => ?_)
  refine lw_dup F dX7_init_79 rfl ?_
  refine lw_cI F T.room (n := 0) (wr := (a, .inr (7, [.ref (A1 0), .null, .null, .ref (A5 0), .null, .ref (A6 0), .null, .ref (A2 0), .ref (A3 0), .ref (A4 0), .null, .int 0, .int 0])) :: (((((([] ++ tpW E A1) ++ rgW E A2) ++ rgW E A3) ++ rgW E A4) ++ acW E A5) ++ lkW E A6)) (wc := [(q7, .inr (1, fs1))]) (stk := [.ref q7, .ref a]) [] k_X1_init ⟨v_168, v_6, by decide, by decide, by decide +kernel⟩ rfl v_167 (Or.inr (by decide)) rfl rfl rfl (Nat.le_of_ble_eq_true rfl) ⟨(Nat.le_of_ble_eq_true rfl), (Nat.le_of_ble_eq_true rfl)⟩ ⟨(Nat.le_of_ble_eq_true rfl), (Nat.le_of_ble_eq_true rfl)⟩ dX7_init_80 (fun wd hp => ?_)
  obtain ⟨A7, hA, rfl⟩ := hp
  subst hA
  refine lw_pF F T.ini 0 6 (fs := [.ref (A1 0), .null, .null, .ref (A5 0), .null, .ref (A6 0), .null, .ref (A2 0), .ref (A3 0), .ref (A4 0), .null, .int 0, .int 0]) cf7 rfl (by decide) v_300 rfl rfl rfl rfl (Nat.le_of_ble_eq_true rfl) (wy := (a, .inr (7, [.ref (A1 0), .null, .null, .ref (A5 0), .null, .ref (A6 0), .ref (A7 0), .ref (A2 0), .ref (A3 0), .ref (A4 0), .null, .int 0, .int 0])) :: ((((((([] ++ tpW E A1) ++ rgW E A2) ++ rgW E A3) ++ rgW E A4) ++ acW E A5) ++ lkW E A6) ++ lkW E A7)) rfl dX7_init_83 ?_
  refine lw_al_n F 0 dX7_init_86 rfl rfl ?_
  refine lw_new F T.room (ci := 5) (fs := fs5) cf5 v_203 v_204 v_7 fs5_ok (Nat.le_of_ble_eq_true rfl) (Nat.le_of_ble_eq_true rfl) dX7_init_87 (fun q8 => ?_)
  refine lw_dup F dX7_init_90 rfl ?_
  refine lw_cI F T.room (n := 0) (wr := (a, .inr (7, [.ref (A1 0), .null, .null, .ref (A5 0), .null, .ref (A6 0), .ref (A7 0), .ref (A2 0), .ref (A3 0), .ref (A4 0), .null, .int 0, .int 0])) :: ((((((([] ++ tpW E A1) ++ rgW E A2) ++ rgW E A3) ++ rgW E A4) ++ acW E A5) ++ lkW E A6) ++ lkW E A7)) (wc := [(q8, .inr (5, fs5))]) (stk := [.ref q8, .ref a]) [] k_X5_init ⟨v_207, v_7, by decide, by decide, by decide +kernel⟩ rfl v_206 (Or.inr (by decide)) rfl rfl rfl (Nat.le_of_ble_eq_true rfl) ⟨(Nat.le_of_ble_eq_true rfl), (Nat.le_of_ble_eq_true rfl)⟩ ⟨(Nat.le_of_ble_eq_true rfl), (Nat.le_of_ble_eq_true rfl)⟩ dX7_init_91 (fun wd hp => ?_)
  obtain ⟨A8, hA, rfl⟩ := hp
  subst hA
  refine lw_pF F T.ini 0 4 (fs := [.ref (A1 0), .null, .null, .ref (A5 0), .null, .ref (A6 0), .ref (A7 0), .ref (A2 0), .ref (A3 0), .ref (A4 0), .null, .int 0, .int 0]) cf7 rfl (by decide) v_298 rfl rfl rfl rfl (Nat.le_of_ble_eq_true rfl) (wy := (a, .inr (7, [.ref (A1 0), .null, .null, .ref (A5 0), .ref (A8 0), .ref (A6 0), .ref (A7 0), .ref (A2 0), .ref (A3 0), .ref (A4 0), .null, .int 0, .int 0])) :: (((((((([] ++ tpW E A1) ++ rgW E A2) ++ rgW E A3) ++ rgW E A4) ++ acW E A5) ++ lkW E A6) ++ lkW E A7) ++ sdW E A8)) rfl dX7_init_94 ?_
  refine lw_al_n F 0 dX7_init_97 rfl rfl ?_
  refine lw_new F T.room (ci := 3) (fs := fs3) cf3 v_241 v_242 v_8 fs3_ok (Nat.le_of_ble_eq_true rfl) (Nat.le_of_ble_eq_true rfl) dX7_init_98 (fun q9 => ?_)
  refine lw_dup F dX7_init_101 rfl ?_
  refine lw_al_n F 0 dX7_init_102 rfl rfl ?_
  refine lw_g F 0 0 (fs := [.ref (A1 0), .null, .null, .ref (A5 0), .ref (A8 0), .ref (A6 0), .ref (A7 0), .ref (A2 0), .ref (A3 0), .ref (A4 0), .null, .int 0, .int 0]) cf7 rfl (by decide) v_294 rfl dX7_init_103 ?_
  refine lw_al_n F 0 dX7_init_106 rfl rfl ?_
  refine lw_g F 0 9 (fs := [.ref (A1 0), .null, .null, .ref (A5 0), .ref (A8 0), .ref (A6 0), .ref (A7 0), .ref (A2 0), .ref (A3 0), .ref (A4 0), .null, .int 0, .int 0]) cf7 rfl (by decide) v_303 rfl dX7_init_107 ?_
  refine lw_cI F T.room (n := 2) (wr := (a, .inr (7, [.ref (A1 0), .null, .null, .ref (A5 0), .ref (A8 0), .ref (A6 0), .ref (A7 0), .ref (A2 0), .ref (A3 0), .ref (A4 0), .null, .int 0, .int 0])) :: (((((((([] ++ tpW E A1) ++ rgW E A2) ++ rgW E A3) ++ rgW E A4) ++ acW E A5) ++ lkW E A6) ++ lkW E A7) ++ sdW E A8)) (wc := [(q9, .inr (3, fs3))]) (stk := [.ref q9, .ref a]) [.ref (A1 0), .ref (A4 0)] k_X3_init ⟨v_245, v_8, by decide, by decide, by decide +kernel⟩ rfl v_244 (Or.inl v_243) rfl rfl rfl (Nat.le_of_ble_eq_true rfl) ⟨(Nat.le_of_ble_eq_true rfl), (Nat.le_of_ble_eq_true rfl)⟩ ⟨(Nat.le_of_ble_eq_true rfl), (Nat.le_of_ble_eq_true rfl)⟩ dX7_init_110 (fun wd hp => ?_)
  obtain ⟨A9, hA, rfl⟩ := hp
  subst hA
  refine lw_pF F T.ini 0 1 (fs := [.ref (A1 0), .null, .null, .ref (A5 0), .ref (A8 0), .ref (A6 0), .ref (A7 0), .ref (A2 0), .ref (A3 0), .ref (A4 0), .null, .int 0, .int 0]) cf7 rfl (by decide) v_295 rfl rfl rfl rfl (Nat.le_of_ble_eq_true rfl) (wy := (a, .inr (7, [.ref (A1 0), .ref (A9 0), .null, .ref (A5 0), .ref (A8 0), .ref (A6 0), .ref (A7 0), .ref (A2 0), .ref (A3 0), .ref (A4 0), .null, .int 0, .int 0])) :: ((((((((([] ++ tpW E A1) ++ rgW E A2) ++ rgW E A3) ++ rgW E A4) ++ acW E A5) ++ lkW E A6) ++ lkW E A7) ++ sdW E A8) ++ rdW E A9 (A1 0) (A4 0))) rfl dX7_init_113 ?_
  refine lw_al_n F 0 dX7_init_116 rfl rfl ?_
  refine lw_new F T.room (ci := 2) (fs := fs2) cf2 v_264 v_265 v_9 fs2_ok (Nat.le_of_ble_eq_true rfl) (Nat.le_of_ble_eq_true rfl) dX7_init_117 (fun q10 => ?_)
  refine lw_dup F dX7_init_120 rfl ?_
  refine lw_al_n F 0 dX7_init_121 rfl rfl ?_
  refine lw_g F 0 0 (fs := [.ref (A1 0), .ref (A9 0), .null, .ref (A5 0), .ref (A8 0), .ref (A6 0), .ref (A7 0), .ref (A2 0), .ref (A3 0), .ref (A4 0), .null, .int 0, .int 0]) cf7 rfl (by decide) v_294 rfl dX7_init_122 ?_
  refine lw_al_n F 0 dX7_init_125 rfl rfl ?_
  refine lw_g F 0 7 (fs := [.ref (A1 0), .ref (A9 0), .null, .ref (A5 0), .ref (A8 0), .ref (A6 0), .ref (A7 0), .ref (A2 0), .ref (A3 0), .ref (A4 0), .null, .int 0, .int 0]) cf7 rfl (by decide) v_301 rfl dX7_init_126 ?_
  refine lw_al_n F 0 dX7_init_129 rfl rfl ?_
  refine lw_g F 0 5 (fs := [.ref (A1 0), .ref (A9 0), .null, .ref (A5 0), .ref (A8 0), .ref (A6 0), .ref (A7 0), .ref (A2 0), .ref (A3 0), .ref (A4 0), .null, .int 0, .int 0]) cf7 rfl (by decide) v_299 rfl dX7_init_130 ?_
  refine lw_al_n F 0 dX7_init_133 rfl rfl ?_
  refine lw_g F 0 4 (fs := [.ref (A1 0), .ref (A9 0), .null, .ref (A5 0), .ref (A8 0), .ref (A6 0), .ref (A7 0), .ref (A2 0), .ref (A3 0), .ref (A4 0), .null, .int 0, .int 0]) cf7 rfl (by decide) v_298 rfl dX7_init_134 ?_
  refine lw_cI F T.room (n := 4) (wr := (a, .inr (7, [.ref (A1 0), .ref (A9 0), .null, .ref (A5 0), .ref (A8 0), .ref (A6 0), .ref (A7 0), .ref (A2 0), .ref (A3 0), .ref (A4 0), .null, .int 0, .int 0])) :: ((((((((([] ++ tpW E A1) ++ rgW E A2) ++ rgW E A3) ++ rgW E A4) ++ acW E A5) ++ lkW E A6) ++ lkW E A7) ++ sdW E A8) ++ rdW E A9 (A1 0) (A4 0))) (wc := [(q10, .inr (2, fs2))]) (stk := [.ref q10, .ref a]) [.ref (A1 0), .ref (A2 0), .ref (A6 0), .ref (A8 0)] k_X2_init ⟨v_268, v_9, by decide, by decide, by decide +kernel⟩ rfl v_267 (Or.inl v_266) rfl rfl rfl (Nat.le_of_ble_eq_true rfl) ⟨(Nat.le_of_ble_eq_true rfl), (Nat.le_of_ble_eq_true rfl)⟩ ⟨(Nat.le_of_ble_eq_true rfl), (Nat.le_of_ble_eq_true rfl)⟩ dX7_init_137 (fun wd hp => ?_)
  obtain ⟨A10, hA, rfl⟩ := hp
  subst hA
  refine lw_pF F T.ini 0 2 (fs := [.ref (A1 0), .ref (A9 0), .null, .ref (A5 0), .ref (A8 0), .ref (A6 0), .ref (A7 0), .ref (A2 0), .ref (A3 0), .ref (A4 0), .null, .int 0, .int 0]) cf7 rfl (by decide) v_296 rfl rfl rfl rfl (Nat.le_of_ble_eq_true rfl) (wy := (a, .inr (7, [.ref (A1 0), .ref (A9 0), .ref (A10 0), .ref (A5 0), .ref (A8 0), .ref (A6 0), .ref (A7 0), .ref (A2 0), .ref (A3 0), .ref (A4 0), .null, .int 0, .int 0])) :: (((((((((([] ++ tpW E A1) ++ rgW E A2) ++ rgW E A3) ++ rgW E A4) ++ acW E A5) ++ lkW E A6) ++ lkW E A7) ++ sdW E A8) ++ rdW E A9 (A1 0) (A4 0)) ++ quW E A10 (A1 0) (A2 0) (A6 0) (A8 0))) rfl dX7_init_140 ?_
  refine lw_al_n F 0 dX7_init_143 rfl rfl ?_
  refine lw_ic F dX7_init_144 (v := (-1 : Int32)) (by decide) ?_
  refine lw_p F 0 11 (fs := [.ref (A1 0), .ref (A9 0), .ref (A10 0), .ref (A5 0), .ref (A8 0), .ref (A6 0), .ref (A7 0), .ref (A2 0), .ref (A3 0), .ref (A4 0), .null, .int 0, .int 0]) cf7 rfl (by decide) v_305 rfl rfl rfl (Nat.le_of_ble_eq_true rfl) (wy := (a, .inr (7, [.ref (A1 0), .ref (A9 0), .ref (A10 0), .ref (A5 0), .ref (A8 0), .ref (A6 0), .ref (A7 0), .ref (A2 0), .ref (A3 0), .ref (A4 0), .null, .int (-1), .int 0])) :: (((((((((([] ++ tpW E A1) ++ rgW E A2) ++ rgW E A3) ++ rgW E A4) ++ acW E A5) ++ lkW E A6) ++ lkW E A7) ++ sdW E A8) ++ rdW E A9 (A1 0) (A4 0)) ++ quW E A10 (A1 0) (A2 0) (A6 0) (A8 0))) rfl dX7_init_145 ?_
  refine lw_al_n F 0 dX7_init_148 rfl rfl ?_
  refine lw_ic F dX7_init_149 (v := (3 : Int32)) (by decide) ?_
  refine lw_p F 0 12 (fs := [.ref (A1 0), .ref (A9 0), .ref (A10 0), .ref (A5 0), .ref (A8 0), .ref (A6 0), .ref (A7 0), .ref (A2 0), .ref (A3 0), .ref (A4 0), .null, .int (-1), .int 0]) cf7 rfl (by decide) v_306 rfl rfl rfl (Nat.le_of_ble_eq_true rfl) (wy := (a, .inr (7, [.ref (A1 0), .ref (A9 0), .ref (A10 0), .ref (A5 0), .ref (A8 0), .ref (A6 0), .ref (A7 0), .ref (A2 0), .ref (A3 0), .ref (A4 0), .null, .int (-1), .int 3])) :: (((((((((([] ++ tpW E A1) ++ rgW E A2) ++ rgW E A3) ++ rgW E A4) ++ acW E A5) ++ lkW E A6) ++ lkW E A7) ++ sdW E A8) ++ rdW E A9 (A1 0) (A4 0)) ++ quW E A10 (A1 0) (A2 0) (A6 0) (A8 0))) rfl dX7_init_150 ?_
  exact lw_vret F T (Nat.le_of_ble_eq_true rfl) (Nat.le_of_ble_eq_true rfl) ⟨A1, A2, A3, A4, A5, A6, A7, A8, A9, A10, rfl⟩ dX7_init_153
theorem fs7_ok : ∀ j, j < 13 → defaultValue (tyX7 j) = vp_V fs7 j := by
  intro j hj
  have j0 : j = 0 ∨ j = 1 ∨ j = 2 ∨ j = 3 ∨ j = 4 ∨ j = 5 ∨ j = 6 ∨ j = 7 ∨ j = 8 ∨ j = 9 ∨ j = 10 ∨ j = 11 ∨ j = 12 := by omega
  rcases j0 with rfl | rfl | rfl | rfl | rfl | rfl | rfl | rfl | rfl | rfl | rfl | rfl | rfl <;> rfl
