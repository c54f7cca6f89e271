theorem bi_m9 : (Int8.ofInt (-9)).toInt32 = (-9 : Int32) := by decide
theorem bi_m8 : (Int8.ofInt (-8)).toInt32 = (-8 : Int32) := by decide
theorem bi_m7 : (Int8.ofInt (-7)).toInt32 = (-7 : Int32) := by decide
theorem bi_m6 : (Int8.ofInt (-6)).toInt32 = (-6 : Int32) := by decide
theorem bi_m5 : (Int8.ofInt (-5)).toInt32 = (-5 : Int32) := by decide
theorem bi_m4 : (Int8.ofInt (-4)).toInt32 = (-4 : Int32) := by decide
theorem bi_m3 : (Int8.ofInt (-3)).toInt32 = (-3 : Int32) := by decide
theorem bi_60 : (Int8.ofInt (60)).toInt32 = (60 : Int32) := by decide
theorem bi_62 : (Int8.ofInt (62)).toInt32 = (62 : Int32) := by decide
theorem bi_61 : (Int8.ofInt (61)).toInt32 = (61 : Int32) := by decide
theorem w_271 : (Jvm.Cond.fieldLink "MarkField$Question" (25 : Nat) "MarkField$Question" "register" "LMarkField$Register;") ∈ tb := tb_of (List.mem_of_getElem? (i := 271) (by decide +kernel)) rfl
theorem w_84 : (Jvm.Cond.fieldLink "MarkField$Question" (72 : Nat) "MarkField$Register" "marks" "I") ∈ tb := tb_of (List.mem_of_getElem? (i := 84) (by decide +kernel)) rfl
theorem w_274 : (Jvm.Cond.fieldLink "MarkField$Question" (9 : Nat) "MarkField$Question" "fault" "I") ∈ tb := tb_of (List.mem_of_getElem? (i := 274) (by decide +kernel)) rfl
theorem w_270 : (Jvm.Cond.fieldLink "MarkField$Question" (21 : Nat) "MarkField$Question" "tape" "LMarkField$Tape;") ∈ tb := tb_of (List.mem_of_getElem? (i := 270) (by decide +kernel)) rfl
theorem w_47 : (Jvm.Cond.fieldLink "MarkField$Question" (81 : Nat) "MarkField$Tape" "start" "I") ∈ tb := tb_of (List.mem_of_getElem? (i := 47) (by decide +kernel)) rfl
theorem w_275 : (Jvm.Cond.fieldLink "MarkField$Question" (15 : Nat) "MarkField$Question" "place" "I") ∈ tb := tb_of (List.mem_of_getElem? (i := 275) (by decide +kernel)) rfl
theorem w_1098 : (Jvm.Cond.methodLink "MarkField$Question" (45 : Nat) ({ cls := "MarkField$Tape", name := "isWord", desc := "(Ljava/lang/String;)Z" } : Jvm.MethodName)) ∈ tb := tb_of (List.mem_of_getElem? (i := 1098) (by decide +kernel)) rfl
theorem w_44 : (Jvm.Cond.fieldLink "MarkField$Question" (61 : Nat) "MarkField$Tape" "kind" "I") ∈ tb := tb_of (List.mem_of_getElem? (i := 44) (by decide +kernel)) rfl
theorem w_1126 : (Jvm.Cond.code ({ cls := "MarkField$Question", name := "valueOfWord", desc := "()I" } : Jvm.MethodName) prog_4_method_9_code (1 : Nat) (Option.some Jvm.ClassFile.FieldType.int)) ∈ tb := tb_of (List.mem_of_getElem? (i := 1126) (by decide +kernel)) rfl
theorem w_9 : (Jvm.Cond.initialized "MarkField$Question") ∈ tb := tb_of (List.mem_of_getElem? (i := 9) (by decide +kernel)) rfl
theorem w_1125 : (Jvm.Cond.instanceMethod ({ cls := "MarkField$Question", name := "valueOfWord", desc := "()I" } : Jvm.MethodName)) ∈ tb := tb_of (List.mem_of_getElem? (i := 1125) (by decide +kernel)) rfl
theorem ws_35 : (Jvm.Cond.selects "MarkField$Question" ({ cls := "MarkField$Question", name := "valueOfWord", desc := "()I" } : Jvm.MethodName) ({ cls := "MarkField$Question", name := "valueOfWord", desc := "()I" } : Jvm.MethodName)) ∈ tb := tb_sel (List.mem_of_getElem? (i := 35) (by decide +kernel)) rfl
theorem w_1123 : (Jvm.Cond.methodLink "MarkField$Question" (114 : Nat) ({ cls := "MarkField$Question", name := "valueOfWord", desc := "()I" } : Jvm.MethodName)) ∈ tb := tb_of (List.mem_of_getElem? (i := 1123) (by decide +kernel)) rfl
theorem w_1104 : (Jvm.Cond.methodLink "MarkField$Question" (55 : Nat) ({ cls := "MarkField$Tape", name := "advance", desc := "()V" } : Jvm.MethodName)) ∈ tb := tb_of (List.mem_of_getElem? (i := 1104) (by decide +kernel)) rfl
theorem w_1103 : (Jvm.Cond.code ({ cls := "MarkField$Question", name := "fail", desc := "(I)I" } : Jvm.MethodName) prog_4_method_4_code (2 : Nat) (Option.some Jvm.ClassFile.FieldType.int)) ∈ tb := tb_of (List.mem_of_getElem? (i := 1103) (by decide +kernel)) rfl
theorem w_1102 : (Jvm.Cond.instanceMethod ({ cls := "MarkField$Question", name := "fail", desc := "(I)I" } : Jvm.MethodName)) ∈ tb := tb_of (List.mem_of_getElem? (i := 1102) (by decide +kernel)) rfl
theorem ws_30 : (Jvm.Cond.selects "MarkField$Question" ({ cls := "MarkField$Question", name := "fail", desc := "(I)I" } : Jvm.MethodName) ({ cls := "MarkField$Question", name := "fail", desc := "(I)I" } : Jvm.MethodName)) ∈ tb := tb_sel (List.mem_of_getElem? (i := 30) (by decide +kernel)) rfl
theorem w_1100 : (Jvm.Cond.methodLink "MarkField$Question" (51 : Nat) ({ cls := "MarkField$Question", name := "fail", desc := "(I)I" } : Jvm.MethodName)) ∈ tb := tb_of (List.mem_of_getElem? (i := 1100) (by decide +kernel)) rfl
theorem w_50 : (Jvm.Cond.fieldLink "MarkField$Question" (111 : Nat) "MarkField$Tape" "value" "I") ∈ tb := tb_of (List.mem_of_getElem? (i := 50) (by decide +kernel)) rfl
theorem w_273 : (Jvm.Cond.fieldLink "MarkField$Question" (33 : Nat) "MarkField$Question" "standing" "LMarkField$Standing;") ∈ tb := tb_of (List.mem_of_getElem? (i := 273) (by decide +kernel)) rfl
theorem w_883 : (Jvm.Cond.code ({ cls := "MarkField$Standing", name := "refusedHalves", desc := "(I)I" } : Jvm.MethodName) prog_7_method_9_code (2 : Nat) (Option.some Jvm.ClassFile.FieldType.int)) ∈ tb := tb_of (List.mem_of_getElem? (i := 883) (by decide +kernel)) rfl
theorem w_881 : (Jvm.Cond.instanceMethod ({ cls := "MarkField$Standing", name := "refusedHalves", desc := "(I)I" } : Jvm.MethodName)) ∈ tb := tb_of (List.mem_of_getElem? (i := 881) (by decide +kernel)) rfl
theorem w_882 : (Jvm.Cond.selects "MarkField$Standing" ({ cls := "MarkField$Standing", name := "refusedHalves", desc := "(I)I" } : Jvm.MethodName) ({ cls := "MarkField$Standing", name := "refusedHalves", desc := "(I)I" } : Jvm.MethodName)) ∈ tb := tb_of (List.mem_of_getElem? (i := 882) (by decide +kernel)) rfl
theorem w_1142 : (Jvm.Cond.methodLink "MarkField$Question" (159 : Nat) ({ cls := "MarkField$Standing", name := "refusedHalves", desc := "(I)I" } : Jvm.MethodName)) ∈ tb := tb_of (List.mem_of_getElem? (i := 1142) (by decide +kernel)) rfl
theorem w_1140 : (Jvm.Cond.methodLink "MarkField$Question" (64 : Nat) ({ cls := "java/lang/Integer", name := "bitCount", desc := "(I)I" } : Jvm.MethodName)) ∈ tb := tb_of (List.mem_of_getElem? (i := 1140) (by decide +kernel)) rfl
theorem w_217 : (Jvm.Cond.fieldLink "MarkField$Question" (154 : Nat) "MarkField$Standing" "held" "[I") ∈ tb := tb_of (List.mem_of_getElem? (i := 217) (by decide +kernel)) rfl
theorem w_272 : (Jvm.Cond.fieldLink "MarkField$Question" (29 : Nat) "MarkField$Question" "likeness" "LMarkField$Likeness;") ∈ tb := tb_of (List.mem_of_getElem? (i := 272) (by decide +kernel)) rfl
theorem w_1141 : (Jvm.Cond.methodLink "MarkField$Question" (151 : Nat) ({ cls := "MarkField$Likeness", name := "fieldOf", desc := "(I)I" } : Jvm.MethodName)) ∈ tb := tb_of (List.mem_of_getElem? (i := 1141) (by decide +kernel)) rfl
theorem w_174 : (Jvm.Cond.fieldLink "MarkField$Question" (146 : Nat) "MarkField$Likeness" "soundCounts" "[I") ∈ tb := tb_of (List.mem_of_getElem? (i := 174) (by decide +kernel)) rfl
theorem w_100 : (Jvm.Cond.fieldLink "MarkField$Question" (143 : Nat) "MarkField$Register" "lengths" "[I") ∈ tb := tb_of (List.mem_of_getElem? (i := 100) (by decide +kernel)) rfl
theorem w_107 : (Jvm.Cond.fieldLink "MarkField$Question" (140 : Nat) "MarkField$Register" "useCounts" "[I") ∈ tb := tb_of (List.mem_of_getElem? (i := 107) (by decide +kernel)) rfl
theorem w_95 : (Jvm.Cond.fieldLink "MarkField$Question" (138 : Nat) "MarkField$Register" "classes" "[I") ∈ tb := tb_of (List.mem_of_getElem? (i := 95) (by decide +kernel)) rfl
theorem w_91 : (Jvm.Cond.fieldLink "MarkField$Question" (135 : Nat) "MarkField$Register" "filed" "[I") ∈ tb := tb_of (List.mem_of_getElem? (i := 91) (by decide +kernel)) rfl
theorem w_1122 : (Jvm.Cond.code ({ cls := "MarkField$Question", name := "readValue", desc := "()I" } : Jvm.MethodName) prog_4_method_8_code (2 : Nat) (Option.some Jvm.ClassFile.FieldType.int)) ∈ tb := tb_of (List.mem_of_getElem? (i := 1122) (by decide +kernel)) rfl
theorem w_1121 : (Jvm.Cond.instanceMethod ({ cls := "MarkField$Question", name := "readValue", desc := "()I" } : Jvm.MethodName)) ∈ tb := tb_of (List.mem_of_getElem? (i := 1121) (by decide +kernel)) rfl
theorem ws_34 : (Jvm.Cond.selects "MarkField$Question" ({ cls := "MarkField$Question", name := "readValue", desc := "()I" } : Jvm.MethodName) ({ cls := "MarkField$Question", name := "readValue", desc := "()I" } : Jvm.MethodName)) ∈ tb := tb_sel (List.mem_of_getElem? (i := 34) (by decide +kernel)) rfl
theorem w_1119 : (Jvm.Cond.methodLink "MarkField$Question" (104 : Nat) ({ cls := "MarkField$Question", name := "readValue", desc := "()I" } : Jvm.MethodName)) ∈ tb := tb_of (List.mem_of_getElem? (i := 1119) (by decide +kernel)) rfl
theorem w_1114 : (Jvm.Cond.methodLink "MarkField$Question" (93 : Nat) ({ cls := "MarkField$Tape", name := "isSign", desc := "(C)Z" } : Jvm.MethodName)) ∈ tb := tb_of (List.mem_of_getElem? (i := 1114) (by decide +kernel)) rfl
theorem w_1139 : (Jvm.Cond.code ({ cls := "MarkField$Question", name := "valueOf", desc := "(II)I" } : Jvm.MethodName) prog_4_method_10_code (3 : Nat) (Option.some Jvm.ClassFile.FieldType.int)) ∈ tb := tb_of (List.mem_of_getElem? (i := 1139) (by decide +kernel)) rfl
theorem w_1138 : (Jvm.Cond.instanceMethod ({ cls := "MarkField$Question", name := "valueOf", desc := "(II)I" } : Jvm.MethodName)) ∈ tb := tb_of (List.mem_of_getElem? (i := 1138) (by decide +kernel)) rfl
theorem ws_36 : (Jvm.Cond.selects "MarkField$Question" ({ cls := "MarkField$Question", name := "valueOf", desc := "(II)I" } : Jvm.MethodName) ({ cls := "MarkField$Question", name := "valueOf", desc := "(II)I" } : Jvm.MethodName)) ∈ tb := tb_sel (List.mem_of_getElem? (i := 36) (by decide +kernel)) rfl
theorem w_1136 : (Jvm.Cond.methodLink "MarkField$Question" (107 : Nat) ({ cls := "MarkField$Question", name := "valueOf", desc := "(II)I" } : Jvm.MethodName)) ∈ tb := tb_of (List.mem_of_getElem? (i := 1136) (by decide +kernel)) rfl
theorem mv_X2_valueOfWord : MV yX2_valueOfWord cX2_valueOfWord 1 (some .int) 0 := ⟨⟨w_1126, w_9, by decide, by decide, by decide +kernel⟩, w_1125, ws_35⟩
theorem mv_X2_fail : MV yX2_fail cX2_fail 2 (some .int) 1 := ⟨⟨w_1103, w_9, by decide, by decide, by decide +kernel⟩, w_1102, ws_30⟩
theorem mv_X5_refusedHalves : MV yX5_refusedHalves cX5_refusedHalves 2 (some .int) 1 := ⟨⟨w_883, w_7, by decide, by decide, by decide +kernel⟩, w_881, w_882⟩
theorem mv_X2_readValue : MV yX2_readValue cX2_readValue 2 (some .int) 0 := ⟨⟨w_1122, w_9, by decide, by decide, by decide +kernel⟩, w_1121, ws_34⟩
theorem mv_X2_valueOf : MV yX2_valueOf cX2_valueOf 3 (some .int) 2 := ⟨⟨w_1139, w_9, by decide, by decide, by decide +kernel⟩, w_1138, ws_36⟩
-- X2_firstOf (height 1)
def lb_X2_firstOf_2 (post : Int32 → GH → Prop) (P2 : Int32 → Int32 → GH → Prop) (v1 v2 : Int32) (G : GH) : Prop :=
  (((G 8 0 1) ≤ v2 → post (-1 : Int32) G) ∧ (¬ (G 8 0 1) ≤ v2 → wp_X7_isIn (fun (b_3 : Bool) (G_2 : GH) => ((b_3 = false → P2 v1 (v2 + (1 : Int32)) G_2) ∧ (b_3 = true → post v2 G_2))) v2 v1 G))
def lp_X2_firstOf_2 (post : Int32 → GH → Prop) (v1 v2 : Int32) (G : GH) : Prop := ∀ P2 : Int32 → Int32 → GH → Prop, (∀ (v1 v2 : Int32) (G : GH), lb_X2_firstOf_2 post P2 v1 v2 G → P2 v1 v2 G) → P2 v1 v2 G
def wp_X2_firstOf (post : Int32 → GH → Prop) (x1 : Int32) (G : GH) : Prop :=
  lp_X2_firstOf_2 post x1 (0 : Int32) G
set_option maxRecDepth 100000 in
set_option maxHeartbeats 4000000 in
theorem kl_X2_firstOf_2 {E : Ev} {X : Cx} {post : Int32 → GH → Prop} {v1 v2 : Int32} {G : GH} (F : Fx E X "MarkField$Question" cX2_firstOf 3) (T : RT E X 1 0 0 (some .int) (pI post)) (h : lp_X2_firstOf_2 post v1 v2 G) : AW E X 3 2 [(0, .ref (sdX X 3 0)), (1, .int v1), (2, .int v2)] [] G 0 0 := by
  have hP := F.P
  have K2 : ∀ (v1 v2 : Int32) (G : GH), AW E X 3 2 [(0, .ref (sdX X 3 0)), (1, .int v1), (2, .int v2)] [] G 0 0 → AW E X 3 2 [(0, .ref (sdX X 3 0)), (1, .int v1), (2, .int v2)] [] G 0 0 := fun _ _ _ q => q
  refine h (fun (v1 v2 : Int32) (G : GH) => AW E X 3 2 [(0, .ref (sdX X 3 0)), (1, .int v1), (2, .int v2)] [] G 0 0) (fun (v1 v2 : Int32) (G : GH) h => ?_)
  refine aw_il_n F 2 dX2_firstOf_2 rfl rfl ?_
  refine aw_al_n F 0 dX2_firstOf_3 rfl rfl ?_
  refine gr2_1 F (lo_s rfl) (hP _ rfl) rfl w_271 (hP 8 rfl) dX2_firstOf_4 ?_
  refine gf4_1 F (lo_s rfl) (hP _ rfl) rfl w_84 dX2_firstOf_7 ?_
  refine aw_icmp_ge (tgt := 29) F dX2_firstOf_10 (by decide) (fun c_1 => ?_) (fun c_1 => ?_)
  · replace h := h.1 c_1
    refine aw_ic F dX2_firstOf_29 ic_m1 ?_
    exact aw_iret F T (Nat.le_of_ble_eq_true rfl) (Nat.le_of_ble_eq_true rfl) ⟨_, rfl, h⟩ dX2_firstOf_30
  · replace h := h.2 c_1
    refine aw_il_n F 2 dX2_firstOf_13 rfl rfl ?_
    refine aw_il_n F 1 dX2_firstOf_14 rfl rfl ?_
    refine aw_cSNb (stk := []) F T.room [.int v2, .int v1] (k_X7_isIn hP h) ms_X7_isIn (by decide) rfl rfl (Nat.le_of_ble_eq_true rfl) ⟨(Nat.le_of_ble_eq_true rfl), (Nat.le_of_ble_eq_true rfl)⟩ ⟨(Nat.le_of_ble_eq_true rfl), (Nat.le_of_ble_eq_true rfl)⟩ dX2_firstOf_15 (fun b_3 G_2 h => ?_)
    refine aw_if_eq (tgt := 23) F dX2_firstOf_18 (by decide) (fun c_4 => ?_) (fun c_4 => ?_)
    · replace h := h.1 (bI_2 c_4)
      refine aw_inc (lv1 := [(2, .int (v2 + (1 : Int32))), (0, .ref (sdX X 3 0)), (1, .int v1)]) F 2 dX2_firstOf_23 rfl (in_1 _) (by decide) rfl ?_
      refine aw_go (tgt := 2) F dX2_firstOf_26 (by decide) ?_
      refine aw_sub [1, 2, 0] rfl ?_
      exact K2 _ _ _ h
    · replace h := h.2 (bI_1 c_4)
      refine aw_il_n F 2 dX2_firstOf_21 rfl rfl ?_
      exact aw_iret F T (Nat.le_of_ble_eq_true rfl) (Nat.le_of_ble_eq_true rfl) ⟨_, rfl, h⟩ dX2_firstOf_22
set_option maxRecDepth 100000 in
set_option maxHeartbeats 4000000 in
theorem k_X2_firstOf {l : Launch} {E : Ev} {P : Nat → Prop} {sd : Nat → Nat → Nat} {G : GH} {post : Int32 → GH → Prop} {x1 : Int32} (hPP : ∀ o, stt o = true → P o) (h : wp_X2_firstOf post x1 G) : Ct l yX2_firstOf cX2_firstOf 3 (some .int) 1 0 0 E P sd G [.ref (sd 3 0), .int x1] (pI post) := by
  refine ct_of (own := "MarkField$Question") (by decide) rfl (Nat.le_of_ble_eq_true rfl) hPP (fun X F T el eP es => ?_)
  subst el; subst eP; subst es
  have hP := F.P
  change AW E X 3 0 [(0, .ref (sdX X 3 0)), (1, .int x1)] [] G 0 0
  refine aw_ic F dX2_firstOf_0 ic_0 ?_
  refine aw_is_n (lv1 := [(2, .int (0 : Int32)), (0, .ref (sdX X 3 0)), (1, .int x1)]) F dX2_firstOf_1 rfl (by decide) rfl ?_
  refine aw_sub [1, 2, 0] rfl ?_
  exact kl_X2_firstOf_2 F T h
-- X2_fail (height 0)
def wp_X2_fail (post : Int32 → GH → Prop) (x1 : Int32) (G : GH) : Prop :=
  (((G 3 0 4) = 0 → (∀ G_2 : GH, G_2 = gs G 3 0 (upd (G 3 0) 4 x1) → (∀ G_3 : GH, G_3 = gs G_2 3 0 (upd (G_2 3 0) 5 (G_2 1 0 3)) → post (0 : Int32) G_3))) ∧ (¬ (G 3 0 4) = 0 → post (0 : Int32) G))
set_option maxRecDepth 100000 in
set_option maxHeartbeats 4000000 in
theorem k_X2_fail {l : Launch} {E : Ev} {P : Nat → Prop} {sd : Nat → Nat → Nat} {G : GH} {post : Int32 → GH → Prop} {x1 : Int32} (hPP : ∀ o, stt o = true → P o) (h : wp_X2_fail post x1 G) : Ct l yX2_fail cX2_fail 2 (some .int) 0 0 0 E P sd G [.ref (sd 3 0), .int x1] (pI post) := by
  refine ct_of (own := "MarkField$Question") (by decide) rfl (Nat.le_of_ble_eq_true rfl) hPP (fun X F T el eP es => ?_)
  subst el; subst eP; subst es
  have hP := F.P
  change AW E X 2 0 [(0, .ref (sdX X 3 0)), (1, .int x1)] [] G 0 0
  refine aw_al_n F 0 dX2_fail_0 rfl rfl ?_
  refine gf2_4 F (lo_s rfl) (hP _ rfl) rfl w_274 dX2_fail_1 ?_
  refine aw_if_ne (tgt := 23) F dX2_fail_4 (by decide) (fun c_1 => ?_) (fun c_1 => ?_)
  · replace h := h.2 c_1
    refine aw_ic F dX2_fail_23 ic_0 ?_
    exact aw_iret F T (Nat.le_of_ble_eq_true rfl) (Nat.le_of_ble_eq_true rfl) ⟨_, rfl, h⟩ dX2_fail_24
  · replace h := h.1 c_1
    refine aw_al_n F 0 dX2_fail_7 rfl rfl ?_
    refine aw_il_n F 1 dX2_fail_8 rfl rfl ?_
    refine pf2_4 F (lo_s rfl) (hP _ rfl) rfl w_274 dX2_fail_9 (fun G_2 eG_2 => ?_)
    replace h := h G_2 eG_2
    refine aw_al_n F 0 dX2_fail_12 rfl rfl ?_
    refine aw_al_n F 0 dX2_fail_13 rfl rfl ?_
    refine gr2_0 F (lo_s rfl) (hP _ rfl) rfl w_270 (hP 1 rfl) dX2_fail_14 ?_
    refine gf6_3 F (lo_s rfl) (hP _ rfl) rfl w_47 dX2_fail_17 ?_
    refine pf2_5 F (lo_s rfl) (hP _ rfl) rfl w_275 dX2_fail_20 (fun G_3 eG_3 => ?_)
    replace h := h G_3 eG_3
    refine aw_ic F dX2_fail_23 ic_0 ?_
    exact aw_iret F T (Nat.le_of_ble_eq_true rfl) (Nat.le_of_ble_eq_true rfl) ⟨_, rfl, h⟩ dX2_fail_24
-- X2_valueOfWord (height 8)
def wp_X2_valueOfWord (post : Int32 → GH → Prop) (G : GH) : Prop :=
  wp_X6_isWord (fun (b_2 : Bool) (G_1 : GH) => ((b_2 = false → wp_X6_isWord (fun (b_5 : Bool) (G_4 : GH) => ((b_5 = false → wp_X6_isWord (fun (b_8 : Bool) (G_7 : GH) => ((b_8 = false → wp_X6_isWord (fun (b_11 : Bool) (G_10 : GH) => ((b_11 = false → wp_X6_isWord (fun (b_14 : Bool) (G_13 : GH) => ((b_14 = false → wp_X6_isWord (fun (b_17 : Bool) (G_16 : GH) => ((b_17 = false → wp_X6_isWord (fun (b_20 : Bool) (G_19 : GH) => ((b_20 = false → wp_X6_isWord (fun (b_23 : Bool) (G_22 : GH) => ((b_23 = false → wp_X6_isWord (fun (b_26 : Bool) (G_25 : GH) => ((b_26 = false → post (0 : Int32) G_25) ∧ (b_26 = true → post (-9 : Int32) G_25))) 28 G_22) ∧ (b_23 = true → post (-8 : Int32) G_22))) 27 G_19) ∧ (b_20 = true → post (-7 : Int32) G_19))) 26 G_16) ∧ (b_17 = true → post (-6 : Int32) G_16))) 25 G_13) ∧ (b_14 = true → post (-5 : Int32) G_13))) 24 G_10) ∧ (b_11 = true → post (-4 : Int32) G_10))) 23 G_7) ∧ (b_8 = true → post (-3 : Int32) G_7))) 22 G_4) ∧ (b_5 = true → post (-2 : Int32) G_4))) 21 G_1) ∧ (b_2 = true → post (-1 : Int32) G_1))) 20 G
set_option maxRecDepth 100000 in
set_option maxHeartbeats 4000000 in
theorem k_X2_valueOfWord {l : Launch} {E : Ev} {P : Nat → Prop} {sd : Nat → Nat → Nat} {G : GH} {post : Int32 → GH → Prop} (hPP : ∀ o, stt o = true → P o) (h : wp_X2_valueOfWord post G) : Ct l yX2_valueOfWord cX2_valueOfWord 1 (some .int) 8 0 0 E P sd G [.ref (sd 3 0)] (pI post) := by
  refine ct_of (own := "MarkField$Question") (by decide) rfl (Nat.le_of_ble_eq_true rfl) hPP (fun X F T el eP es => ?_)
  subst el; subst eP; subst es
  have hP := F.P
  change AW E X 1 0 [(0, .ref (sdX X 3 0))] [] G 0 0
  refine aw_al_n F 0 dX2_valueOfWord_0 rfl rfl ?_
  refine gr2_0 F (lo_s rfl) (hP _ rfl) rfl w_270 (hP 1 rfl) dX2_valueOfWord_1 ?_
  refine aw_ldcS F 20 (by decide) rfl dX2_valueOfWord_4 ?_
  refine aw_cVb (stk := []) F T.room [.ref (E.2.2.2.1 20)] (k_X6_isWord hP (by decide) h) mv_X6_isWord w_1098 cf6 (lo_s rfl) (hP _ rfl) rfl (by decide) rfl rfl (Nat.le_of_ble_eq_true rfl) ⟨(Nat.le_of_ble_eq_true rfl), (Nat.le_of_ble_eq_true rfl)⟩ ⟨(Nat.le_of_ble_eq_true rfl), (Nat.le_of_ble_eq_true rfl)⟩ dX2_valueOfWord_6 (fun b_2 G_1 h => ?_)
  refine aw_if_eq (tgt := 14) F dX2_valueOfWord_9 (by decide) (fun c_3 => ?_) (fun c_3 => ?_)
  · replace h := h.1 (bI_2 c_3)
    refine aw_al_n F 0 dX2_valueOfWord_14 rfl rfl ?_
    refine gr2_0 F (lo_s rfl) (hP _ rfl) rfl w_270 (hP 1 rfl) dX2_valueOfWord_15 ?_
    refine aw_ldcS F 21 (by decide) rfl dX2_valueOfWord_18 ?_
    refine aw_cVb (stk := []) F T.room [.ref (E.2.2.2.1 21)] (k_X6_isWord hP (by decide) h) mv_X6_isWord w_1098 cf6 (lo_s rfl) (hP _ rfl) rfl (by decide) rfl rfl (Nat.le_of_ble_eq_true rfl) ⟨(Nat.le_of_ble_eq_true rfl), (Nat.le_of_ble_eq_true rfl)⟩ ⟨(Nat.le_of_ble_eq_true rfl), (Nat.le_of_ble_eq_true rfl)⟩ dX2_valueOfWord_20 (fun b_5 G_4 h => ?_)
    refine aw_if_eq (tgt := 29) F dX2_valueOfWord_23 (by decide) (fun c_6 => ?_) (fun c_6 => ?_)
    · replace h := h.1 (bI_2 c_6)
      refine aw_al_n F 0 dX2_valueOfWord_29 rfl rfl ?_
      refine gr2_0 F (lo_s rfl) (hP _ rfl) rfl w_270 (hP 1 rfl) dX2_valueOfWord_30 ?_
      refine aw_ldcS F 22 (by decide) rfl dX2_valueOfWord_33 ?_
      refine aw_cVb (stk := []) F T.room [.ref (E.2.2.2.1 22)] (k_X6_isWord hP (by decide) h) mv_X6_isWord w_1098 cf6 (lo_s rfl) (hP _ rfl) rfl (by decide) rfl rfl (Nat.le_of_ble_eq_true rfl) ⟨(Nat.le_of_ble_eq_true rfl), (Nat.le_of_ble_eq_true rfl)⟩ ⟨(Nat.le_of_ble_eq_true rfl), (Nat.le_of_ble_eq_true rfl)⟩ dX2_valueOfWord_35 (fun b_8 G_7 h => ?_)
      refine aw_if_eq (tgt := 44) F dX2_valueOfWord_38 (by decide) (fun c_9 => ?_) (fun c_9 => ?_)
      · replace h := h.1 (bI_2 c_9)
        refine aw_al_n F 0 dX2_valueOfWord_44 rfl rfl ?_
        refine gr2_0 F (lo_s rfl) (hP _ rfl) rfl w_270 (hP 1 rfl) dX2_valueOfWord_45 ?_
        refine aw_ldcS F 23 (by decide) rfl dX2_valueOfWord_48 ?_
        refine aw_cVb (stk := []) F T.room [.ref (E.2.2.2.1 23)] (k_X6_isWord hP (by decide) h) mv_X6_isWord w_1098 cf6 (lo_s rfl) (hP _ rfl) rfl (by decide) rfl rfl (Nat.le_of_ble_eq_true rfl) ⟨(Nat.le_of_ble_eq_true rfl), (Nat.le_of_ble_eq_true rfl)⟩ ⟨(Nat.le_of_ble_eq_true rfl), (Nat.le_of_ble_eq_true rfl)⟩ dX2_valueOfWord_50 (fun b_11 G_10 h => ?_)
        refine aw_if_eq (tgt := 59) F dX2_valueOfWord_53 (by decide) (fun c_12 => ?_) (fun c_12 => ?_)
        · replace h := h.1 (bI_2 c_12)
          refine aw_al_n F 0 dX2_valueOfWord_59 rfl rfl ?_
          refine gr2_0 F (lo_s rfl) (hP _ rfl) rfl w_270 (hP 1 rfl) dX2_valueOfWord_60 ?_
          refine aw_ldcS F 24 (by decide) rfl dX2_valueOfWord_63 ?_
          refine aw_cVb (stk := []) F T.room [.ref (E.2.2.2.1 24)] (k_X6_isWord hP (by decide) h) mv_X6_isWord w_1098 cf6 (lo_s rfl) (hP _ rfl) rfl (by decide) rfl rfl (Nat.le_of_ble_eq_true rfl) ⟨(Nat.le_of_ble_eq_true rfl), (Nat.le_of_ble_eq_true rfl)⟩ ⟨(Nat.le_of_ble_eq_true rfl), (Nat.le_of_ble_eq_true rfl)⟩ dX2_valueOfWord_65 (fun b_14 G_13 h => ?_)
          refine aw_if_eq (tgt := 74) F dX2_valueOfWord_68 (by decide) (fun c_15 => ?_) (fun c_15 => ?_)
          · replace h := h.1 (bI_2 c_15)
            refine aw_al_n F 0 dX2_valueOfWord_74 rfl rfl ?_
            refine gr2_0 F (lo_s rfl) (hP _ rfl) rfl w_270 (hP 1 rfl) dX2_valueOfWord_75 ?_
            refine aw_ldcS F 25 (by decide) rfl dX2_valueOfWord_78 ?_
            refine aw_cVb (stk := []) F T.room [.ref (E.2.2.2.1 25)] (k_X6_isWord hP (by decide) h) mv_X6_isWord w_1098 cf6 (lo_s rfl) (hP _ rfl) rfl (by decide) rfl rfl (Nat.le_of_ble_eq_true rfl) ⟨(Nat.le_of_ble_eq_true rfl), (Nat.le_of_ble_eq_true rfl)⟩ ⟨(Nat.le_of_ble_eq_true rfl), (Nat.le_of_ble_eq_true rfl)⟩ dX2_valueOfWord_80 (fun b_17 G_16 h => ?_)
            refine aw_if_eq (tgt := 89) F dX2_valueOfWord_83 (by decide) (fun c_18 => ?_) (fun c_18 => ?_)
            · replace h := h.1 (bI_2 c_18)
              refine aw_al_n F 0 dX2_valueOfWord_89 rfl rfl ?_
              refine gr2_0 F (lo_s rfl) (hP _ rfl) rfl w_270 (hP 1 rfl) dX2_valueOfWord_90 ?_
              refine aw_ldcS F 26 (by decide) rfl dX2_valueOfWord_93 ?_
              refine aw_cVb (stk := []) F T.room [.ref (E.2.2.2.1 26)] (k_X6_isWord hP (by decide) h) mv_X6_isWord w_1098 cf6 (lo_s rfl) (hP _ rfl) rfl (by decide) rfl rfl (Nat.le_of_ble_eq_true rfl) ⟨(Nat.le_of_ble_eq_true rfl), (Nat.le_of_ble_eq_true rfl)⟩ ⟨(Nat.le_of_ble_eq_true rfl), (Nat.le_of_ble_eq_true rfl)⟩ dX2_valueOfWord_95 (fun b_20 G_19 h => ?_)
              refine aw_if_eq (tgt := 104) F dX2_valueOfWord_98 (by decide) (fun c_21 => ?_) (fun c_21 => ?_)
              · replace h := h.1 (bI_2 c_21)
                refine aw_al_n F 0 dX2_valueOfWord_104 rfl rfl ?_
                refine gr2_0 F (lo_s rfl) (hP _ rfl) rfl w_270 (hP 1 rfl) dX2_valueOfWord_105 ?_
                refine aw_ldcS F 27 (by decide) rfl dX2_valueOfWord_108 ?_
                refine aw_cVb (stk := []) F T.room [.ref (E.2.2.2.1 27)] (k_X6_isWord hP (by decide) h) mv_X6_isWord w_1098 cf6 (lo_s rfl) (hP _ rfl) rfl (by decide) rfl rfl (Nat.le_of_ble_eq_true rfl) ⟨(Nat.le_of_ble_eq_true rfl), (Nat.le_of_ble_eq_true rfl)⟩ ⟨(Nat.le_of_ble_eq_true rfl), (Nat.le_of_ble_eq_true rfl)⟩ dX2_valueOfWord_110 (fun b_23 G_22 h => ?_)
                refine aw_if_eq (tgt := 119) F dX2_valueOfWord_113 (by decide) (fun c_24 => ?_) (fun c_24 => ?_)
                · replace h := h.1 (bI_2 c_24)
                  refine aw_al_n F 0 dX2_valueOfWord_119 rfl rfl ?_
                  refine gr2_0 F (lo_s rfl) (hP _ rfl) rfl w_270 (hP 1 rfl) dX2_valueOfWord_120 ?_
                  refine aw_ldcS F 28 (by decide) rfl dX2_valueOfWord_123 ?_
                  refine aw_cVb (stk := []) F T.room [.ref (E.2.2.2.1 28)] (k_X6_isWord hP (by decide) h) mv_X6_isWord w_1098 cf6 (lo_s rfl) (hP _ rfl) rfl (by decide) rfl rfl (Nat.le_of_ble_eq_true rfl) ⟨(Nat.le_of_ble_eq_true rfl), (Nat.le_of_ble_eq_true rfl)⟩ ⟨(Nat.le_of_ble_eq_true rfl), (Nat.le_of_ble_eq_true rfl)⟩ dX2_valueOfWord_125 (fun b_26 G_25 h => ?_)
                  refine aw_if_eq (tgt := 136) F dX2_valueOfWord_128 (by decide) (fun c_27 => ?_) (fun c_27 => ?_)
                  · replace h := h.1 (bI_2 c_27)
                    refine aw_ic F dX2_valueOfWord_136 ic_0 ?_
                    exact aw_iret F T (Nat.le_of_ble_eq_true rfl) (Nat.le_of_ble_eq_true rfl) ⟨_, rfl, h⟩ dX2_valueOfWord_137
                  · replace h := h.2 (bI_1 c_27)
                    refine aw_bi F dX2_valueOfWord_131 bi_m9 ?_
                    refine aw_go (tgt := 137) F dX2_valueOfWord_133 (by decide) ?_
                    exact aw_iret F T (Nat.le_of_ble_eq_true rfl) (Nat.le_of_ble_eq_true rfl) ⟨_, rfl, h⟩ dX2_valueOfWord_137
                · replace h := h.2 (bI_1 c_24)
                  refine aw_bi F dX2_valueOfWord_116 bi_m8 ?_
                  exact aw_iret F T (Nat.le_of_ble_eq_true rfl) (Nat.le_of_ble_eq_true rfl) ⟨_, rfl, h⟩ dX2_valueOfWord_118
              · replace h := h.2 (bI_1 c_21)
                refine aw_bi F dX2_valueOfWord_101 bi_m7 ?_
                exact aw_iret F T (Nat.le_of_ble_eq_true rfl) (Nat.le_of_ble_eq_true rfl) ⟨_, rfl, h⟩ dX2_valueOfWord_103
            · replace h := h.2 (bI_1 c_18)
              refine aw_bi F dX2_valueOfWord_86 bi_m6 ?_
              exact aw_iret F T (Nat.le_of_ble_eq_true rfl) (Nat.le_of_ble_eq_true rfl) ⟨_, rfl, h⟩ dX2_valueOfWord_88
          · replace h := h.2 (bI_1 c_15)
            refine aw_bi F dX2_valueOfWord_71 bi_m5 ?_
            exact aw_iret F T (Nat.le_of_ble_eq_true rfl) (Nat.le_of_ble_eq_true rfl) ⟨_, rfl, h⟩ dX2_valueOfWord_73
        · replace h := h.2 (bI_1 c_12)
          refine aw_bi F dX2_valueOfWord_56 bi_m4 ?_
          exact aw_iret F T (Nat.le_of_ble_eq_true rfl) (Nat.le_of_ble_eq_true rfl) ⟨_, rfl, h⟩ dX2_valueOfWord_58
      · replace h := h.2 (bI_1 c_9)
        refine aw_bi F dX2_valueOfWord_41 bi_m3 ?_
        exact aw_iret F T (Nat.le_of_ble_eq_true rfl) (Nat.le_of_ble_eq_true rfl) ⟨_, rfl, h⟩ dX2_valueOfWord_43
    · replace h := h.2 (bI_1 c_6)
      refine aw_bi F dX2_valueOfWord_26 bi_m2 ?_
      exact aw_iret F T (Nat.le_of_ble_eq_true rfl) (Nat.le_of_ble_eq_true rfl) ⟨_, rfl, h⟩ dX2_valueOfWord_28
  · replace h := h.2 (bI_1 c_3)
    refine aw_ic F dX2_valueOfWord_12 ic_m1 ?_
    exact aw_iret F T (Nat.le_of_ble_eq_true rfl) (Nat.le_of_ble_eq_true rfl) ⟨_, rfl, h⟩ dX2_valueOfWord_13
-- X2_readValue (height 9)
def j_X2_readValue_47 (post : Int32 → GH → Prop) (v1 : Int32) (G : GH) : Prop :=
  ((v1 ≤ (9999 : Int32) → (((G 3 0 4) = 0 → wp_X6_advance (fun (G_7 : GH) => post v1 G_7) G) ∧ (¬ (G 3 0 4) = 0 → post v1 G))) ∧ (¬ v1 ≤ (9999 : Int32) → wp_X2_fail (fun (r_10 : Int32) (G_9 : GH) => post r_10 G_9) (2 : Int32) G))
def j_X2_readValue_25 (post : Int32 → GH → Prop) (s0 : Int32) (G : GH) : Prop :=
  ((s0 = 0 → (((G 1 0 2) = (2 : Int32) → j_X2_readValue_47 post s0 G) ∧ (¬ (G 1 0 2) = (2 : Int32) → wp_X2_fail (fun (r_13 : Int32) (G_12 : GH) => post r_13 G_12) (1 : Int32) G))) ∧ (¬ s0 = 0 → j_X2_readValue_47 post s0 G))
def wp_X2_readValue (post : Int32 → GH → Prop) (G : GH) : Prop :=
  (((G 1 0 2) = (2 : Int32) → j_X2_readValue_25 post (G 1 0 4) G) ∧ (¬ (G 1 0 2) = (2 : Int32) → wp_X2_valueOfWord (fun (r_3 : Int32) (G_2 : GH) => j_X2_readValue_25 post r_3 G_2) G))
set_option maxRecDepth 100000 in
set_option maxHeartbeats 4000000 in
theorem kj_X2_readValue_47 {E : Ev} {X : Cx} {post : Int32 → GH → Prop} {v1 : Int32} {G : GH} (F : Fx E X "MarkField$Question" cX2_readValue 2) (T : RT E X 9 0 0 (some .int) (pI post)) (h : j_X2_readValue_47 post v1 G) : AW E X 2 47 [(0, .ref (sdX X 3 0)), (1, .int v1)] [] G 0 0 := by
  have hP := F.P
  refine aw_il_n F 1 dX2_readValue_47 rfl rfl ?_
  refine aw_si F dX2_readValue_48 si_9999 ?_
  refine aw_icmp_le (tgt := 60) F dX2_readValue_51 (by decide) (fun c_5 => ?_) (fun c_5 => ?_)
  · replace h := h.1 c_5
    refine aw_al_n F 0 dX2_readValue_60 rfl rfl ?_
    refine gf2_4 F (lo_s rfl) (hP _ rfl) rfl w_274 dX2_readValue_61 ?_
    refine aw_if_ne (tgt := 74) F dX2_readValue_64 (by decide) (fun c_6 => ?_) (fun c_6 => ?_)
    · replace h := h.2 c_6
      refine aw_il_n F 1 dX2_readValue_74 rfl rfl ?_
      exact aw_iret F T (Nat.le_of_ble_eq_true rfl) (Nat.le_of_ble_eq_true rfl) ⟨_, rfl, h⟩ dX2_readValue_75
    · replace h := h.1 c_6
      refine aw_al_n F 0 dX2_readValue_67 rfl rfl ?_
      refine gr2_0 F (lo_s rfl) (hP _ rfl) rfl w_270 (hP 1 rfl) dX2_readValue_68 ?_
      refine aw_cVv (stk := []) F T.room [] (k_X6_advance hP h) mv_X6_advance w_1104 cf6 (lo_s rfl) (hP _ rfl) rfl (by decide) rfl rfl (Nat.le_of_ble_eq_true rfl) ⟨(Nat.le_of_ble_eq_true rfl), (Nat.le_of_ble_eq_true rfl)⟩ ⟨(Nat.le_of_ble_eq_true rfl), (Nat.le_of_ble_eq_true rfl)⟩ dX2_readValue_71 (fun G_7 h => ?_)
      refine aw_il_n F 1 dX2_readValue_74 rfl rfl ?_
      exact aw_iret F T (Nat.le_of_ble_eq_true rfl) (Nat.le_of_ble_eq_true rfl) ⟨_, rfl, h⟩ dX2_readValue_75
  · replace h := h.2 c_5
    refine aw_al_n F 0 dX2_readValue_54 rfl rfl ?_
    refine aw_ic F dX2_readValue_55 ic_2 ?_
    refine aw_cVi (stk := []) F T.room [.int (2 : Int32)] (k_X2_fail hP h) mv_X2_fail w_1100 cf2 (lo_s rfl) (hP _ rfl) rfl (by decide) rfl rfl (Nat.le_of_ble_eq_true rfl) ⟨(Nat.le_of_ble_eq_true rfl), (Nat.le_of_ble_eq_true rfl)⟩ ⟨(Nat.le_of_ble_eq_true rfl), (Nat.le_of_ble_eq_true rfl)⟩ dX2_readValue_56 (fun r_10 G_9 h => ?_)
    exact aw_iret F T (Nat.le_of_ble_eq_true rfl) (Nat.le_of_ble_eq_true rfl) ⟨_, rfl, h⟩ dX2_readValue_59
set_option maxRecDepth 100000 in
set_option maxHeartbeats 4000000 in
theorem kj_X2_readValue_25 {E : Ev} {X : Cx} {post : Int32 → GH → Prop} {s0 : Int32} {G : GH} (F : Fx E X "MarkField$Question" cX2_readValue 2) (T : RT E X 9 0 0 (some .int) (pI post)) (h : j_X2_readValue_25 post s0 G) : AW E X 2 25 [(0, .ref (sdX X 3 0))] [.int s0] G 0 0 := by
  have hP := F.P
  refine aw_is_n (lv1 := [(1, .int s0), (0, .ref (sdX X 3 0))]) F dX2_readValue_25 rfl (by decide) rfl ?_
  refine aw_il_n F 0 dX2_readValue_26 rfl rfl ?_
  refine aw_if_ne (tgt := 47) F dX2_readValue_27 (by decide) (fun c_4 => ?_) (fun c_4 => ?_)
  · replace h := h.2 c_4
    refine aw_sub [1, 0] rfl ?_
    exact kj_X2_readValue_47 F T h
  · replace h := h.1 c_4
    refine aw_al_n F 1 dX2_readValue_30 rfl rfl ?_
    refine gr2_0 F (lo_s rfl) (hP _ rfl) rfl w_270 (hP 1 rfl) dX2_readValue_31 ?_
    refine gf6_2 F (lo_s rfl) (hP _ rfl) rfl w_44 dX2_readValue_34 ?_
    refine aw_ic F dX2_readValue_37 ic_2 ?_
    refine aw_icmp_eq (tgt := 47) F dX2_readValue_38 (by decide) (fun c_11 => ?_) (fun c_11 => ?_)
    · replace h := h.1 c_11
      refine aw_sub [1, 0] rfl ?_
      exact kj_X2_readValue_47 F T h
    · replace h := h.2 c_11
      refine aw_al_n F 1 dX2_readValue_41 rfl rfl ?_
      refine aw_ic F dX2_readValue_42 ic_1 ?_
      refine aw_cVi (stk := []) F T.room [.int (1 : Int32)] (k_X2_fail hP h) mv_X2_fail w_1100 cf2 (lo_s rfl) (hP _ rfl) rfl (by decide) rfl rfl (Nat.le_of_ble_eq_true rfl) ⟨(Nat.le_of_ble_eq_true rfl), (Nat.le_of_ble_eq_true rfl)⟩ ⟨(Nat.le_of_ble_eq_true rfl), (Nat.le_of_ble_eq_true rfl)⟩ dX2_readValue_43 (fun r_13 G_12 h => ?_)
      exact aw_iret F T (Nat.le_of_ble_eq_true rfl) (Nat.le_of_ble_eq_true rfl) ⟨_, rfl, h⟩ dX2_readValue_46
set_option maxRecDepth 100000 in
set_option maxHeartbeats 4000000 in
theorem k_X2_readValue {l : Launch} {E : Ev} {P : Nat → Prop} {sd : Nat → Nat → Nat} {G : GH} {post : Int32 → GH → Prop} (hPP : ∀ o, stt o = true → P o) (h : wp_X2_readValue post G) : Ct l yX2_readValue cX2_readValue 2 (some .int) 9 0 0 E P sd G [.ref (sd 3 0)] (pI post) := by
  refine ct_of (own := "MarkField$Question") (by decide) rfl (Nat.le_of_ble_eq_true rfl) hPP (fun X F T el eP es => ?_)
  subst el; subst eP; subst es
  have hP := F.P
  change AW E X 2 0 [(0, .ref (sdX X 3 0))] [] G 0 0
  refine aw_al_n F 0 dX2_readValue_0 rfl rfl ?_
  refine gr2_0 F (lo_s rfl) (hP _ rfl) rfl w_270 (hP 1 rfl) dX2_readValue_1 ?_
  refine gf6_2 F (lo_s rfl) (hP _ rfl) rfl w_44 dX2_readValue_4 ?_
  refine aw_ic F dX2_readValue_7 ic_2 ?_
  refine aw_icmp_ne (tgt := 21) F dX2_readValue_8 (by decide) (fun c_1 => ?_) (fun c_1 => ?_)
  · replace h := h.2 c_1
    refine aw_al_n F 0 dX2_readValue_21 rfl rfl ?_
    refine aw_cVi (stk := []) F T.room [] (k_X2_valueOfWord hP h) mv_X2_valueOfWord w_1123 cf2 (lo_s rfl) (hP _ rfl) rfl (by decide) rfl rfl (Nat.le_of_ble_eq_true rfl) ⟨(Nat.le_of_ble_eq_true rfl), (Nat.le_of_ble_eq_true rfl)⟩ ⟨(Nat.le_of_ble_eq_true rfl), (Nat.le_of_ble_eq_true rfl)⟩ dX2_readValue_22 (fun r_3 G_2 h => ?_)
    exact kj_X2_readValue_25 F T h
  · replace h := h.1 c_1
    refine aw_al_n F 0 dX2_readValue_11 rfl rfl ?_
    refine gr2_0 F (lo_s rfl) (hP _ rfl) rfl w_270 (hP 1 rfl) dX2_readValue_12 ?_
    refine gf6_4 F (lo_s rfl) (hP _ rfl) rfl w_50 dX2_readValue_15 ?_
    refine aw_go (tgt := 25) F dX2_readValue_18 (by decide) ?_
    exact kj_X2_readValue_25 F T h
-- X2_valueOf (height 2)
def wp_X2_valueOf (post : Int32 → GH → Prop) (x1 x2 : Int32) (G : GH) : Prop :=
  (((x1.toInt < -9 ∨ -1 < x1.toInt) → post x1 G) ∧ (x1 = (-9 : Int32) → wp_X5_refusedHalves (fun (r_4 : Int32) (G_3 : GH) => wp_J6_bitCount_0f7a4 (fun (r_6 : Int32) (G_5 : GH) => post r_6 G_5) r_4 G_3) x2 G) ∧ (x1 = (-8 : Int32) → (vp_in x2 13 ∧ wp_J6_bitCount_0f7a4 (fun (r_9 : Int32) (G_8 : GH) => post r_9 G_8) (G 5 5 x2.toNatClampNeg) G)) ∧ (x1 = (-7 : Int32) → wp_X1_fieldOf (fun (r_12 : Int32) (G_11 : GH) => post r_12 G_11) 6 x2 G) ∧ (x1 = (-6 : Int32) → (vp_in x2 13 ∧ post (G 6 2 x2.toNatClampNeg) G)) ∧ (x1 = (-5 : Int32) → (vp_in x2 13 ∧ post (G 8 5 x2.toNatClampNeg) G)) ∧ (x1 = (-4 : Int32) → (vp_in x2 13 ∧ post (G 8 7 x2.toNatClampNeg) G)) ∧ (x1 = (-3 : Int32) → (vp_in x2 13 ∧ wp_J6_bitCount_0f7a4 (fun (r_18 : Int32) (G_17 : GH) => post r_18 G_17) (G 8 4 x2.toNatClampNeg) G)) ∧ (x1 = (-2 : Int32) → (vp_in x2 13 ∧ post (G 8 3 x2.toNatClampNeg) G)) ∧ (x1 = (-1 : Int32) → post x2 G))
set_option maxRecDepth 100000 in
set_option maxHeartbeats 4000000 in
theorem k_X2_valueOf {l : Launch} {E : Ev} {P : Nat → Prop} {sd : Nat → Nat → Nat} {G : GH} {post : Int32 → GH → Prop} {x1 x2 : Int32} (hPP : ∀ o, stt o = true → P o) (h : wp_X2_valueOf post x1 x2 G) : Ct l yX2_valueOf cX2_valueOf 3 (some .int) 2 0 0 E P sd G [.ref (sd 3 0), .int x1, .int x2] (pI post) := by
  refine ct_of (own := "MarkField$Question") (by decide) rfl (Nat.le_of_ble_eq_true rfl) hPP (fun X F T el eP es => ?_)
  subst el; subst eP; subst es
  have hP := F.P
  change AW E X 3 0 [(0, .ref (sdX X 3 0)), (1, .int x1), (2, .int x2)] [] G 0 0
  refine aw_il_n F 1 dX2_valueOf_0 rfl rfl ?_
  by_cases c_1 : x1.toInt < -9 ∨ -1 < x1.toInt
  · replace h := h.1 c_1
    refine aw_tabO (tgt := 141) F dX2_valueOf_1 c_1 (by decide) ?_
    refine aw_il_n F 1 dX2_valueOf_141 rfl rfl ?_
    exact aw_iret F T (Nat.le_of_ble_eq_true rfl) (Nat.le_of_ble_eq_true rfl) ⟨_, rfl, h⟩ dX2_valueOf_142
  · replace h := h.2
    by_cases c_2 : x1 = (-9 : Int32)
    · replace h := h.1 c_2
      refine aw_tabI (tgt := 129) F dX2_valueOf_1 (by rw [c_2]; decide) (by rw [c_2]; decide) (by rw [c_2]; rfl) (by decide) ?_
      refine aw_al_n F 0 dX2_valueOf_129 rfl rfl ?_
      refine gr2_3 F (lo_s rfl) (hP _ rfl) rfl w_273 (hP 5 rfl) dX2_valueOf_130 ?_
      refine aw_il_n F 2 dX2_valueOf_133 rfl rfl ?_
      refine aw_cVi (stk := []) F T.room [.int x2] (k_X5_refusedHalves hP h) mv_X5_refusedHalves w_1142 cf5 (lo_s rfl) (hP _ rfl) rfl (by decide) rfl rfl (Nat.le_of_ble_eq_true rfl) ⟨(Nat.le_of_ble_eq_true rfl), (Nat.le_of_ble_eq_true rfl)⟩ ⟨(Nat.le_of_ble_eq_true rfl), (Nat.le_of_ble_eq_true rfl)⟩ dX2_valueOf_134 (fun r_4 G_3 h => ?_)
      refine aw_cSi (stk := []) F T.room [.int r_4] (k_J6_bitCount_0f7a4 hP h) ms_J6_bitCount_0f7a4 w_1140 rfl rfl (Nat.le_of_ble_eq_true rfl) ⟨(Nat.le_of_ble_eq_true rfl), (Nat.le_of_ble_eq_true rfl)⟩ ⟨(Nat.le_of_ble_eq_true rfl), (Nat.le_of_ble_eq_true rfl)⟩ dX2_valueOf_137 (fun r_6 G_5 h => ?_)
      exact aw_iret F T (Nat.le_of_ble_eq_true rfl) (Nat.le_of_ble_eq_true rfl) ⟨_, rfl, h⟩ dX2_valueOf_140
    replace h := h.2
    by_cases c_7 : x1 = (-8 : Int32)
    · replace h := h.1 c_7
      refine aw_tabI (tgt := 116) F dX2_valueOf_1 (by rw [c_7]; decide) (by rw [c_7]; decide) (by rw [c_7]; rfl) (by decide) ?_
      refine aw_al_n F 0 dX2_valueOf_116 rfl rfl ?_
      refine gr2_3 F (lo_s rfl) (hP _ rfl) rfl w_273 (hP 5 rfl) dX2_valueOf_117 ?_
      refine gr5_4 F (lo_s rfl) (hP _ rfl) rfl w_217 (hP _ rfl) dX2_valueOf_120 ?_
      refine aw_il_n F 2 dX2_valueOf_123 rfl rfl ?_
      refine aw_iald F 5 5 (lo_s rfl) (hP _ rfl) rfl h.1 dX2_valueOf_124 ?_
      replace h := h.2
      refine aw_cSi (stk := []) F T.room [.int (G 5 5 x2.toNatClampNeg)] (k_J6_bitCount_0f7a4 hP h) ms_J6_bitCount_0f7a4 w_1140 rfl rfl (Nat.le_of_ble_eq_true rfl) ⟨(Nat.le_of_ble_eq_true rfl), (Nat.le_of_ble_eq_true rfl)⟩ ⟨(Nat.le_of_ble_eq_true rfl), (Nat.le_of_ble_eq_true rfl)⟩ dX2_valueOf_125 (fun r_9 G_8 h => ?_)
      exact aw_iret F T (Nat.le_of_ble_eq_true rfl) (Nat.le_of_ble_eq_true rfl) ⟨_, rfl, h⟩ dX2_valueOf_128
    replace h := h.2
    by_cases c_10 : x1 = (-7 : Int32)
    · replace h := h.1 c_10
      refine aw_tabI (tgt := 107) F dX2_valueOf_1 (by rw [c_10]; decide) (by rw [c_10]; decide) (by rw [c_10]; rfl) (by decide) ?_
      refine aw_al_n F 0 dX2_valueOf_107 rfl rfl ?_
      refine gr2_2 F (lo_s rfl) (hP _ rfl) rfl w_272 (hP 6 rfl) dX2_valueOf_108 ?_
      refine aw_il_n F 2 dX2_valueOf_111 rfl rfl ?_
      refine aw_cVi (stk := []) F T.room [.int x2] (k_X1_fieldOf hP rfl rfl h) mv_X1_fieldOf w_1141 cf1 (lo_s rfl) (hP _ rfl) rfl (by decide) rfl rfl (Nat.le_of_ble_eq_true rfl) ⟨(Nat.le_of_ble_eq_true rfl), (Nat.le_of_ble_eq_true rfl)⟩ ⟨(Nat.le_of_ble_eq_true rfl), (Nat.le_of_ble_eq_true rfl)⟩ dX2_valueOf_112 (fun r_12 G_11 h => ?_)
      exact aw_iret F T (Nat.le_of_ble_eq_true rfl) (Nat.le_of_ble_eq_true rfl) ⟨_, rfl, h⟩ dX2_valueOf_115
    replace h := h.2
    by_cases c_13 : x1 = (-6 : Int32)
    · replace h := h.1 c_13
      refine aw_tabI (tgt := 97) F dX2_valueOf_1 (by rw [c_13]; decide) (by rw [c_13]; decide) (by rw [c_13]; rfl) (by decide) ?_
      refine aw_al_n F 0 dX2_valueOf_97 rfl rfl ?_
      refine gr2_2 F (lo_s rfl) (hP _ rfl) rfl w_272 (hP 6 rfl) dX2_valueOf_98 ?_
      refine gr1_1 F (lo_s rfl) (hP _ rfl) rfl w_174 (hP _ rfl) dX2_valueOf_101 ?_
      refine aw_il_n F 2 dX2_valueOf_104 rfl rfl ?_
      refine aw_iald F 6 2 (lo_s rfl) (hP _ rfl) rfl h.1 dX2_valueOf_105 ?_
      replace h := h.2
      exact aw_iret F T (Nat.le_of_ble_eq_true rfl) (Nat.le_of_ble_eq_true rfl) ⟨_, rfl, h⟩ dX2_valueOf_106
    replace h := h.2
    by_cases c_14 : x1 = (-5 : Int32)
    · replace h := h.1 c_14
      refine aw_tabI (tgt := 87) F dX2_valueOf_1 (by rw [c_14]; decide) (by rw [c_14]; decide) (by rw [c_14]; rfl) (by decide) ?_
      refine aw_al_n F 0 dX2_valueOf_87 rfl rfl ?_
      refine gr2_1 F (lo_s rfl) (hP _ rfl) rfl w_271 (hP 8 rfl) dX2_valueOf_88 ?_
      refine gr4_4 F (lo_s rfl) (hP _ rfl) rfl w_100 (hP _ rfl) dX2_valueOf_91 ?_
      refine aw_il_n F 2 dX2_valueOf_94 rfl rfl ?_
      refine aw_iald F 8 5 (lo_s rfl) (hP _ rfl) rfl h.1 dX2_valueOf_95 ?_
      replace h := h.2
      exact aw_iret F T (Nat.le_of_ble_eq_true rfl) (Nat.le_of_ble_eq_true rfl) ⟨_, rfl, h⟩ dX2_valueOf_96
    replace h := h.2
    by_cases c_15 : x1 = (-4 : Int32)
    · replace h := h.1 c_15
      refine aw_tabI (tgt := 77) F dX2_valueOf_1 (by rw [c_15]; decide) (by rw [c_15]; decide) (by rw [c_15]; rfl) (by decide) ?_
      refine aw_al_n F 0 dX2_valueOf_77 rfl rfl ?_
      refine gr2_1 F (lo_s rfl) (hP _ rfl) rfl w_271 (hP 8 rfl) dX2_valueOf_78 ?_
      refine gr4_6 F (lo_s rfl) (hP _ rfl) rfl w_107 (hP _ rfl) dX2_valueOf_81 ?_
      refine aw_il_n F 2 dX2_valueOf_84 rfl rfl ?_
      refine aw_iald F 8 7 (lo_s rfl) (hP _ rfl) rfl h.1 dX2_valueOf_85 ?_
      replace h := h.2
      exact aw_iret F T (Nat.le_of_ble_eq_true rfl) (Nat.le_of_ble_eq_true rfl) ⟨_, rfl, h⟩ dX2_valueOf_86
    replace h := h.2
    by_cases c_16 : x1 = (-3 : Int32)
    · replace h := h.1 c_16
      refine aw_tabI (tgt := 64) F dX2_valueOf_1 (by rw [c_16]; decide) (by rw [c_16]; decide) (by rw [c_16]; rfl) (by decide) ?_
      refine aw_al_n F 0 dX2_valueOf_64 rfl rfl ?_
      refine gr2_1 F (lo_s rfl) (hP _ rfl) rfl w_271 (hP 8 rfl) dX2_valueOf_65 ?_
      refine gr4_3 F (lo_s rfl) (hP _ rfl) rfl w_95 (hP _ rfl) dX2_valueOf_68 ?_
      refine aw_il_n F 2 dX2_valueOf_71 rfl rfl ?_
      refine aw_iald F 8 4 (lo_s rfl) (hP _ rfl) rfl h.1 dX2_valueOf_72 ?_
      replace h := h.2
      refine aw_cSi (stk := []) F T.room [.int (G 8 4 x2.toNatClampNeg)] (k_J6_bitCount_0f7a4 hP h) ms_J6_bitCount_0f7a4 w_1140 rfl rfl (Nat.le_of_ble_eq_true rfl) ⟨(Nat.le_of_ble_eq_true rfl), (Nat.le_of_ble_eq_true rfl)⟩ ⟨(Nat.le_of_ble_eq_true rfl), (Nat.le_of_ble_eq_true rfl)⟩ dX2_valueOf_73 (fun r_18 G_17 h => ?_)
      exact aw_iret F T (Nat.le_of_ble_eq_true rfl) (Nat.le_of_ble_eq_true rfl) ⟨_, rfl, h⟩ dX2_valueOf_76
    replace h := h.2
    by_cases c_19 : x1 = (-2 : Int32)
    · replace h := h.1 c_19
      refine aw_tabI (tgt := 54) F dX2_valueOf_1 (by rw [c_19]; decide) (by rw [c_19]; decide) (by rw [c_19]; rfl) (by decide) ?_
      refine aw_al_n F 0 dX2_valueOf_54 rfl rfl ?_
      refine gr2_1 F (lo_s rfl) (hP _ rfl) rfl w_271 (hP 8 rfl) dX2_valueOf_55 ?_
      refine gr4_2 F (lo_s rfl) (hP _ rfl) rfl w_91 (hP _ rfl) dX2_valueOf_58 ?_
      refine aw_il_n F 2 dX2_valueOf_61 rfl rfl ?_
      refine aw_iald F 8 3 (lo_s rfl) (hP _ rfl) rfl h.1 dX2_valueOf_62 ?_
      replace h := h.2
      exact aw_iret F T (Nat.le_of_ble_eq_true rfl) (Nat.le_of_ble_eq_true rfl) ⟨_, rfl, h⟩ dX2_valueOf_63
    replace h := h.2
    by_cases c_20 : x1 = (-1 : Int32)
    · replace h := h c_20
      refine aw_tabI (tgt := 52) F dX2_valueOf_1 (by rw [c_20]; decide) (by rw [c_20]; decide) (by rw [c_20]; rfl) (by decide) ?_
      refine aw_il_n F 2 dX2_valueOf_52 rfl rfl ?_
      exact aw_iret F T (Nat.le_of_ble_eq_true rfl) (Nat.le_of_ble_eq_true rfl) ⟨_, rfl, h⟩ dX2_valueOf_53
    exfalso
    have qc_2 := ne_ti c_2 (show (-9 : Int32).toInt = -9 by decide)
    have qc_7 := ne_ti c_7 (show (-8 : Int32).toInt = -8 by decide)
    have qc_10 := ne_ti c_10 (show (-7 : Int32).toInt = -7 by decide)
    have qc_13 := ne_ti c_13 (show (-6 : Int32).toInt = -6 by decide)
    have qc_14 := ne_ti c_14 (show (-5 : Int32).toInt = -5 by decide)
    have qc_15 := ne_ti c_15 (show (-4 : Int32).toInt = -4 by decide)
    have qc_16 := ne_ti c_16 (show (-3 : Int32).toInt = -3 by decide)
    have qc_19 := ne_ti c_19 (show (-2 : Int32).toInt = -2 by decide)
    have qc_20 := ne_ti c_20 (show (-1 : Int32).toInt = -1 by decide)
    omega
-- X2_readComparison (height 10)
def j_X2_readComparison_52 (post : Int32 → GH → Prop) (G : GH) : Prop :=
  wp_X2_fail (fun (r_9 : Int32) (G_8 : GH) => post r_9 G_8) (1 : Int32) G
def j_X2_readComparison_150 (post : Int32 → GH → Prop) (P77 : Int32 → Int32 → Int32 → Int32 → Int32 → Int32 → GH → Prop) (v1 v2 v3 v4 v5 v6 : Int32) (G : GH) : Prop :=
  (∀ y_24 : Int32, y_24 = (v5 ||| ((1 : Int32) <<< (v6 &&& 31))) → P77 v1 v2 v3 v4 y_24 (v6 + (1 : Int32)) G)
def lb_X2_readComparison_77 (post : Int32 → GH → Prop) (P77 : Int32 → Int32 → Int32 → Int32 → Int32 → Int32 → GH → Prop) (v1 v2 v3 v4 v5 v6 : Int32) (G : GH) : Prop :=
  (((G 8 0 1) ≤ v6 → post v5 G) ∧ (¬ (G 8 0 1) ≤ v6 → (((G 3 0 4) = 0 → wp_X2_valueOf (fun (r_18 : Int32) (G_17 : GH) => wp_X2_valueOf (fun (r_20 : Int32) (G_19 : GH) => ((v2 = 0 → ((v3 = 0 → ((r_18 = r_20 → j_X2_readComparison_150 post P77 v1 v2 v3 v4 v5 v6 G_19) ∧ (¬ r_18 = r_20 → P77 v1 v2 v3 v4 v5 (v6 + (1 : Int32)) G_19))) ∧ (¬ v3 = 0 → ((r_18 ≤ r_20 → P77 v1 v2 v3 v4 v5 (v6 + (1 : Int32)) G_19) ∧ (¬ r_18 ≤ r_20 → j_X2_readComparison_150 post P77 v1 v2 v3 v4 v5 v6 G_19))))) ∧ (¬ v2 = 0 → ((r_20 ≤ r_18 → P77 v1 v2 v3 v4 v5 (v6 + (1 : Int32)) G_19) ∧ (¬ r_20 ≤ r_18 → j_X2_readComparison_150 post P77 v1 v2 v3 v4 v5 v6 G_19))))) v4 v6 G_17) v1 v6 G) ∧ (¬ (G 3 0 4) = 0 → post v5 G))))
def lp_X2_readComparison_77 (post : Int32 → GH → Prop) (v1 v2 v3 v4 v5 v6 : Int32) (G : GH) : Prop := ∀ P77 : Int32 → Int32 → Int32 → Int32 → Int32 → Int32 → GH → Prop, (∀ (v1 v2 v3 v4 v5 v6 : Int32) (G : GH), lb_X2_readComparison_77 post P77 v1 v2 v3 v4 v5 v6 G → P77 v1 v2 v3 v4 v5 v6 G) → P77 v1 v2 v3 v4 v5 v6 G
def j_X2_readComparison_58 (post : Int32 → GH → Prop) (v1 v2 v3 : Int32) (G : GH) : Prop :=
  wp_X6_advance (fun (G_11 : GH) => wp_X2_readValue (fun (r_14 : Int32) (G_13 : GH) => lp_X2_readComparison_77 post v1 v2 v3 r_14 (0 : Int32) (0 : Int32) G_13) G_11) G
def wp_X2_readComparison (post : Int32 → GH → Prop) (G : GH) : Prop :=
  wp_X2_readValue (fun (r_2 : Int32) (G_1 : GH) => wp_X6_isSign (fun (b_4 : Bool) (G_3 : GH) => wp_X6_isSign (fun (b_6 : Bool) (G_5 : GH) => (((G_5 3 0 4) = 0 → ((b_4 = false → ((b_6 = false → wp_X6_isSign (fun (b_29 : Bool) (G_28 : GH) => ((b_29 = false → j_X2_readComparison_52 post G_28) ∧ (b_29 = true → j_X2_readComparison_58 post r_2 (bI b_4) (bI b_6) G_28))) (61 : Int32) G_5) ∧ (b_6 = true → j_X2_readComparison_58 post r_2 (bI b_4) (bI b_6) G_5))) ∧ (b_4 = true → j_X2_readComparison_58 post r_2 (bI b_4) (bI b_6) G_5))) ∧ (¬ (G_5 3 0 4) = 0 → j_X2_readComparison_52 post G_5))) (62 : Int32) G_3) (60 : Int32) G_1) G
set_option maxRecDepth 100000 in
set_option maxHeartbeats 4000000 in
theorem kj_X2_readComparison_52 {E : Ev} {X : Cx} {post : Int32 → GH → Prop} {G : GH} (F : Fx E X "MarkField$Question" cX2_readComparison 9) (T : RT E X 10 0 0 (some .int) (pI post)) (h : j_X2_readComparison_52 post G) : AW E X 9 52 [(0, .ref (sdX X 3 0))] [] G 0 0 := by
  have hP := F.P
  refine aw_al_n F 0 dX2_readComparison_52 rfl rfl ?_
  refine aw_ic F dX2_readComparison_53 ic_1 ?_
  refine aw_cVi (stk := []) F T.room [.int (1 : Int32)] (k_X2_fail hP h) mv_X2_fail w_1100 cf2 (lo_s rfl) (hP _ rfl) rfl (by decide) rfl rfl (Nat.le_of_ble_eq_true rfl) ⟨(Nat.le_of_ble_eq_true rfl), (Nat.le_of_ble_eq_true rfl)⟩ ⟨(Nat.le_of_ble_eq_true rfl), (Nat.le_of_ble_eq_true rfl)⟩ dX2_readComparison_54 (fun r_9 G_8 h => ?_)
  exact aw_iret F T (Nat.le_of_ble_eq_true rfl) (Nat.le_of_ble_eq_true rfl) ⟨_, rfl, h⟩ dX2_readComparison_57
set_option maxRecDepth 100000 in
set_option maxHeartbeats 4000000 in
theorem kj_X2_readComparison_150 {E : Ev} {X : Cx} {post : Int32 → GH → Prop} {P77 : Int32 → Int32 → Int32 → Int32 → Int32 → Int32 → GH → Prop} {v1 v2 v3 v4 v5 v6 : Int32} {G : GH} (F : Fx E X "MarkField$Question" cX2_readComparison 9) (T : RT E X 10 0 0 (some .int) (pI post)) (K77 : ∀ (v1 v2 v3 v4 v5 v6 : Int32) (G : GH), P77 v1 v2 v3 v4 v5 v6 G → AW E X 9 77 [(0, .ref (sdX X 3 0)), (1, .int v1), (2, .int v2), (3, .int v3), (4, .int v4), (5, .int v5), (6, .int v6)] [] G 0 0) (h : j_X2_readComparison_150 post P77 v1 v2 v3 v4 v5 v6 G) : AW E X 9 150 [(0, .ref (sdX X 3 0)), (1, .int v1), (2, .int v2), (3, .int v3), (4, .int v4), (5, .int v5), (6, .int v6)] [] G 0 0 := by
  have hP := F.P
  refine aw_il F 5 dX2_readComparison_150 rfl ?_
  refine aw_ic F dX2_readComparison_152 ic_1 ?_
  refine aw_il F 6 dX2_readComparison_153 rfl ?_
  refine aw_ishl F dX2_readComparison_155 ?_
  refine aw_ior F dX2_readComparison_156 ?_
  refine aw_top (fun y_24 ey_24 => ?_)
  replace h := h y_24 ey_24
  refine aw_is (lv1 := [(5, .int y_24), (0, .ref (sdX X 3 0)), (1, .int v1), (2, .int v2), (3, .int v3), (4, .int v4), (6, .int v6)]) F dX2_readComparison_157 (by decide) rfl ?_
  refine aw_inc (lv1 := [(6, .int (v6 + (1 : Int32))), (5, .int y_24), (0, .ref (sdX X 3 0)), (1, .int v1), (2, .int v2), (3, .int v3), (4, .int v4)]) F 6 dX2_readComparison_159 rfl (in_1 _) (by decide) rfl ?_
  refine aw_go (tgt := 77) F dX2_readComparison_162 (by decide) ?_
  refine aw_sub [2, 3, 4, 5, 6, 1, 0] rfl ?_
  exact K77 _ _ _ _ _ _ _ h
set_option maxRecDepth 100000 in
set_option maxHeartbeats 4000000 in
theorem kl_X2_readComparison_77 {E : Ev} {X : Cx} {post : Int32 → GH → Prop} {v1 v2 v3 v4 v5 v6 : Int32} {G : GH} (F : Fx E X "MarkField$Question" cX2_readComparison 9) (T : RT E X 10 0 0 (some .int) (pI post)) (h : lp_X2_readComparison_77 post v1 v2 v3 v4 v5 v6 G) : AW E X 9 77 [(0, .ref (sdX X 3 0)), (1, .int v1), (2, .int v2), (3, .int v3), (4, .int v4), (5, .int v5), (6, .int v6)] [] G 0 0 := by
  have hP := F.P
  have K77 : ∀ (v1 v2 v3 v4 v5 v6 : Int32) (G : GH), AW E X 9 77 [(0, .ref (sdX X 3 0)), (1, .int v1), (2, .int v2), (3, .int v3), (4, .int v4), (5, .int v5), (6, .int v6)] [] G 0 0 → AW E X 9 77 [(0, .ref (sdX X 3 0)), (1, .int v1), (2, .int v2), (3, .int v3), (4, .int v4), (5, .int v5), (6, .int v6)] [] G 0 0 := fun _ _ _ _ _ _ _ q => q
  refine h (fun (v1 v2 v3 v4 v5 v6 : Int32) (G : GH) => AW E X 9 77 [(0, .ref (sdX X 3 0)), (1, .int v1), (2, .int v2), (3, .int v3), (4, .int v4), (5, .int v5), (6, .int v6)] [] G 0 0) (fun (v1 v2 v3 v4 v5 v6 : Int32) (G : GH) h => ?_)
  refine aw_il F 6 dX2_readComparison_77 rfl ?_
  refine aw_al_n F 0 dX2_readComparison_79 rfl rfl ?_
  refine gr2_1 F (lo_s rfl) (hP _ rfl) rfl w_271 (hP 8 rfl) dX2_readComparison_80 ?_
  refine gf4_1 F (lo_s rfl) (hP _ rfl) rfl w_84 dX2_readComparison_83 ?_
  refine aw_icmp_ge (tgt := 165) F dX2_readComparison_86 (by decide) (fun c_15 => ?_) (fun c_15 => ?_)
  · replace h := h.1 c_15
    refine aw_il F 5 dX2_readComparison_165 rfl ?_
    exact aw_iret F T (Nat.le_of_ble_eq_true rfl) (Nat.le_of_ble_eq_true rfl) ⟨_, rfl, h⟩ dX2_readComparison_167
  · replace h := h.2 c_15
    refine aw_al_n F 0 dX2_readComparison_89 rfl rfl ?_
    refine gf2_4 F (lo_s rfl) (hP _ rfl) rfl w_274 dX2_readComparison_90 ?_
    refine aw_if_ne (tgt := 165) F dX2_readComparison_93 (by decide) (fun c_16 => ?_) (fun c_16 => ?_)
    · replace h := h.2 c_16
      refine aw_il F 5 dX2_readComparison_165 rfl ?_
      exact aw_iret F T (Nat.le_of_ble_eq_true rfl) (Nat.le_of_ble_eq_true rfl) ⟨_, rfl, h⟩ dX2_readComparison_167
    · replace h := h.1 c_16
      refine aw_al_n F 0 dX2_readComparison_96 rfl rfl ?_
      refine aw_il_n F 1 dX2_readComparison_97 rfl rfl ?_
      refine aw_il F 6 dX2_readComparison_98 rfl ?_
      refine aw_cVi (stk := []) F T.room [.int v1, .int v6] (k_X2_valueOf hP h) mv_X2_valueOf w_1136 cf2 (lo_s rfl) (hP _ rfl) rfl (by decide) rfl rfl (Nat.le_of_ble_eq_true rfl) ⟨(Nat.le_of_ble_eq_true rfl), (Nat.le_of_ble_eq_true rfl)⟩ ⟨(Nat.le_of_ble_eq_true rfl), (Nat.le_of_ble_eq_true rfl)⟩ dX2_readComparison_100 (fun r_18 G_17 h => ?_)
      refine aw_is (lv1 := [(7, .int r_18), (0, .ref (sdX X 3 0)), (1, .int v1), (2, .int v2), (3, .int v3), (4, .int v4), (5, .int v5), (6, .int v6)]) F dX2_readComparison_103 (by decide) rfl ?_
      refine aw_al_n F 1 dX2_readComparison_105 rfl rfl ?_
      refine aw_il F 5 dX2_readComparison_106 rfl ?_
      refine aw_il F 7 dX2_readComparison_108 rfl ?_
      refine aw_cVi (stk := []) F T.room [.int v4, .int v6] (k_X2_valueOf hP h) mv_X2_valueOf w_1136 cf2 (lo_s rfl) (hP _ rfl) rfl (by decide) rfl rfl (Nat.le_of_ble_eq_true rfl) ⟨(Nat.le_of_ble_eq_true rfl), (Nat.le_of_ble_eq_true rfl)⟩ ⟨(Nat.le_of_ble_eq_true rfl), (Nat.le_of_ble_eq_true rfl)⟩ dX2_readComparison_110 (fun r_20 G_19 h => ?_)
      refine aw_is (lv1 := [(8, .int r_20), (7, .int r_18), (0, .ref (sdX X 3 0)), (1, .int v1), (2, .int v2), (3, .int v3), (4, .int v4), (5, .int v5), (6, .int v6)]) F dX2_readComparison_113 (by decide) rfl ?_
      refine aw_il_n F 4 dX2_readComparison_115 rfl rfl ?_
      refine aw_if_eq (tgt := 129) F dX2_readComparison_116 (by decide) (fun c_21 => ?_) (fun c_21 => ?_)
      · replace h := h.1 c_21
        refine aw_il_n F 5 dX2_readComparison_129 rfl rfl ?_
        refine aw_if_eq (tgt := 143) F dX2_readComparison_130 (by decide) (fun c_22 => ?_) (fun c_22 => ?_)
        · replace h := h.1 c_22
          refine aw_il F 1 dX2_readComparison_143 rfl ?_
          refine aw_il F 0 dX2_readComparison_145 rfl ?_
          refine aw_icmp_ne (tgt := 159) F dX2_readComparison_147 (by decide) (fun c_23 => ?_) (fun c_23 => ?_)
          · replace h := h.2 c_23
            refine aw_inc (lv1 := [(6, .int (v6 + (1 : Int32))), (8, .int r_20), (7, .int r_18), (0, .ref (sdX X 3 0)), (1, .int v1), (2, .int v2), (3, .int v3), (4, .int v4), (5, .int v5)]) F 8 dX2_readComparison_159 rfl (in_1 _) (by decide) rfl ?_
            refine aw_go (tgt := 77) F dX2_readComparison_162 (by decide) ?_
            refine aw_sub [3, 4, 5, 6, 7, 8, 0] rfl ?_
            exact K77 _ _ _ _ _ _ _ h
          · replace h := h.1 c_23
            refine aw_sub [2, 3, 4, 5, 6, 7, 8] rfl ?_
            exact kj_X2_readComparison_150 F T K77 h
        · replace h := h.2 c_22
          refine aw_il F 1 dX2_readComparison_133 rfl ?_
          refine aw_il F 0 dX2_readComparison_135 rfl ?_
          refine aw_icmp_le (tgt := 159) F dX2_readComparison_137 (by decide) (fun c_25 => ?_) (fun c_25 => ?_)
          · replace h := h.1 c_25
            refine aw_inc (lv1 := [(6, .int (v6 + (1 : Int32))), (8, .int r_20), (7, .int r_18), (0, .ref (sdX X 3 0)), (1, .int v1), (2, .int v2), (3, .int v3), (4, .int v4), (5, .int v5)]) F 8 dX2_readComparison_159 rfl (in_1 _) (by decide) rfl ?_
            refine aw_go (tgt := 77) F dX2_readComparison_162 (by decide) ?_
            refine aw_sub [3, 4, 5, 6, 7, 8, 0] rfl ?_
            exact K77 _ _ _ _ _ _ _ h
          · replace h := h.2 c_25
            refine aw_go (tgt := 150) F dX2_readComparison_140 (by decide) ?_
            refine aw_sub [2, 3, 4, 5, 6, 7, 8] rfl ?_
            exact kj_X2_readComparison_150 F T K77 h
      · replace h := h.2 c_21
        refine aw_il F 1 dX2_readComparison_119 rfl ?_
        refine aw_il F 0 dX2_readComparison_121 rfl ?_
        refine aw_icmp_ge (tgt := 159) F dX2_readComparison_123 (by decide) (fun c_26 => ?_) (fun c_26 => ?_)
        · replace h := h.1 c_26
          refine aw_inc (lv1 := [(6, .int (v6 + (1 : Int32))), (8, .int r_20), (7, .int r_18), (0, .ref (sdX X 3 0)), (1, .int v1), (2, .int v2), (3, .int v3), (4, .int v4), (5, .int v5)]) F 8 dX2_readComparison_159 rfl (in_1 _) (by decide) rfl ?_
          refine aw_go (tgt := 77) F dX2_readComparison_162 (by decide) ?_
          refine aw_sub [3, 4, 5, 6, 7, 8, 0] rfl ?_
          exact K77 _ _ _ _ _ _ _ h
        · replace h := h.2 c_26
          refine aw_go (tgt := 150) F dX2_readComparison_126 (by decide) ?_
          refine aw_sub [2, 3, 4, 5, 6, 7, 8] rfl ?_
          exact kj_X2_readComparison_150 F T K77 h
set_option maxRecDepth 100000 in
set_option maxHeartbeats 4000000 in
theorem kj_X2_readComparison_58 {E : Ev} {X : Cx} {post : Int32 → GH → Prop} {v1 v2 v3 : Int32} {G : GH} (F : Fx E X "MarkField$Question" cX2_readComparison 9) (T : RT E X 10 0 0 (some .int) (pI post)) (h : j_X2_readComparison_58 post v1 v2 v3 G) : AW E X 9 58 [(0, .ref (sdX X 3 0)), (1, .int v1), (2, .int v2), (3, .int v3)] [] G 0 0 := by
  have hP := F.P
  refine aw_al_n F 0 dX2_readComparison_58 rfl rfl ?_
  refine gr2_0 F (lo_s rfl) (hP _ rfl) rfl w_270 (hP 1 rfl) dX2_readComparison_59 ?_
  refine aw_cVv (stk := []) F T.room [] (k_X6_advance hP h) mv_X6_advance w_1104 cf6 (lo_s rfl) (hP _ rfl) rfl (by decide) rfl rfl (Nat.le_of_ble_eq_true rfl) ⟨(Nat.le_of_ble_eq_true rfl), (Nat.le_of_ble_eq_true rfl)⟩ ⟨(Nat.le_of_ble_eq_true rfl), (Nat.le_of_ble_eq_true rfl)⟩ dX2_readComparison_62 (fun G_11 h => ?_)
  refine aw_al_n F 0 dX2_readComparison_65 rfl rfl ?_
  refine aw_cVi (stk := []) F T.room [] (k_X2_readValue hP h) mv_X2_readValue w_1119 cf2 (lo_s rfl) (hP _ rfl) rfl (by decide) rfl rfl (Nat.le_of_ble_eq_true rfl) ⟨(Nat.le_of_ble_eq_true rfl), (Nat.le_of_ble_eq_true rfl)⟩ ⟨(Nat.le_of_ble_eq_true rfl), (Nat.le_of_ble_eq_true rfl)⟩ dX2_readComparison_66 (fun r_14 G_13 h => ?_)
  refine aw_is (lv1 := [(4, .int r_14), (0, .ref (sdX X 3 0)), (1, .int v1), (2, .int v2), (3, .int v3)]) F dX2_readComparison_69 (by decide) rfl ?_
  refine aw_ic F dX2_readComparison_71 ic_0 ?_
  refine aw_is (lv1 := [(5, .int (0 : Int32)), (4, .int r_14), (0, .ref (sdX X 3 0)), (1, .int v1), (2, .int v2), (3, .int v3)]) F dX2_readComparison_72 (by decide) rfl ?_
  refine aw_ic F dX2_readComparison_74 ic_0 ?_
  refine aw_is (lv1 := [(6, .int (0 : Int32)), (5, .int (0 : Int32)), (4, .int r_14), (0, .ref (sdX X 3 0)), (1, .int v1), (2, .int v2), (3, .int v3)]) F dX2_readComparison_75 (by decide) rfl ?_
  refine aw_sub [3, 4, 5, 6, 2, 1, 0] rfl ?_
  exact kl_X2_readComparison_77 F T h
set_option maxRecDepth 100000 in
set_option maxHeartbeats 4000000 in
theorem k_X2_readComparison {l : Launch} {E : Ev} {P : Nat → Prop} {sd : Nat → Nat → Nat} {G : GH} {post : Int32 → GH → Prop} (hPP : ∀ o, stt o = true → P o) (h : wp_X2_readComparison post G) : Ct l yX2_readComparison cX2_readComparison 9 (some .int) 10 0 0 E P sd G [.ref (sd 3 0)] (pI post) := by
  refine ct_of (own := "MarkField$Question") (by decide) rfl (Nat.le_of_ble_eq_true rfl) hPP (fun X F T el eP es => ?_)
  subst el; subst eP; subst es
  have hP := F.P
  change AW E X 9 0 [(0, .ref (sdX X 3 0))] [] G 0 0
  refine aw_al_n F 0 dX2_readComparison_0 rfl rfl ?_
  refine aw_cVi (stk := []) F T.room [] (k_X2_readValue hP h) mv_X2_readValue w_1119 cf2 (lo_s rfl) (hP _ rfl) rfl (by decide) rfl rfl (Nat.le_of_ble_eq_true rfl) ⟨(Nat.le_of_ble_eq_true rfl), (Nat.le_of_ble_eq_true rfl)⟩ ⟨(Nat.le_of_ble_eq_true rfl), (Nat.le_of_ble_eq_true rfl)⟩ dX2_readComparison_1 (fun r_2 G_1 h => ?_)
  refine aw_is_n (lv1 := [(1, .int r_2), (0, .ref (sdX X 3 0))]) F dX2_readComparison_4 rfl (by decide) rfl ?_
  refine aw_al_n F 1 dX2_readComparison_5 rfl rfl ?_
  refine gr2_0 F (lo_s rfl) (hP _ rfl) rfl w_270 (hP 1 rfl) dX2_readComparison_6 ?_
  refine aw_bi F dX2_readComparison_9 bi_60 ?_
  refine aw_cVb (stk := []) F T.room [.int (60 : Int32)] (k_X6_isSign hP h) mv_X6_isSign w_1114 cf6 (lo_s rfl) (hP _ rfl) rfl (by decide) rfl rfl (Nat.le_of_ble_eq_true rfl) ⟨(Nat.le_of_ble_eq_true rfl), (Nat.le_of_ble_eq_true rfl)⟩ ⟨(Nat.le_of_ble_eq_true rfl), (Nat.le_of_ble_eq_true rfl)⟩ dX2_readComparison_11 (fun b_4 G_3 h => ?_)
  refine aw_is_n (lv1 := [(2, .int (bI b_4)), (1, .int r_2), (0, .ref (sdX X 3 0))]) F dX2_readComparison_14 rfl (by decide) rfl ?_
  refine aw_al_n F 2 dX2_readComparison_15 rfl rfl ?_
  refine gr2_0 F (lo_s rfl) (hP _ rfl) rfl w_270 (hP 1 rfl) dX2_readComparison_16 ?_
  refine aw_bi F dX2_readComparison_19 bi_62 ?_
  refine aw_cVb (stk := []) F T.room [.int (62 : Int32)] (k_X6_isSign hP h) mv_X6_isSign w_1114 cf6 (lo_s rfl) (hP _ rfl) rfl (by decide) rfl rfl (Nat.le_of_ble_eq_true rfl) ⟨(Nat.le_of_ble_eq_true rfl), (Nat.le_of_ble_eq_true rfl)⟩ ⟨(Nat.le_of_ble_eq_true rfl), (Nat.le_of_ble_eq_true rfl)⟩ dX2_readComparison_21 (fun b_6 G_5 h => ?_)
  refine aw_is_n (lv1 := [(3, .int (bI b_6)), (2, .int (bI b_4)), (1, .int r_2), (0, .ref (sdX X 3 0))]) F dX2_readComparison_24 rfl (by decide) rfl ?_
  refine aw_al_n F 3 dX2_readComparison_25 rfl rfl ?_
  refine gf2_4 F (lo_s rfl) (hP _ rfl) rfl w_274 dX2_readComparison_26 ?_
  refine aw_if_ne (tgt := 52) F dX2_readComparison_29 (by decide) (fun c_7 => ?_) (fun c_7 => ?_)
  · replace h := h.2 c_7
    refine aw_sub [3] rfl ?_
    exact kj_X2_readComparison_52 F T h
  · replace h := h.1 c_7
    refine aw_il_n F 1 dX2_readComparison_32 rfl rfl ?_
    refine aw_if_ne (tgt := 58) F dX2_readComparison_33 (by decide) (fun c_10 => ?_) (fun c_10 => ?_)
    · replace h := h.2 (bI_1 c_10)
      refine aw_sub [3, 2, 1, 0] rfl ?_
      exact kj_X2_readComparison_58 F T h
    · replace h := h.1 (bI_2 c_10)
      refine aw_il_n F 0 dX2_readComparison_36 rfl rfl ?_
      refine aw_if_ne (tgt := 58) F dX2_readComparison_37 (by decide) (fun c_27 => ?_) (fun c_27 => ?_)
      · replace h := h.2 (bI_1 c_27)
        refine aw_sub [3, 2, 1, 0] rfl ?_
        exact kj_X2_readComparison_58 F T h
      · replace h := h.1 (bI_2 c_27)
        refine aw_al_n F 3 dX2_readComparison_40 rfl rfl ?_
        refine gr2_0 F (lo_s rfl) (hP _ rfl) rfl w_270 (hP 1 rfl) dX2_readComparison_41 ?_
        refine aw_bi F dX2_readComparison_44 bi_61 ?_
        refine aw_cVb (stk := []) F T.room [.int (61 : Int32)] (k_X6_isSign hP h) mv_X6_isSign w_1114 cf6 (lo_s rfl) (hP _ rfl) rfl (by decide) rfl rfl (Nat.le_of_ble_eq_true rfl) ⟨(Nat.le_of_ble_eq_true rfl), (Nat.le_of_ble_eq_true rfl)⟩ ⟨(Nat.le_of_ble_eq_true rfl), (Nat.le_of_ble_eq_true rfl)⟩ dX2_readComparison_46 (fun b_29 G_28 h => ?_)
        refine aw_if_ne (tgt := 58) F dX2_readComparison_49 (by decide) (fun c_30 => ?_) (fun c_30 => ?_)
        · replace h := h.2 (bI_1 c_30)
          refine aw_sub [3, 2, 1, 0] rfl ?_
          exact kj_X2_readComparison_58 F T h
        · replace h := h.1 (bI_2 c_30)
          refine aw_sub [3] rfl ?_
          exact kj_X2_readComparison_52 F T h
