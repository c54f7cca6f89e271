theorem w_1033 : (Jvm.Cond.code ({ cls := "MarkField$Acts", name := "keep", desc := "(LMarkField$Register;)V" } : Jvm.MethodName) prog_2_method_3_code (2 : Nat) (Option.none : Option Jvm.ClassFile.FieldType)) ∈ tb := tb_of (List.mem_of_getElem? (i := 1033) (by decide +kernel)) rfl
theorem w_1031 : (Jvm.Cond.instanceMethod ({ cls := "MarkField$Acts", name := "keep", desc := "(LMarkField$Register;)V" } : Jvm.MethodName)) ∈ tb := tb_of (List.mem_of_getElem? (i := 1031) (by decide +kernel)) rfl
theorem w_1032 : (Jvm.Cond.selects "MarkField$Acts" ({ cls := "MarkField$Acts", name := "keep", desc := "(LMarkField$Register;)V" } : Jvm.MethodName) ({ cls := "MarkField$Acts", name := "keep", desc := "(LMarkField$Register;)V" } : Jvm.MethodName)) ∈ tb := tb_of (List.mem_of_getElem? (i := 1032) (by decide +kernel)) rfl
theorem w_1030 : (Jvm.Cond.methodLink "MarkField" (333 : Nat) ({ cls := "MarkField$Acts", name := "keep", desc := "(LMarkField$Register;)V" } : Jvm.MethodName)) ∈ tb := tb_of (List.mem_of_getElem? (i := 1030) (by decide +kernel)) rfl
theorem w_1044 : (Jvm.Cond.methodLink "MarkField" (351 : Nat) ({ cls := "MarkField$Register", name := "addUse", desc := "(IIII)I" } : Jvm.MethodName)) ∈ tb := tb_of (List.mem_of_getElem? (i := 1044) (by decide +kernel)) rfl
theorem w_1052 : (Jvm.Cond.methodLink "MarkField" (355 : Nat) ({ cls := "MarkField", name := "setCouple", desc := "([IIIZ)Z" } : Jvm.MethodName)) ∈ tb := tb_of (List.mem_of_getElem? (i := 1052) (by decide +kernel)) rfl
theorem w_1063 : (Jvm.Cond.code ({ cls := "MarkField$Register", name := "removeMark", desc := "(I)V" } : Jvm.MethodName) prog_6_method_10_code (5 : Nat) (Option.none : Option Jvm.ClassFile.FieldType)) ∈ tb := tb_of (List.mem_of_getElem? (i := 1063) (by decide +kernel)) rfl
theorem w_1061 : (Jvm.Cond.instanceMethod ({ cls := "MarkField$Register", name := "removeMark", desc := "(I)V" } : Jvm.MethodName)) ∈ tb := tb_of (List.mem_of_getElem? (i := 1061) (by decide +kernel)) rfl
theorem w_1062 : (Jvm.Cond.selects "MarkField$Register" ({ cls := "MarkField$Register", name := "removeMark", desc := "(I)V" } : Jvm.MethodName) ({ cls := "MarkField$Register", name := "removeMark", desc := "(I)V" } : Jvm.MethodName)) ∈ tb := tb_of (List.mem_of_getElem? (i := 1062) (by decide +kernel)) rfl
theorem w_1060 : (Jvm.Cond.methodLink "MarkField" (359 : Nat) ({ cls := "MarkField$Register", name := "removeMark", desc := "(I)V" } : Jvm.MethodName)) ∈ tb := tb_of (List.mem_of_getElem? (i := 1060) (by decide +kernel)) rfl
theorem w_1074 : (Jvm.Cond.fieldLink "MarkField" (362 : Nat) "MarkField" "RULES_AT_MOST" "[I") ∈ tb := tb_of (List.mem_of_getElem? (i := 1074) (by decide +kernel)) rfl
theorem w_1076 : (Jvm.Cond.methodLink "MarkField" (367 : Nat) ({ cls := "java/lang/Math", name := "max", desc := "(II)I" } : Jvm.MethodName)) ∈ tb := tb_of (List.mem_of_getElem? (i := 1076) (by decide +kernel)) rfl
theorem w_353 : (Jvm.Cond.code ({ cls := "MarkField$Acts", name := "takeBack", desc := "(LMarkField$Register;)V" } : Jvm.MethodName) prog_2_method_4_code (3 : Nat) (Option.none : Option Jvm.ClassFile.FieldType)) ∈ tb := tb_of (List.mem_of_getElem? (i := 353) (by decide +kernel)) rfl
theorem w_351 : (Jvm.Cond.instanceMethod ({ cls := "MarkField$Acts", name := "takeBack", desc := "(LMarkField$Register;)V" } : Jvm.MethodName)) ∈ tb := tb_of (List.mem_of_getElem? (i := 351) (by decide +kernel)) rfl
theorem w_352 : (Jvm.Cond.selects "MarkField$Acts" ({ cls := "MarkField$Acts", name := "takeBack", desc := "(LMarkField$Register;)V" } : Jvm.MethodName) ({ cls := "MarkField$Acts", name := "takeBack", desc := "(LMarkField$Register;)V" } : Jvm.MethodName)) ∈ tb := tb_of (List.mem_of_getElem? (i := 352) (by decide +kernel)) rfl
theorem w_350 : (Jvm.Cond.methodLink "MarkField" (372 : Nat) ({ cls := "MarkField$Acts", name := "takeBack", desc := "(LMarkField$Register;)V" } : Jvm.MethodName)) ∈ tb := tb_of (List.mem_of_getElem? (i := 350) (by decide +kernel)) rfl
theorem mv_X0_keep : MV yX0_keep cX0_keep 2 none 1 := ⟨⟨w_1033, w_5, by decide, by decide, by decide +kernel⟩, w_1031, w_1032⟩
theorem mv_X4_removeMark : MV yX4_removeMark cX4_removeMark 5 none 1 := ⟨⟨w_1063, w_3, by decide, by decide, by decide +kernel⟩, w_1061, w_1062⟩
theorem mv_X0_takeBack : MV yX0_takeBack cX0_takeBack 3 none 1 := ⟨⟨w_353, w_5, by decide, by decide, by decide +kernel⟩, w_351, w_352⟩
-- X7_file (height 8)
def wp_X7_file (post : Int32 → GH → Prop) (px : Nat → GH → Prop) (x1 x2 x3 : Int32) (G : GH) : Prop :=
  wp_X7_needFiling (fun (G_1 : GH) => wp_X6_takeName (fun (b_4 : Bool) (G_3 : GH) => ((b_4 = false → post (-1000000000 : Int32) G_3) ∧ (b_4 = true → (((G_3 8 0 1) < (12 : Int32) → wp_X0_keep (fun (G_7 : GH) => (∀ G_9 : GH, G_9 = gs G_7 0 0 (upd (G_7 0 0) 12 (3 : Int32)) → wp_X4_addMark (fun (r_11 : Int32) (G_10 : GH) => (vp_in r_11 13 ∧ (∀ G_12 : GH, G_12 = gs G_10 8 4 (upd (G_10 8 4) r_11.toNatClampNeg x2) → post r_11 G_12))) 8 1 1 700 (0 : Int32) x1 x3 G_9)) 8 G_3) ∧ (¬ (G_3 8 0 1) < (12 : Int32) → post (-1 : Int32) G_3))))) x1 G_1) px x1 x2 x3 G
set_option maxRecDepth 100000 in
set_option maxHeartbeats 4000000 in
theorem k_X7_file {l : Launch} {E : Ev} {P : Nat → Prop} {sd : Nat → Nat → Nat} {G : GH} {post : Int32 → GH → Prop} {px : Nat → GH → Prop} {x1 x2 x3 : Int32} (hl0 : l.stackTraces = false) (hPP : ∀ o, stt o = true → P o) (hPe : P = pS) (h : wp_X7_file post px x1 x2 x3 G) : CtX l yX7_file cX7_file 5 (some .int) 8 13 708 E P sd G [.ref (sd 0 0), .int x1, .int x2, .int x3] (pI post) px := by
  refine ctx_of hl0 (own := "MarkField") (by decide) rfl (Nat.le_of_ble_eq_true rfl) hPP (fun X F T el eP es => ?_)
  subst el; subst eP; subst es
  have hP := F.P
  change AW E X 5 0 [(0, .ref (sdX X 0 0)), (1, .int x1), (2, .int x2), (3, .int x3)] [] G 0 0
  refine aw_al_n F 0 dX7_file_0 rfl rfl ?_
  refine aw_il_n F 1 dX7_file_1 rfl rfl ?_
  refine aw_il_n F 2 dX7_file_2 rfl rfl ?_
  refine aw_il_n F 3 dX7_file_3 rfl rfl ?_
  refine aw_cVXv (stk := []) F T [.int x1, .int x2, .int x3] (k_X7_needFiling T.tr hP h) mv_X7_needFiling w_938 cf7 (lo_s rfl) (hP _ rfl) rfl (by decide) rfl rfl (Nat.le_of_ble_eq_true rfl) ⟨(Nat.le_of_ble_eq_true rfl), (Nat.le_of_ble_eq_true rfl)⟩ ⟨(Nat.le_of_ble_eq_true rfl), (Nat.le_of_ble_eq_true rfl)⟩ ⟨rfl, rfl⟩ dX7_file_4 (fun _ _ q => q) (fun G_1 h => ?_)
  refine aw_al_n F 0 dX7_file_7 rfl rfl ?_
  refine gr7_0 F (lo_s rfl) (hP _ rfl) rfl w_294 (hP 1 rfl) dX7_file_8 ?_
  refine aw_il_n F 1 dX7_file_11 rfl rfl ?_
  refine aw_cVb (stk := []) F T.room [.int x1] (k_X6_takeName hP h) mv_X6_takeName w_942 cf6 (lo_s rfl) (hP _ rfl) rfl (by decide) rfl rfl (Nat.le_of_ble_eq_true rfl) ⟨(Nat.le_of_ble_eq_true rfl), (Nat.le_of_ble_eq_true rfl)⟩ ⟨(Nat.le_of_ble_eq_true rfl), (Nat.le_of_ble_eq_true rfl)⟩ dX7_file_12 (fun b_4 G_3 h => ?_)
  refine aw_if_ne (tgt := 22) F dX7_file_15 (by decide) (fun c_5 => ?_) (fun c_5 => ?_)
  · replace h := h.2 (bI_1 c_5)
    refine aw_al_n F 0 dX7_file_22 rfl rfl ?_
    refine gr7_7 F (lo_s rfl) (hP _ rfl) rfl w_301 (hP 8 rfl) dX7_file_23 ?_
    refine gf4_1 F (lo_s rfl) (hP _ rfl) rfl w_86 dX7_file_26 ?_
    refine aw_bi F dX7_file_29 bi_12 ?_
    refine aw_icmp_lt (tgt := 36) F dX7_file_31 (by decide) (fun c_6 => ?_) (fun c_6 => ?_)
    · replace h := h.1 c_6
      refine aw_al_n F 0 dX7_file_36 rfl rfl ?_
      refine gr7_3 F (lo_s rfl) (hP _ rfl) rfl w_297 (hP 4 rfl) dX7_file_37 ?_
      refine aw_al_n F 0 dX7_file_40 rfl rfl ?_
      refine gr7_7 F (lo_s rfl) (hP _ rfl) rfl w_301 (hP 8 rfl) dX7_file_41 ?_
      refine aw_cVAv (stk := []) F T.room [.ref (sdX X 8 0)] (k_X0_keep hP hPe rfl rfl h) mv_X0_keep w_1030 cf0 (lo_s rfl) (hP _ rfl) rfl (by decide) rfl rfl (Nat.le_of_ble_eq_true rfl) ⟨(Nat.le_of_ble_eq_true rfl), (Nat.le_of_ble_eq_true rfl)⟩ ⟨(Nat.le_of_ble_eq_true rfl), (Nat.le_of_ble_eq_true rfl)⟩ ⟨rfl, rfl⟩ dX7_file_44 (fun G_7 h => ?_)
      refine aw_al_n F 0 dX7_file_47 rfl rfl ?_
      refine aw_ic F dX7_file_48 ic_3 ?_
      refine pf7_12 F (lo_s rfl) (hP _ rfl) rfl w_306 dX7_file_49 (fun G_9 eG_9 => ?_)
      replace h := h G_9 eG_9
      refine aw_al_n F 0 dX7_file_52 rfl rfl ?_
      refine gr7_7 F (lo_s rfl) (hP _ rfl) rfl w_301 (hP 8 rfl) dX7_file_53 ?_
      refine aw_al_n F 0 dX7_file_56 rfl rfl ?_
      refine gr7_0 F (lo_s rfl) (hP _ rfl) rfl w_294 (hP 1 rfl) dX7_file_57 ?_
      refine gr6_0 F (lo_s rfl) (hP _ rfl) rfl w_39 (hP _ rfl) dX7_file_60 ?_
      refine aw_ic F dX7_file_63 ic_0 ?_
      refine aw_il_n F 1 dX7_file_64 rfl rfl ?_
      refine aw_il_n F 3 dX7_file_65 rfl rfl ?_
      refine aw_cVi (stk := []) F T.room [.ref (sdX X 1 1), .int (0 : Int32), .int x1, .int x3] (k_X4_addMark hP rfl rfl rfl rfl h) mv_X4_addMark w_956 cf4 (lo_s rfl) (hP _ rfl) rfl (by decide) rfl rfl (Nat.le_of_ble_eq_true rfl) ⟨(Nat.le_of_ble_eq_true rfl), (Nat.le_of_ble_eq_true rfl)⟩ ⟨(Nat.le_of_ble_eq_true rfl), (Nat.le_of_ble_eq_true rfl)⟩ dX7_file_66 (fun r_11 G_10 h => ?_)
      refine aw_is (lv1 := [(4, .int r_11), (0, .ref (sdX X 0 0)), (1, .int x1), (2, .int x2), (3, .int x3)]) F dX7_file_69 (by decide) rfl ?_
      refine aw_al_n F 1 dX7_file_71 rfl rfl ?_
      refine gr7_7 F (lo_s rfl) (hP _ rfl) rfl w_301 (hP 8 rfl) dX7_file_72 ?_
      refine gr4_3 F (lo_s rfl) (hP _ rfl) rfl w_93 (hP _ rfl) dX7_file_75 ?_
      refine aw_il F 0 dX7_file_78 rfl ?_
      refine aw_il_n F 3 dX7_file_80 rfl rfl ?_
      refine aw_iast F 8 4 (lo_s rfl) (hP _ rfl) rfl h.1 dX7_file_81 ?_
      refine aw_nG (fun G_12 eG_12 => ?_)
      replace h := h.2 G_12 eG_12
      refine aw_il F 0 dX7_file_82 rfl ?_
      exact aw_iretX F T (Nat.le_of_ble_eq_true rfl) (Nat.le_of_ble_eq_true rfl) ⟨_, rfl, h⟩ dX7_file_84
    · replace h := h.2 c_6
      refine aw_ic F dX7_file_34 ic_m1 ?_
      exact aw_iretX F T (Nat.le_of_ble_eq_true rfl) (Nat.le_of_ble_eq_true rfl) ⟨_, rfl, h⟩ dX7_file_35
  · replace h := h.1 (bI_2 c_5)
    refine aw_ldcw F dX7_file_18 w_946 ?_
    exact aw_iretX F T (Nat.le_of_ble_eq_true rfl) (Nat.le_of_ble_eq_true rfl) ⟨_, rfl, h⟩ dX7_file_21
-- X7_use (height 7)
def j_X7_use_31 (post : Int32 → GH → Prop) (px : Nat → GH → Prop) (G : GH) : Prop :=
  px 1 G
def wp_X7_use (post : Int32 → GH → Prop) (px : Nat → GH → Prop) (x1 x2 x3 x4 : Int32) (G : GH) : Prop :=
  wp_X7_needMark (fun (G_1 : GH) => wp_X7_needHalf (fun (G_3 : GH) => wp_X7_isDay (fun (b_6 : Bool) (G_5 : GH) => ((b_6 = false → j_X7_use_31 post px G_5) ∧ (b_6 = true → wp_X7_isDay (fun (b_9 : Bool) (G_8 : GH) => ((b_9 = false → j_X7_use_31 post px G_8) ∧ (b_9 = true → ((x3 ≤ x4 → (vp_in x1 13 ∧ (((G_8 8 7 x1.toNatClampNeg) < (12 : Int32) → wp_X0_keep (fun (G_13 : GH) => wp_X4_addUse (fun (r_16 : Int32) (G_15 : GH) => post r_16 G_15) 8 x1 x2 x3 x4 G_13) 8 G_8) ∧ (¬ (G_8 8 7 x1.toNatClampNeg) < (12 : Int32) → post (-1 : Int32) G_8)))) ∧ (¬ x3 ≤ x4 → j_X7_use_31 post px G_8))))) x4 G_5))) x3 G_3) px x2 G_1) px x1 G
set_option maxRecDepth 100000 in
set_option maxHeartbeats 4000000 in
theorem kj_X7_use_31 {E : Ev} {X : Cx} {post : Int32 → GH → Prop} {px : Nat → GH → Prop} {G : GH} (F : Fx E X "MarkField" cX7_use 5) (T : RTX E X 7 12 702 (some .int) (pI post) px) (hPe : PX X = pS) (h : j_X7_use_31 post px G) : AW E X 5 31 [] [] G 2 12 := by
  have hP := F.P
  exact aw_thr F T 1 (by decide) 6 (by decide) rfl true (Nat.le_of_ble_eq_true rfl) (Nat.le_of_ble_eq_true rfl) (Nat.le_of_ble_eq_true rfl) (Nat.le_of_ble_eq_true rfl) h dX7_use_31 dX7_use_34 dX7_use_35 dX7_use_38 dX7_use_41
set_option maxRecDepth 100000 in
set_option maxHeartbeats 4000000 in
theorem k_X7_use {l : Launch} {E : Ev} {P : Nat → Prop} {sd : Nat → Nat → Nat} {G : GH} {post : Int32 → GH → Prop} {px : Nat → GH → Prop} {x1 x2 x3 x4 : Int32} (hl0 : l.stackTraces = false) (hPP : ∀ o, stt o = true → P o) (hPe : P = pS) (h : wp_X7_use post px x1 x2 x3 x4 G) : CtX l yX7_use cX7_use 5 (some .int) 7 12 702 E P sd G [.ref (sd 0 0), .int x1, .int x2, .int x3, .int x4] (pI post) px := by
  refine ctx_of hl0 (own := "MarkField") (by decide) rfl (Nat.le_of_ble_eq_true rfl) hPP (fun X F T el eP es => ?_)
  subst el; subst eP; subst es
  have hP := F.P
  change AW E X 5 0 [(0, .ref (sdX X 0 0)), (1, .int x1), (2, .int x2), (3, .int x3), (4, .int x4)] [] G 0 0
  refine aw_al_n F 0 dX7_use_0 rfl rfl ?_
  refine aw_il_n F 1 dX7_use_1 rfl rfl ?_
  refine aw_cVXv (stk := []) F T [.int x1] (k_X7_needMark T.tr hP h) mv_X7_needMark w_752 cf7 (lo_s rfl) (hP _ rfl) rfl (by decide) rfl rfl (Nat.le_of_ble_eq_true rfl) ⟨(Nat.le_of_ble_eq_true rfl), (Nat.le_of_ble_eq_true rfl)⟩ ⟨(Nat.le_of_ble_eq_true rfl), (Nat.le_of_ble_eq_true rfl)⟩ ⟨rfl, rfl⟩ dX7_use_2 (fun _ _ q => q) (fun G_1 h => ?_)
  refine aw_al_n F 0 dX7_use_5 rfl rfl ?_
  refine aw_il_n F 2 dX7_use_6 rfl rfl ?_
  refine aw_cVXv (stk := []) F T [.int x2] (k_X7_needHalf T.tr hP h) mv_X7_needHalf w_817 cf7 (lo_s rfl) (hP _ rfl) rfl (by decide) rfl rfl (Nat.le_of_ble_eq_true rfl) ⟨(Nat.le_of_ble_eq_true rfl), (Nat.le_of_ble_eq_true rfl)⟩ ⟨(Nat.le_of_ble_eq_true rfl), (Nat.le_of_ble_eq_true rfl)⟩ ⟨rfl, rfl⟩ dX7_use_7 (fun _ _ q => q) (fun G_3 h => ?_)
  refine aw_il_n F 3 dX7_use_10 rfl rfl ?_
  refine aw_cSb (stk := []) F T.room [.int x3] (k_X7_isDay hP h) ms_X7_isDay w_825 rfl rfl (Nat.le_of_ble_eq_true rfl) ⟨(Nat.le_of_ble_eq_true rfl), (Nat.le_of_ble_eq_true rfl)⟩ ⟨(Nat.le_of_ble_eq_true rfl), (Nat.le_of_ble_eq_true rfl)⟩ dX7_use_11 (fun b_6 G_5 h => ?_)
  refine aw_if_eq (tgt := 31) F dX7_use_14 (by decide) (fun c_7 => ?_) (fun c_7 => ?_)
  · replace h := h.1 (bI_2 c_7)
    refine aw_sub [] rfl ?_
    exact kj_X7_use_31 F T hPe h
  · replace h := h.2 (bI_1 c_7)
    refine aw_il F 4 dX7_use_17 rfl ?_
    refine aw_cSb (stk := []) F T.room [.int x4] (k_X7_isDay hP h) ms_X7_isDay w_825 rfl rfl (Nat.le_of_ble_eq_true rfl) ⟨(Nat.le_of_ble_eq_true rfl), (Nat.le_of_ble_eq_true rfl)⟩ ⟨(Nat.le_of_ble_eq_true rfl), (Nat.le_of_ble_eq_true rfl)⟩ dX7_use_19 (fun b_9 G_8 h => ?_)
    refine aw_if_eq (tgt := 31) F dX7_use_22 (by decide) (fun c_10 => ?_) (fun c_10 => ?_)
    · replace h := h.1 (bI_2 c_10)
      refine aw_sub [] rfl ?_
      exact kj_X7_use_31 F T hPe h
    · replace h := h.2 (bI_1 c_10)
      refine aw_il F 4 dX7_use_25 rfl ?_
      refine aw_il_n F 3 dX7_use_27 rfl rfl ?_
      refine aw_icmp_ge (tgt := 42) F dX7_use_28 (by decide) (fun c_11 => ?_) (fun c_11 => ?_)
      · replace h := h.1 c_11
        refine aw_al_n F 0 dX7_use_42 rfl rfl ?_
        refine gr7_7 F (lo_s rfl) (hP _ rfl) rfl w_301 (hP 8 rfl) dX7_use_43 ?_
        refine gr4_6 F (lo_s rfl) (hP _ rfl) rfl w_105 (hP _ rfl) dX7_use_46 ?_
        refine aw_il_n F 1 dX7_use_49 rfl rfl ?_
        refine aw_iald F 8 7 (lo_s rfl) (hP _ rfl) rfl h.1 dX7_use_50 ?_
        replace h := h.2
        refine aw_bi F dX7_use_51 bi_12 ?_
        refine aw_icmp_lt (tgt := 58) F dX7_use_53 (by decide) (fun c_12 => ?_) (fun c_12 => ?_)
        · replace h := h.1 c_12
          refine aw_al_n F 0 dX7_use_58 rfl rfl ?_
          refine gr7_3 F (lo_s rfl) (hP _ rfl) rfl w_297 (hP 4 rfl) dX7_use_59 ?_
          refine aw_al_n F 0 dX7_use_62 rfl rfl ?_
          refine gr7_7 F (lo_s rfl) (hP _ rfl) rfl w_301 (hP 8 rfl) dX7_use_63 ?_
          refine aw_cVAv (stk := []) F T.room [.ref (sdX X 8 0)] (k_X0_keep hP hPe rfl rfl h) mv_X0_keep w_1030 cf0 (lo_s rfl) (hP _ rfl) rfl (by decide) rfl rfl (Nat.le_of_ble_eq_true rfl) ⟨(Nat.le_of_ble_eq_true rfl), (Nat.le_of_ble_eq_true rfl)⟩ ⟨(Nat.le_of_ble_eq_true rfl), (Nat.le_of_ble_eq_true rfl)⟩ ⟨rfl, rfl⟩ dX7_use_66 (fun G_13 h => ?_)
          refine aw_al_n F 0 dX7_use_69 rfl rfl ?_
          refine gr7_7 F (lo_s rfl) (hP _ rfl) rfl w_301 (hP 8 rfl) dX7_use_70 ?_
          refine aw_il_n F 1 dX7_use_73 rfl rfl ?_
          refine aw_il_n F 2 dX7_use_74 rfl rfl ?_
          refine aw_il_n F 3 dX7_use_75 rfl rfl ?_
          refine aw_il F 4 dX7_use_76 rfl ?_
          refine aw_cVi (stk := []) F T.room [.int x1, .int x2, .int x3, .int x4] (k_X4_addUse hP rfl rfl h) mv_X4_addUse w_1044 cf4 (lo_s rfl) (hP _ rfl) rfl (by decide) rfl rfl (Nat.le_of_ble_eq_true rfl) ⟨(Nat.le_of_ble_eq_true rfl), (Nat.le_of_ble_eq_true rfl)⟩ ⟨(Nat.le_of_ble_eq_true rfl), (Nat.le_of_ble_eq_true rfl)⟩ dX7_use_78 (fun r_16 G_15 h => ?_)
          exact aw_iretX F T (Nat.le_of_ble_eq_true rfl) (Nat.le_of_ble_eq_true rfl) ⟨_, rfl, h⟩ dX7_use_81
        · replace h := h.2 c_12
          refine aw_ic F dX7_use_56 ic_m1 ?_
          exact aw_iretX F T (Nat.le_of_ble_eq_true rfl) (Nat.le_of_ble_eq_true rfl) ⟨_, rfl, h⟩ dX7_use_57
      · replace h := h.2 c_11
        refine aw_sub [] rfl ?_
        exact kj_X7_use_31 F T hPe h
-- X7_consent (height 7)
def wp_X7_consent (post : Bool → GH → Prop) (px : Nat → GH → Prop) (x1 x2 x3 : Int32) (G : GH) : Prop :=
  wp_X7_needCouple (fun (G_1 : GH) => wp_X0_keep (fun (G_3 : GH) => wp_X7_setCouple (fun (b_6 : Bool) (G_5 : GH) => post b_6 G_5) 8 9 13 x1 x2 x3 G_3) 8 G_1) px x1 x2 G
set_option maxRecDepth 100000 in
set_option maxHeartbeats 4000000 in
theorem k_X7_consent {l : Launch} {E : Ev} {P : Nat → Prop} {sd : Nat → Nat → Nat} {G : GH} {post : Bool → GH → Prop} {px : Nat → GH → Prop} {x1 x2 x3 : Int32} (hl0 : l.stackTraces = false) (hPP : ∀ o, stt o = true → P o) (hPe : P = pS) (h : wp_X7_consent post px x1 x2 x3 G) : CtX l yX7_consent cX7_consent 4 (some .boolean) 7 11 696 E P sd G [.ref (sd 0 0), .int x1, .int x2, .int x3] (pB post) px := by
  refine ctx_of hl0 (own := "MarkField") (by decide) rfl (Nat.le_of_ble_eq_true rfl) hPP (fun X F T el eP es => ?_)
  subst el; subst eP; subst es
  have hP := F.P
  change AW E X 4 0 [(0, .ref (sdX X 0 0)), (1, .int x1), (2, .int x2), (3, .int x3)] [] G 0 0
  refine aw_al_n F 0 dX7_consent_0 rfl rfl ?_
  refine aw_il_n F 1 dX7_consent_1 rfl rfl ?_
  refine aw_il_n F 2 dX7_consent_2 rfl rfl ?_
  refine aw_cVXv (stk := []) F T [.int x1, .int x2] (k_X7_needCouple T.tr hP h) mv_X7_needCouple w_792 cf7 (lo_s rfl) (hP _ rfl) rfl (by decide) rfl rfl (Nat.le_of_ble_eq_true rfl) ⟨(Nat.le_of_ble_eq_true rfl), (Nat.le_of_ble_eq_true rfl)⟩ ⟨(Nat.le_of_ble_eq_true rfl), (Nat.le_of_ble_eq_true rfl)⟩ ⟨rfl, rfl⟩ dX7_consent_3 (fun _ _ q => q) (fun G_1 h => ?_)
  refine aw_al_n F 0 dX7_consent_6 rfl rfl ?_
  refine gr7_3 F (lo_s rfl) (hP _ rfl) rfl w_297 (hP 4 rfl) dX7_consent_7 ?_
  refine aw_al_n F 0 dX7_consent_10 rfl rfl ?_
  refine gr7_7 F (lo_s rfl) (hP _ rfl) rfl w_301 (hP 8 rfl) dX7_consent_11 ?_
  refine aw_cVAv (stk := []) F T.room [.ref (sdX X 8 0)] (k_X0_keep hP hPe rfl rfl h) mv_X0_keep w_1030 cf0 (lo_s rfl) (hP _ rfl) rfl (by decide) rfl rfl (Nat.le_of_ble_eq_true rfl) ⟨(Nat.le_of_ble_eq_true rfl), (Nat.le_of_ble_eq_true rfl)⟩ ⟨(Nat.le_of_ble_eq_true rfl), (Nat.le_of_ble_eq_true rfl)⟩ ⟨rfl, rfl⟩ dX7_consent_14 (fun G_3 h => ?_)
  refine aw_al_n F 0 dX7_consent_17 rfl rfl ?_
  refine gr7_7 F (lo_s rfl) (hP _ rfl) rfl w_301 (hP 8 rfl) dX7_consent_18 ?_
  refine gr4_8 F (lo_s rfl) (hP _ rfl) rfl w_112 (hP _ rfl) dX7_consent_21 ?_
  refine aw_il_n F 1 dX7_consent_24 rfl rfl ?_
  refine aw_il_n F 2 dX7_consent_25 rfl rfl ?_
  refine aw_il_n F 3 dX7_consent_26 rfl rfl ?_
  refine aw_cSb (stk := []) F T.room [.ref (sdX X 8 9), .int x1, .int x2, .int x3] (k_X7_setCouple hP rfl rfl h) ms_X7_setCouple w_1052 rfl rfl (Nat.le_of_ble_eq_true rfl) ⟨(Nat.le_of_ble_eq_true rfl), (Nat.le_of_ble_eq_true rfl)⟩ ⟨(Nat.le_of_ble_eq_true rfl), (Nat.le_of_ble_eq_true rfl)⟩ dX7_consent_27 (fun b_6 G_5 h => ?_)
  exact aw_zretX F T b_6 rfl (Nat.le_of_ble_eq_true rfl) (Nat.le_of_ble_eq_true rfl) ⟨_, rfl, h⟩ dX7_consent_30
-- X7_drop (height 7)
def wp_X7_drop (post : Int32 → GH → Prop) (px : Nat → GH → Prop) (x1 : Int32) (G : GH) : Prop :=
  wp_X7_needMark (fun (G_1 : GH) => wp_X0_keep (fun (G_3 : GH) => (∀ G_5 : GH, G_5 = gs G_3 0 0 (upd (G_3 0 0) 12 (3 : Int32)) → wp_X4_removeMark (fun (G_6 : GH) => post (G_6 8 0 1) G_6) 8 x1 G_5)) 8 G_1) px x1 G
set_option maxRecDepth 100000 in
set_option maxHeartbeats 4000000 in
theorem k_X7_drop {l : Launch} {E : Ev} {P : Nat → Prop} {sd : Nat → Nat → Nat} {G : GH} {post : Int32 → GH → Prop} {px : Nat → GH → Prop} {x1 : Int32} (hl0 : l.stackTraces = false) (hPP : ∀ o, stt o = true → P o) (hPe : P = pS) (h : wp_X7_drop post px x1 G) : CtX l yX7_drop cX7_drop 2 (some .int) 7 11 696 E P sd G [.ref (sd 0 0), .int x1] (pI post) px := by
  refine ctx_of hl0 (own := "MarkField") (by decide) rfl (Nat.le_of_ble_eq_true rfl) hPP (fun X F T el eP es => ?_)
  subst el; subst eP; subst es
  have hP := F.P
  change AW E X 2 0 [(0, .ref (sdX X 0 0)), (1, .int x1)] [] G 0 0
  refine aw_al_n F 0 dX7_drop_0 rfl rfl ?_
  refine aw_il_n F 1 dX7_drop_1 rfl rfl ?_
  refine aw_cVXv (stk := []) F T [.int x1] (k_X7_needMark T.tr hP h) mv_X7_needMark w_752 cf7 (lo_s rfl) (hP _ rfl) rfl (by decide) rfl rfl (Nat.le_of_ble_eq_true rfl) ⟨(Nat.le_of_ble_eq_true rfl), (Nat.le_of_ble_eq_true rfl)⟩ ⟨(Nat.le_of_ble_eq_true rfl), (Nat.le_of_ble_eq_true rfl)⟩ ⟨rfl, rfl⟩ dX7_drop_2 (fun _ _ q => q) (fun G_1 h => ?_)
  refine aw_al_n F 0 dX7_drop_5 rfl rfl ?_
  refine gr7_3 F (lo_s rfl) (hP _ rfl) rfl w_297 (hP 4 rfl) dX7_drop_6 ?_
  refine aw_al_n F 0 dX7_drop_9 rfl rfl ?_
  refine gr7_7 F (lo_s rfl) (hP _ rfl) rfl w_301 (hP 8 rfl) dX7_drop_10 ?_
  refine aw_cVAv (stk := []) F T.room [.ref (sdX X 8 0)] (k_X0_keep hP hPe rfl rfl h) mv_X0_keep w_1030 cf0 (lo_s rfl) (hP _ rfl) rfl (by decide) rfl rfl (Nat.le_of_ble_eq_true rfl) ⟨(Nat.le_of_ble_eq_true rfl), (Nat.le_of_ble_eq_true rfl)⟩ ⟨(Nat.le_of_ble_eq_true rfl), (Nat.le_of_ble_eq_true rfl)⟩ ⟨rfl, rfl⟩ dX7_drop_13 (fun G_3 h => ?_)
  refine aw_al_n F 0 dX7_drop_16 rfl rfl ?_
  refine aw_ic F dX7_drop_17 ic_3 ?_
  refine pf7_12 F (lo_s rfl) (hP _ rfl) rfl w_306 dX7_drop_18 (fun G_5 eG_5 => ?_)
  replace h := h G_5 eG_5
  refine aw_al_n F 0 dX7_drop_21 rfl rfl ?_
  refine gr7_7 F (lo_s rfl) (hP _ rfl) rfl w_301 (hP 8 rfl) dX7_drop_22 ?_
  refine aw_il_n F 1 dX7_drop_25 rfl rfl ?_
  refine aw_cVv (stk := []) F T.room [.int x1] (k_X4_removeMark hP rfl rfl h) mv_X4_removeMark w_1060 cf4 (lo_s rfl) (hP _ rfl) rfl (by decide) rfl rfl (Nat.le_of_ble_eq_true rfl) ⟨(Nat.le_of_ble_eq_true rfl), (Nat.le_of_ble_eq_true rfl)⟩ ⟨(Nat.le_of_ble_eq_true rfl), (Nat.le_of_ble_eq_true rfl)⟩ dX7_drop_26 (fun G_6 h => ?_)
  refine aw_al_n F 0 dX7_drop_29 rfl rfl ?_
  refine gr7_7 F (lo_s rfl) (hP _ rfl) rfl w_301 (hP 8 rfl) dX7_drop_30 ?_
  refine gf4_1 F (lo_s rfl) (hP _ rfl) rfl w_86 dX7_drop_33 ?_
  exact aw_iretX F T (Nat.le_of_ble_eq_true rfl) (Nat.le_of_ble_eq_true rfl) ⟨_, rfl, h⟩ dX7_drop_36
-- X7_rule (height 7)
def j_X7_rule_18 (post : Int32 → GH → Prop) (px : Nat → GH → Prop) (G : GH) : Prop :=
  px 1 G
def wp_X7_rule (post : Int32 → GH → Prop) (px : Nat → GH → Prop) (x1 x2 : Int32) (G : GH) : Prop :=
  wp_X7_needWhat (fun (G_1 : GH) => ((x2 < 0 → j_X7_rule_18 post px G_1) ∧ (¬ x2 < 0 → (vp_in x1 (sTb 1).length ∧ ((x2 ≤ ((sTb 1).getD x1.toNatClampNeg 0) → wp_X0_keep (fun (G_5 : GH) => (∀ G_7 : GH, G_7 = gs G_5 0 0 (upd (G_5 0 0) 12 (imax (G_5 0 0 12) (1 : Int32))) → (vp_in x1 6 ∧ (∀ y_8 : Int32, y_8 = (G_7 8 11 x1.toNatClampNeg) → (vp_in x1 6 ∧ (∀ G_9 : GH, G_9 = gs G_7 8 11 (upd (G_7 8 11) x1.toNatClampNeg x2) → post y_8 G_9)))))) 8 G_1) ∧ (¬ x2 ≤ ((sTb 1).getD x1.toNatClampNeg 0) → j_X7_rule_18 post px G_1)))))) px x1 (5 : Int32) G
set_option maxRecDepth 100000 in
set_option maxHeartbeats 4000000 in
theorem kj_X7_rule_18 {E : Ev} {X : Cx} {post : Int32 → GH → Prop} {px : Nat → GH → Prop} {G : GH} (F : Fx E X "MarkField" cX7_rule 4) (T : RTX E X 7 11 696 (some .int) (pI post) px) (hPe : PX X = pS) (h : j_X7_rule_18 post px G) : AW E X 4 18 [] [] G 1 6 := by
  have hP := F.P
  exact aw_thr F T 1 (by decide) 7 (by decide) rfl true (Nat.le_of_ble_eq_true rfl) (Nat.le_of_ble_eq_true rfl) (Nat.le_of_ble_eq_true rfl) (Nat.le_of_ble_eq_true rfl) h dX7_rule_18 dX7_rule_21 dX7_rule_22 dX7_rule_25 dX7_rule_28
set_option maxRecDepth 100000 in
set_option maxHeartbeats 4000000 in
theorem k_X7_rule {l : Launch} {E : Ev} {P : Nat → Prop} {sd : Nat → Nat → Nat} {G : GH} {post : Int32 → GH → Prop} {px : Nat → GH → Prop} {x1 x2 : Int32} (hl0 : l.stackTraces = false) (hPP : ∀ o, stt o = true → P o) (hPe : P = pS) (h : wp_X7_rule post px x1 x2 G) : CtX l yX7_rule cX7_rule 4 (some .int) 7 11 696 E P sd G [.ref (sd 0 0), .int x1, .int x2] (pI post) px := by
  refine ctx_of hl0 (own := "MarkField") (by decide) rfl (Nat.le_of_ble_eq_true rfl) hPP (fun X F T el eP es => ?_)
  subst el; subst eP; subst es
  have hP := F.P
  change AW E X 4 0 [(0, .ref (sdX X 0 0)), (1, .int x1), (2, .int x2)] [] G 0 0
  refine aw_il_n F 1 dX7_rule_0 rfl rfl ?_
  refine aw_ic F dX7_rule_1 ic_5 ?_
  refine aw_cSXv (stk := []) F T [.int x1, .int (5 : Int32)] (k_X7_needWhat T.tr hP h) ms_X7_needWhat w_780 rfl rfl (Nat.le_of_ble_eq_true rfl) ⟨(Nat.le_of_ble_eq_true rfl), (Nat.le_of_ble_eq_true rfl)⟩ ⟨(Nat.le_of_ble_eq_true rfl), (Nat.le_of_ble_eq_true rfl)⟩ ⟨rfl, rfl⟩ dX7_rule_2 (fun _ _ q => q) (fun G_1 h => ?_)
  refine aw_il_n F 2 dX7_rule_5 rfl rfl ?_
  refine aw_if_lt (tgt := 18) F dX7_rule_6 (by decide) (fun c_3 => ?_) (fun c_3 => ?_)
  · replace h := h.1 c_3
    refine aw_sub [] rfl ?_
    exact kj_X7_rule_18 F T hPe h
  · replace h := h.2 c_3
    refine aw_il_n F 2 dX7_rule_9 rfl rfl ?_
    refine aw_gst F 1 (by decide) w_1074 dX7_rule_10 ?_
    refine aw_il_n F 1 dX7_rule_13 rfl rfl ?_
    refine aw_sald F 1 (by decide) h.1 dX7_rule_14 ?_
    replace h := h.2
    refine aw_icmp_le (tgt := 29) F dX7_rule_15 (by decide) (fun c_4 => ?_) (fun c_4 => ?_)
    · replace h := h.1 c_4
      refine aw_al_n F 0 dX7_rule_29 rfl rfl ?_
      refine gr7_3 F (lo_s rfl) (hP _ rfl) rfl w_297 (hP 4 rfl) dX7_rule_30 ?_
      refine aw_al_n F 0 dX7_rule_33 rfl rfl ?_
      refine gr7_7 F (lo_s rfl) (hP _ rfl) rfl w_301 (hP 8 rfl) dX7_rule_34 ?_
      refine aw_cVAv (stk := []) F T.room [.ref (sdX X 8 0)] (k_X0_keep hP hPe rfl rfl h) mv_X0_keep w_1030 cf0 (lo_s rfl) (hP _ rfl) rfl (by decide) rfl rfl (Nat.le_of_ble_eq_true rfl) ⟨(Nat.le_of_ble_eq_true rfl), (Nat.le_of_ble_eq_true rfl)⟩ ⟨(Nat.le_of_ble_eq_true rfl), (Nat.le_of_ble_eq_true rfl)⟩ ⟨rfl, rfl⟩ dX7_rule_37 (fun G_5 h => ?_)
      refine aw_al_n F 0 dX7_rule_40 rfl rfl ?_
      refine aw_al_n F 0 dX7_rule_41 rfl rfl ?_
      refine gf7_12 F (lo_s rfl) (hP _ rfl) rfl w_306 dX7_rule_42 ?_
      refine aw_ic F dX7_rule_45 ic_1 ?_
      refine aw_max F T.room w_1076 w_670 w_16 w_671 (Nat.le_of_ble_eq_true rfl) (Nat.le_of_ble_eq_true rfl) ⟨(Nat.le_of_ble_eq_true rfl), (Nat.le_of_ble_eq_true rfl)⟩ dX7_rule_46 ?_
      refine pf7_12 F (lo_s rfl) (hP _ rfl) rfl w_306 dX7_rule_49 (fun G_7 eG_7 => ?_)
      replace h := h G_7 eG_7
      refine aw_al_n F 0 dX7_rule_52 rfl rfl ?_
      refine gr7_7 F (lo_s rfl) (hP _ rfl) rfl w_301 (hP 8 rfl) dX7_rule_53 ?_
      refine gr4_10 F (lo_s rfl) (hP _ rfl) rfl w_118 (hP _ rfl) dX7_rule_56 ?_
      refine aw_il_n F 1 dX7_rule_59 rfl rfl ?_
      refine aw_iald F 8 11 (lo_s rfl) (hP _ rfl) rfl h.1 dX7_rule_60 ?_
      replace h := h.2
      refine aw_top (fun y_8 ey_8 => ?_)
      replace h := h y_8 ey_8
      refine aw_is_n (lv1 := [(3, .int y_8), (0, .ref (sdX X 0 0)), (1, .int x1), (2, .int x2)]) F dX7_rule_61 rfl (by decide) rfl ?_
      refine aw_al_n F 1 dX7_rule_62 rfl rfl ?_
      refine gr7_7 F (lo_s rfl) (hP _ rfl) rfl w_301 (hP 8 rfl) dX7_rule_63 ?_
      refine gr4_10 F (lo_s rfl) (hP _ rfl) rfl w_118 (hP _ rfl) dX7_rule_66 ?_
      refine aw_il_n F 2 dX7_rule_69 rfl rfl ?_
      refine aw_il_n F 3 dX7_rule_70 rfl rfl ?_
      refine aw_iast F 8 11 (lo_s rfl) (hP _ rfl) rfl h.1 dX7_rule_71 ?_
      refine aw_nG (fun G_9 eG_9 => ?_)
      replace h := h.2 G_9 eG_9
      refine aw_il_n F 0 dX7_rule_72 rfl rfl ?_
      exact aw_iretX F T (Nat.le_of_ble_eq_true rfl) (Nat.le_of_ble_eq_true rfl) ⟨_, rfl, h⟩ dX7_rule_73
    · replace h := h.2 c_4
      refine aw_sub [] rfl ?_
      exact kj_X7_rule_18 F T hPe h
-- X7_near (height 6)
def j_X7_near_19 (post : Bool → GH → Prop) (px : Nat → GH → Prop) (G : GH) : Prop :=
  px 0 G
def wp_X7_near (post : Bool → GH → Prop) (px : Nat → GH → Prop) (x1 x2 x3 : Int32) (G : GH) : Prop :=
  wp_X7_isClass (fun (b_2 : Bool) (G_1 : GH) => ((b_2 = false → j_X7_near_19 post px G_1) ∧ (b_2 = true → wp_X7_isClass (fun (b_5 : Bool) (G_4 : GH) => ((b_5 = false → j_X7_near_19 post px G_4) ∧ (b_5 = true → ((x1 = x2 → j_X7_near_19 post px G_4) ∧ (¬ x1 = x2 → wp_X0_keep (fun (G_8 : GH) => (∀ G_10 : GH, G_10 = gs G_8 0 0 (upd (G_8 0 0) 12 (imax (G_8 0 0 12) (2 : Int32))) → wp_X7_setCouple (fun (b_12 : Bool) (G_11 : GH) => post b_12 G_11) 8 10 10 x1 x2 x3 G_10)) 8 G_4))))) x2 G_1))) x1 G
set_option maxRecDepth 100000 in
set_option maxHeartbeats 4000000 in
theorem kj_X7_near_19 {E : Ev} {X : Cx} {post : Bool → GH → Prop} {px : Nat → GH → Prop} {G : GH} (F : Fx E X "MarkField" cX7_near 4) (T : RTX E X 6 10 690 (some .boolean) (pB post) px) (hPe : PX X = pS) (h : j_X7_near_19 post px G) : AW E X 4 19 [] [] G 0 0 := by
  have hP := F.P
  exact aw_thr F T 0 (by decide) 4 (by decide) rfl false (Nat.le_of_ble_eq_true rfl) (Nat.le_of_ble_eq_true rfl) (Nat.le_of_ble_eq_true rfl) (Nat.le_of_ble_eq_true rfl) h dX7_near_19 dX7_near_22 dX7_near_23 dX7_near_25 dX7_near_28
set_option maxRecDepth 100000 in
set_option maxHeartbeats 4000000 in
theorem k_X7_near {l : Launch} {E : Ev} {P : Nat → Prop} {sd : Nat → Nat → Nat} {G : GH} {post : Bool → GH → Prop} {px : Nat → GH → Prop} {x1 x2 x3 : Int32} (hl0 : l.stackTraces = false) (hPP : ∀ o, stt o = true → P o) (hPe : P = pS) (h : wp_X7_near post px x1 x2 x3 G) : CtX l yX7_near cX7_near 4 (some .boolean) 6 10 690 E P sd G [.ref (sd 0 0), .int x1, .int x2, .int x3] (pB post) px := by
  refine ctx_of hl0 (own := "MarkField") (by decide) rfl (Nat.le_of_ble_eq_true rfl) hPP (fun X F T el eP es => ?_)
  subst el; subst eP; subst es
  have hP := F.P
  change AW E X 4 0 [(0, .ref (sdX X 0 0)), (1, .int x1), (2, .int x2), (3, .int x3)] [] G 0 0
  refine aw_il_n F 1 dX7_near_0 rfl rfl ?_
  refine aw_cSb (stk := []) F T.room [.int x1] (k_X7_isClass hP h) ms_X7_isClass w_807 rfl rfl (Nat.le_of_ble_eq_true rfl) ⟨(Nat.le_of_ble_eq_true rfl), (Nat.le_of_ble_eq_true rfl)⟩ ⟨(Nat.le_of_ble_eq_true rfl), (Nat.le_of_ble_eq_true rfl)⟩ dX7_near_1 (fun b_2 G_1 h => ?_)
  refine aw_if_eq (tgt := 19) F dX7_near_4 (by decide) (fun c_3 => ?_) (fun c_3 => ?_)
  · replace h := h.1 (bI_2 c_3)
    refine aw_sub [] rfl ?_
    exact kj_X7_near_19 F T hPe h
  · replace h := h.2 (bI_1 c_3)
    refine aw_il_n F 2 dX7_near_7 rfl rfl ?_
    refine aw_cSb (stk := []) F T.room [.int x2] (k_X7_isClass hP h) ms_X7_isClass w_807 rfl rfl (Nat.le_of_ble_eq_true rfl) ⟨(Nat.le_of_ble_eq_true rfl), (Nat.le_of_ble_eq_true rfl)⟩ ⟨(Nat.le_of_ble_eq_true rfl), (Nat.le_of_ble_eq_true rfl)⟩ dX7_near_8 (fun b_5 G_4 h => ?_)
    refine aw_if_eq (tgt := 19) F dX7_near_11 (by decide) (fun c_6 => ?_) (fun c_6 => ?_)
    · replace h := h.1 (bI_2 c_6)
      refine aw_sub [] rfl ?_
      exact kj_X7_near_19 F T hPe h
    · replace h := h.2 (bI_1 c_6)
      refine aw_il_n F 1 dX7_near_14 rfl rfl ?_
      refine aw_il_n F 2 dX7_near_15 rfl rfl ?_
      refine aw_icmp_ne (tgt := 29) F dX7_near_16 (by decide) (fun c_7 => ?_) (fun c_7 => ?_)
      · replace h := h.2 c_7
        refine aw_al_n F 0 dX7_near_29 rfl rfl ?_
        refine gr7_3 F (lo_s rfl) (hP _ rfl) rfl w_297 (hP 4 rfl) dX7_near_30 ?_
        refine aw_al_n F 0 dX7_near_33 rfl rfl ?_
        refine gr7_7 F (lo_s rfl) (hP _ rfl) rfl w_301 (hP 8 rfl) dX7_near_34 ?_
        refine aw_cVAv (stk := []) F T.room [.ref (sdX X 8 0)] (k_X0_keep hP hPe rfl rfl h) mv_X0_keep w_1030 cf0 (lo_s rfl) (hP _ rfl) rfl (by decide) rfl rfl (Nat.le_of_ble_eq_true rfl) ⟨(Nat.le_of_ble_eq_true rfl), (Nat.le_of_ble_eq_true rfl)⟩ ⟨(Nat.le_of_ble_eq_true rfl), (Nat.le_of_ble_eq_true rfl)⟩ ⟨rfl, rfl⟩ dX7_near_37 (fun G_8 h => ?_)
        refine aw_al_n F 0 dX7_near_40 rfl rfl ?_
        refine aw_al_n F 0 dX7_near_41 rfl rfl ?_
        refine gf7_12 F (lo_s rfl) (hP _ rfl) rfl w_306 dX7_near_42 ?_
        refine aw_ic F dX7_near_45 ic_2 ?_
        refine aw_max F T.room w_1076 w_670 w_16 w_671 (Nat.le_of_ble_eq_true rfl) (Nat.le_of_ble_eq_true rfl) ⟨(Nat.le_of_ble_eq_true rfl), (Nat.le_of_ble_eq_true rfl)⟩ dX7_near_46 ?_
        refine pf7_12 F (lo_s rfl) (hP _ rfl) rfl w_306 dX7_near_49 (fun G_10 eG_10 => ?_)
        replace h := h G_10 eG_10
        refine aw_al_n F 0 dX7_near_52 rfl rfl ?_
        refine gr7_7 F (lo_s rfl) (hP _ rfl) rfl w_301 (hP 8 rfl) dX7_near_53 ?_
        refine gr4_9 F (lo_s rfl) (hP _ rfl) rfl w_115 (hP _ rfl) dX7_near_56 ?_
        refine aw_il_n F 1 dX7_near_59 rfl rfl ?_
        refine aw_il_n F 2 dX7_near_60 rfl rfl ?_
        refine aw_il_n F 3 dX7_near_61 rfl rfl ?_
        refine aw_cSb (stk := []) F T.room [.ref (sdX X 8 10), .int x1, .int x2, .int x3] (k_X7_setCouple hP rfl rfl h) ms_X7_setCouple w_1052 rfl rfl (Nat.le_of_ble_eq_true rfl) ⟨(Nat.le_of_ble_eq_true rfl), (Nat.le_of_ble_eq_true rfl)⟩ ⟨(Nat.le_of_ble_eq_true rfl), (Nat.le_of_ble_eq_true rfl)⟩ dX7_near_62 (fun b_12 G_11 h => ?_)
        exact aw_zretX F T b_12 rfl (Nat.le_of_ble_eq_true rfl) (Nat.le_of_ble_eq_true rfl) ⟨_, rfl, h⟩ dX7_near_65
      · replace h := h.1 c_7
        refine aw_sub [] rfl ?_
        exact kj_X7_near_19 F T hPe h
-- X7_undo (height 4)
def wp_X7_undo (post : Int32 → GH → Prop) (G : GH) : Prop :=
  (((G 4 0 2) = 0 → post (-1 : Int32) G) ∧ (¬ (G 4 0 2) = 0 → wp_X0_takeBack (fun (G_2 : GH) => (∀ G_4 : GH, G_4 = gs G_2 0 0 (upd (G_2 0 0) 12 (3 : Int32)) → post (G_4 4 0 2) G_4)) 8 G))
set_option maxRecDepth 100000 in
set_option maxHeartbeats 4000000 in
theorem k_X7_undo {l : Launch} {E : Ev} {P : Nat → Prop} {sd : Nat → Nat → Nat} {G : GH} {post : Int32 → GH → Prop} (hPP : ∀ o, stt o = true → P o) (h : wp_X7_undo post G) : Ct l yX7_undo cX7_undo 1 (some .int) 4 0 0 E P sd G [.ref (sd 0 0)] (pI post) := by
  refine ct_of (own := "MarkField") (by decide) rfl (Nat.le_of_ble_eq_true rfl) hPP (fun X F T el eP es => ?_)
  subst el; subst eP; subst es
  have hP := F.P
  change AW E X 1 0 [(0, .ref (sdX X 0 0))] [] G 0 0
  refine aw_al_n F 0 dX7_undo_0 rfl rfl ?_
  refine gr7_3 F (lo_s rfl) (hP _ rfl) rfl w_297 (hP 4 rfl) dX7_undo_1 ?_
  refine gf0_2 F (lo_s rfl) (hP _ rfl) rfl w_156 dX7_undo_4 ?_
  refine aw_if_ne (tgt := 12) F dX7_undo_7 (by decide) (fun c_1 => ?_) (fun c_1 => ?_)
  · replace h := h.2 c_1
    refine aw_al_n F 0 dX7_undo_12 rfl rfl ?_
    refine gr7_3 F (lo_s rfl) (hP _ rfl) rfl w_297 (hP 4 rfl) dX7_undo_13 ?_
    refine aw_al_n F 0 dX7_undo_16 rfl rfl ?_
    refine gr7_7 F (lo_s rfl) (hP _ rfl) rfl w_301 (hP 8 rfl) dX7_undo_17 ?_
    refine aw_cVv (stk := []) F T.room [.ref (sdX X 8 0)] (k_X0_takeBack hP rfl rfl h) mv_X0_takeBack w_350 cf0 (lo_s rfl) (hP _ rfl) rfl (by decide) rfl rfl (Nat.le_of_ble_eq_true rfl) ⟨(Nat.le_of_ble_eq_true rfl), (Nat.le_of_ble_eq_true rfl)⟩ ⟨(Nat.le_of_ble_eq_true rfl), (Nat.le_of_ble_eq_true rfl)⟩ dX7_undo_20 (fun G_2 h => ?_)
    refine aw_al_n F 0 dX7_undo_23 rfl rfl ?_
    refine aw_ic F dX7_undo_24 ic_3 ?_
    refine pf7_12 F (lo_s rfl) (hP _ rfl) rfl w_306 dX7_undo_25 (fun G_4 eG_4 => ?_)
    replace h := h G_4 eG_4
    refine aw_al_n F 0 dX7_undo_28 rfl rfl ?_
    refine gr7_3 F (lo_s rfl) (hP _ rfl) rfl w_297 (hP 4 rfl) dX7_undo_29 ?_
    refine gf0_2 F (lo_s rfl) (hP _ rfl) rfl w_156 dX7_undo_32 ?_
    exact aw_iret F T (Nat.le_of_ble_eq_true rfl) (Nat.le_of_ble_eq_true rfl) ⟨_, rfl, h⟩ dX7_undo_35
  · replace h := h.1 c_1
    refine aw_ic F dX7_undo_10 ic_m1 ?_
    exact aw_iret F T (Nat.le_of_ble_eq_true rfl) (Nat.le_of_ble_eq_true rfl) ⟨_, rfl, h⟩ dX7_undo_11
