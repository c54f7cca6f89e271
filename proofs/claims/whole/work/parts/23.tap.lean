theorem bi_24 : (Int8.ofInt (24)).toInt32 = (24 : Int32) := by decide
theorem si_700 : (Int16.ofInt (700)).toInt32 = (700 : Int32) := by decide
theorem in_m8 (x : Int32) : x + Int32.ofInt (-8) = x + (-8 : Int32) := by rw [show Int32.ofInt (-8) = (-8 : Int32) by decide]
theorem bi_122 : (Int8.ofInt (122)).toInt32 = (122 : Int32) := by decide
theorem bi_48 : (Int8.ofInt (48)).toInt32 = (48 : Int32) := by decide
theorem bi_57 : (Int8.ofInt (57)).toInt32 = (57 : Int32) := by decide
theorem w_40 : (Jvm.Cond.fieldLink "MarkField$Tape" (15 : Nat) "MarkField$Tape" "size" "I") ∈ tb := tb_of (List.mem_of_getElem? (i := 40) (by decide +kernel)) rfl
theorem w_37 : (Jvm.Cond.fieldLink "MarkField$Tape" (9 : Nat) "MarkField$Tape" "bytes" "[B") ∈ tb := tb_of (List.mem_of_getElem? (i := 37) (by decide +kernel)) rfl
theorem w_51 : (Jvm.Cond.fieldLink "MarkField$Tape" (28 : Nat) "MarkField$Tape" "behind" "I") ∈ tb := tb_of (List.mem_of_getElem? (i := 51) (by decide +kernel)) rfl
theorem w_45 : (Jvm.Cond.fieldLink "MarkField$Tape" (22 : Nat) "MarkField$Tape" "start" "I") ∈ tb := tb_of (List.mem_of_getElem? (i := 45) (by decide +kernel)) rfl
theorem w_52 : (Jvm.Cond.fieldLink "MarkField$Tape" (31 : Nat) "MarkField$Tape" "textEnd" "I") ∈ tb := tb_of (List.mem_of_getElem? (i := 52) (by decide +kernel)) rfl
theorem w_48 : (Jvm.Cond.fieldLink "MarkField$Tape" (25 : Nat) "MarkField$Tape" "value" "I") ∈ tb := tb_of (List.mem_of_getElem? (i := 48) (by decide +kernel)) rfl
theorem w_473 : (Jvm.Cond.code ({ cls := "MarkField$Tape", name := "isSmall", desc := "(B)Z" } : Jvm.MethodName) prog_8_method_7_code (1 : Nat) (Option.some Jvm.ClassFile.FieldType.boolean)) ∈ tb := tb_of (List.mem_of_getElem? (i := 473) (by decide +kernel)) rfl
theorem w_2 : (Jvm.Cond.initialized "MarkField$Tape") ∈ tb := tb_of (List.mem_of_getElem? (i := 2) (by decide +kernel)) rfl
theorem w_472 : (Jvm.Cond.static ({ cls := "MarkField$Tape", name := "isSmall", desc := "(B)Z" } : Jvm.MethodName)) ∈ tb := tb_of (List.mem_of_getElem? (i := 472) (by decide +kernel)) rfl
theorem w_471 : (Jvm.Cond.methodLink "MarkField$Tape" (37 : Nat) ({ cls := "MarkField$Tape", name := "isSmall", desc := "(B)Z" } : Jvm.MethodName)) ∈ tb := tb_of (List.mem_of_getElem? (i := 471) (by decide +kernel)) rfl
theorem w_476 : (Jvm.Cond.code ({ cls := "MarkField$Tape", name := "isFigure", desc := "(B)Z" } : Jvm.MethodName) prog_8_method_8_code (1 : Nat) (Option.some Jvm.ClassFile.FieldType.boolean)) ∈ tb := tb_of (List.mem_of_getElem? (i := 476) (by decide +kernel)) rfl
theorem w_475 : (Jvm.Cond.static ({ cls := "MarkField$Tape", name := "isFigure", desc := "(B)Z" } : Jvm.MethodName)) ∈ tb := tb_of (List.mem_of_getElem? (i := 475) (by decide +kernel)) rfl
theorem w_474 : (Jvm.Cond.methodLink "MarkField$Tape" (44 : Nat) ({ cls := "MarkField$Tape", name := "isFigure", desc := "(B)Z" } : Jvm.MethodName)) ∈ tb := tb_of (List.mem_of_getElem? (i := 474) (by decide +kernel)) rfl
theorem w_42 : (Jvm.Cond.fieldLink "MarkField$Tape" (19 : Nat) "MarkField$Tape" "kind" "I") ∈ tb := tb_of (List.mem_of_getElem? (i := 42) (by decide +kernel)) rfl
theorem w_477 : (Jvm.Cond.constant "MarkField$Tape" (47 : Nat) (100000 : Int32)) ∈ tb := tb_of (List.mem_of_getElem? (i := 477) (by decide +kernel)) rfl
theorem w_478 : (Jvm.Cond.methodLink "MarkField$Tape" (48 : Nat) ({ cls := "java/lang/Math", name := "min", desc := "(II)I" } : Jvm.MethodName)) ∈ tb := tb_of (List.mem_of_getElem? (i := 478) (by decide +kernel)) rfl
theorem w_470 : (Jvm.Cond.code ({ cls := "MarkField$Tape", name := "isBlank", desc := "(B)Z" } : Jvm.MethodName) prog_8_method_6_code (1 : Nat) (Option.some Jvm.ClassFile.FieldType.boolean)) ∈ tb := tb_of (List.mem_of_getElem? (i := 470) (by decide +kernel)) rfl
theorem w_469 : (Jvm.Cond.static ({ cls := "MarkField$Tape", name := "isBlank", desc := "(B)Z" } : Jvm.MethodName)) ∈ tb := tb_of (List.mem_of_getElem? (i := 469) (by decide +kernel)) rfl
theorem w_468 : (Jvm.Cond.methodLink "MarkField$Tape" (41 : Nat) ({ cls := "MarkField$Tape", name := "isBlank", desc := "(B)Z" } : Jvm.MethodName)) ∈ tb := tb_of (List.mem_of_getElem? (i := 468) (by decide +kernel)) rfl
theorem w_467 : (Jvm.Cond.code ({ cls := "MarkField$Tape", name := "advance", desc := "()V" } : Jvm.MethodName) prog_8_method_5_code (1 : Nat) (Option.none : Option Jvm.ClassFile.FieldType)) ∈ tb := tb_of (List.mem_of_getElem? (i := 467) (by decide +kernel)) rfl
theorem w_465 : (Jvm.Cond.instanceMethod ({ cls := "MarkField$Tape", name := "advance", desc := "()V" } : Jvm.MethodName)) ∈ tb := tb_of (List.mem_of_getElem? (i := 465) (by decide +kernel)) rfl
theorem w_466 : (Jvm.Cond.selects "MarkField$Tape" ({ cls := "MarkField$Tape", name := "advance", desc := "()V" } : Jvm.MethodName) ({ cls := "MarkField$Tape", name := "advance", desc := "()V" } : Jvm.MethodName)) ∈ tb := tb_of (List.mem_of_getElem? (i := 466) (by decide +kernel)) rfl
theorem w_464 : (Jvm.Cond.methodLink "MarkField$Tape" (34 : Nat) ({ cls := "MarkField$Tape", name := "advance", desc := "()V" } : Jvm.MethodName)) ∈ tb := tb_of (List.mem_of_getElem? (i := 464) (by decide +kernel)) rfl
theorem w_490 : (Jvm.Cond.methodLink "MarkField$Tape" (54 : Nat) ({ cls := "java/lang/String", name := "length", desc := "()I" } : Jvm.MethodName)) ∈ tb := tb_of (List.mem_of_getElem? (i := 490) (by decide +kernel)) rfl
theorem w_500 : (Jvm.Cond.methodLink "MarkField$Tape" (60 : Nat) ({ cls := "java/lang/String", name := "charAt", desc := "(I)C" } : Jvm.MethodName)) ∈ tb := tb_of (List.mem_of_getElem? (i := 500) (by decide +kernel)) rfl
theorem ms_X6_isSmall : MS yX6_isSmall cX6_isSmall 1 (some .boolean) 1 := ⟨⟨w_473, w_2, by decide, by decide, by decide +kernel⟩, w_472⟩
theorem ms_X6_isFigure : MS yX6_isFigure cX6_isFigure 1 (some .boolean) 1 := ⟨⟨w_476, w_2, by decide, by decide, by decide +kernel⟩, w_475⟩
theorem ms_X6_isBlank : MS yX6_isBlank cX6_isBlank 1 (some .boolean) 1 := ⟨⟨w_470, w_2, by decide, by decide, by decide +kernel⟩, w_469⟩
theorem mv_X6_advance : MV yX6_advance cX6_advance 1 none 0 := ⟨⟨w_467, w_2, by decide, by decide, by decide +kernel⟩, w_465, w_466⟩
-- X6_append (height 0)
def lb_X6_append_3 (post : GH → Prop) (P3 : Int32 → Int32 → GH → Prop) (v1 v2 : Int32) (G : GH) : Prop :=
  ((v2 < 0 → post G) ∧ (¬ v2 < 0 → (((700 : Int32) ≤ (G 1 0 1) → post G) ∧ (¬ (700 : Int32) ≤ (G 1 0 1) → (vp_in (G 1 0 1) 700 ∧ (∀ G_3 : GH, G_3 = gs G 1 1 (upd (G 1 1) (G 1 0 1).toNatClampNeg (nb (v1 >>> (v2 &&& 31)))) → (∀ G_4 : GH, G_4 = gs G_3 1 0 (upd (G_3 1 0) 1 ((G_3 1 0 1) + (1 : Int32))) → P3 v1 (v2 + (-8 : Int32)) G_4)))))))
def lp_X6_append_3 (post : GH → Prop) (v1 v2 : Int32) (G : GH) : Prop := ∀ P3 : Int32 → Int32 → GH → Prop, (∀ (v1 v2 : Int32) (G : GH), lb_X6_append_3 post P3 v1 v2 G → P3 v1 v2 G) → P3 v1 v2 G
def wp_X6_append (post : GH → Prop) (x1 : Int32) (G : GH) : Prop :=
  lp_X6_append_3 post x1 (24 : Int32) G
set_option maxRecDepth 100000 in
set_option maxHeartbeats 4000000 in
theorem kl_X6_append_3 {E : Ev} {X : Cx} {post : GH → Prop} {v1 v2 : Int32} {G : GH} (F : Fx E X "MarkField$Tape" cX6_append 3) (T : RT E X 0 0 0 none (pV post)) (h : lp_X6_append_3 post v1 v2 G) : AW E X 3 3 [(0, .ref (sdX X 1 0)), (1, .int v1), (2, .int v2)] [] G 0 0 := by
  have hP := F.P
  have K3 : ∀ (v1 v2 : Int32) (G : GH), AW E X 3 3 [(0, .ref (sdX X 1 0)), (1, .int v1), (2, .int v2)] [] G 0 0 → AW E X 3 3 [(0, .ref (sdX X 1 0)), (1, .int v1), (2, .int v2)] [] G 0 0 := fun _ _ _ q => q
  refine h (fun (v1 v2 : Int32) (G : GH) => AW E X 3 3 [(0, .ref (sdX X 1 0)), (1, .int v1), (2, .int v2)] [] G 0 0) (fun (v1 v2 : Int32) (G : GH) h => ?_)
  refine aw_il_n F 2 dX6_append_3 rfl rfl ?_
  refine aw_if_lt (tgt := 46) F dX6_append_4 (by decide) (fun c_1 => ?_) (fun c_1 => ?_)
  · replace h := h.1 c_1
    exact aw_vret F T (Nat.le_of_ble_eq_true rfl) (Nat.le_of_ble_eq_true rfl) ⟨rfl, h⟩ dX6_append_46
  · replace h := h.2 c_1
    refine aw_al_n F 0 dX6_append_7 rfl rfl ?_
    refine gf6_1 F (lo_s rfl) (hP _ rfl) rfl w_40 dX6_append_8 ?_
    refine aw_si F dX6_append_11 si_700 ?_
    refine aw_icmp_ge (tgt := 46) F dX6_append_14 (by decide) (fun c_2 => ?_) (fun c_2 => ?_)
    · replace h := h.1 c_2
      exact aw_vret F T (Nat.le_of_ble_eq_true rfl) (Nat.le_of_ble_eq_true rfl) ⟨rfl, h⟩ dX6_append_46
    · replace h := h.2 c_2
      refine aw_al_n F 0 dX6_append_17 rfl rfl ?_
      refine gr6_0 F (lo_s rfl) (hP _ rfl) rfl w_37 (hP _ rfl) dX6_append_18 ?_
      refine aw_al_n F 0 dX6_append_21 rfl rfl ?_
      refine gf6_1 F (lo_s rfl) (hP _ rfl) rfl w_40 dX6_append_22 ?_
      refine aw_il_n F 1 dX6_append_25 rfl rfl ?_
      refine aw_il_n F 2 dX6_append_26 rfl rfl ?_
      refine aw_ishr F dX6_append_27 ?_
      refine aw_i2b F dX6_append_28 ?_
      refine aw_bast F 1 1 (lo_s rfl) (hP _ rfl) rfl h.1 dX6_append_29 ?_
      refine aw_nG (fun G_3 eG_3 => ?_)
      replace h := h.2 G_3 eG_3
      refine aw_al_n F 0 dX6_append_30 rfl rfl ?_
      refine aw_dup F dX6_append_31 rfl ?_
      refine gf6_1 F (lo_s rfl) (hP _ rfl) rfl w_40 dX6_append_32 ?_
      refine aw_ic F dX6_append_35 ic_1 ?_
      refine aw_iadd F dX6_append_36 ?_
      refine pf6_1 F (lo_s rfl) (hP _ rfl) rfl w_40 dX6_append_37 (fun G_4 eG_4 => ?_)
      replace h := h G_4 eG_4
      refine aw_inc (lv1 := [(2, .int (v2 + (-8 : Int32))), (0, .ref (sdX X 1 0)), (1, .int v1)]) F 2 dX6_append_40 rfl (in_m8 _) (by decide) rfl ?_
      refine aw_go (tgt := 3) F dX6_append_43 (by decide) ?_
      refine aw_sub [1, 2, 0] rfl ?_
      exact K3 _ _ _ h
set_option maxRecDepth 100000 in
set_option maxHeartbeats 4000000 in
theorem k_X6_append {l : Launch} {E : Ev} {P : Nat → Prop} {sd : Nat → Nat → Nat} {G : GH} {post : GH → Prop} {x1 : Int32} (hPP : ∀ o, stt o = true → P o) (h : wp_X6_append post x1 G) : Ct l yX6_append cX6_append 3 none 0 0 0 E P sd G [.ref (sd 1 0), .int x1] (pV post) := by
  refine ct_of (own := "MarkField$Tape") (by decide) rfl (Nat.le_of_ble_eq_true rfl) hPP (fun X F T el eP es => ?_)
  subst el; subst eP; subst es
  have hP := F.P
  change AW E X 3 0 [(0, .ref (sdX X 1 0)), (1, .int x1)] [] G 0 0
  refine aw_bi F dX6_append_0 bi_24 ?_
  refine aw_is_n (lv1 := [(2, .int (24 : Int32)), (0, .ref (sdX X 1 0)), (1, .int x1)]) F dX6_append_2 rfl (by decide) rfl ?_
  refine aw_sub [1, 2, 0] rfl ?_
  exact kl_X6_append_3 F T h
-- X6_isBlank (height 0)
def j_X6_isBlank_12 (post : Bool → GH → Prop) (G : GH) : Prop :=
  post true G
def wp_X6_isBlank (post : Bool → GH → Prop) (x0 : Int32) (G : GH) : Prop :=
  ((x0 = (32 : Int32) → j_X6_isBlank_12 post G) ∧ (¬ x0 = (32 : Int32) → ((x0 = (10 : Int32) → j_X6_isBlank_12 post G) ∧ (¬ x0 = (10 : Int32) → post false G))))
set_option maxRecDepth 100000 in
set_option maxHeartbeats 4000000 in
theorem kj_X6_isBlank_12 {E : Ev} {X : Cx} {post : Bool → GH → Prop} {G : GH} (F : Fx E X "MarkField$Tape" cX6_isBlank 1) (T : RT E X 0 0 0 (some .boolean) (pB post)) (h : j_X6_isBlank_12 post G) : AW E X 1 12 [] [] G 0 0 := by
  have hP := F.P
  refine aw_ic F dX6_isBlank_12 ic_1 ?_
  refine aw_go (tgt := 17) F dX6_isBlank_13 (by decide) ?_
  exact aw_zret F T true rfl (Nat.le_of_ble_eq_true rfl) (Nat.le_of_ble_eq_true rfl) ⟨_, rfl, h⟩ dX6_isBlank_17
set_option maxRecDepth 100000 in
set_option maxHeartbeats 4000000 in
theorem k_X6_isBlank {l : Launch} {E : Ev} {P : Nat → Prop} {sd : Nat → Nat → Nat} {G : GH} {post : Bool → GH → Prop} {x0 : Int32} (hPP : ∀ o, stt o = true → P o) (h : wp_X6_isBlank post x0 G) : Ct l yX6_isBlank cX6_isBlank 1 (some .boolean) 0 0 0 E P sd G [.int x0] (pB post) := by
  refine ct_of (own := "MarkField$Tape") (by decide) rfl (Nat.le_of_ble_eq_true rfl) hPP (fun X F T el eP es => ?_)
  subst el; subst eP; subst es
  have hP := F.P
  change AW E X 1 0 [(0, .int x0)] [] G 0 0
  refine aw_il_n F 0 dX6_isBlank_0 rfl rfl ?_
  refine aw_bi F dX6_isBlank_1 bi_32 ?_
  refine aw_icmp_eq (tgt := 12) F dX6_isBlank_3 (by decide) (fun c_1 => ?_) (fun c_1 => ?_)
  · replace h := h.1 c_1
    refine aw_sub [] rfl ?_
    exact kj_X6_isBlank_12 F T h
  · replace h := h.2 c_1
    refine aw_il_n F 0 dX6_isBlank_6 rfl rfl ?_
    refine aw_bi F dX6_isBlank_7 bi_10 ?_
    refine aw_icmp_ne (tgt := 16) F dX6_isBlank_9 (by decide) (fun c_2 => ?_) (fun c_2 => ?_)
    · replace h := h.2 c_2
      refine aw_ic F dX6_isBlank_16 ic_0 ?_
      exact aw_zret F T false rfl (Nat.le_of_ble_eq_true rfl) (Nat.le_of_ble_eq_true rfl) ⟨_, rfl, h⟩ dX6_isBlank_17
    · replace h := h.1 c_2
      refine aw_sub [] rfl ?_
      exact kj_X6_isBlank_12 F T h
-- X6_isSmall (height 0)
def wp_X6_isSmall (post : Bool → GH → Prop) (x0 : Int32) (G : GH) : Prop :=
  ((x0 < (97 : Int32) → post false G) ∧ (¬ x0 < (97 : Int32) → (((122 : Int32) < x0 → post false G) ∧ (¬ (122 : Int32) < x0 → post true G))))
set_option maxRecDepth 100000 in
set_option maxHeartbeats 4000000 in
theorem k_X6_isSmall {l : Launch} {E : Ev} {P : Nat → Prop} {sd : Nat → Nat → Nat} {G : GH} {post : Bool → GH → Prop} {x0 : Int32} (hPP : ∀ o, stt o = true → P o) (h : wp_X6_isSmall post x0 G) : Ct l yX6_isSmall cX6_isSmall 1 (some .boolean) 0 0 0 E P sd G [.int x0] (pB post) := by
  refine ct_of (own := "MarkField$Tape") (by decide) rfl (Nat.le_of_ble_eq_true rfl) hPP (fun X F T el eP es => ?_)
  subst el; subst eP; subst es
  have hP := F.P
  change AW E X 1 0 [(0, .int x0)] [] G 0 0
  refine aw_il_n F 0 dX6_isSmall_0 rfl rfl ?_
  refine aw_bi F dX6_isSmall_1 bi_97 ?_
  refine aw_icmp_lt (tgt := 16) F dX6_isSmall_3 (by decide) (fun c_1 => ?_) (fun c_1 => ?_)
  · replace h := h.1 c_1
    refine aw_ic F dX6_isSmall_16 ic_0 ?_
    exact aw_zret F T false rfl (Nat.le_of_ble_eq_true rfl) (Nat.le_of_ble_eq_true rfl) ⟨_, rfl, h⟩ dX6_isSmall_17
  · replace h := h.2 c_1
    refine aw_il_n F 0 dX6_isSmall_6 rfl rfl ?_
    refine aw_bi F dX6_isSmall_7 bi_122 ?_
    refine aw_icmp_gt (tgt := 16) F dX6_isSmall_9 (by decide) (fun c_2 => ?_) (fun c_2 => ?_)
    · replace h := h.1 c_2
      refine aw_ic F dX6_isSmall_16 ic_0 ?_
      exact aw_zret F T false rfl (Nat.le_of_ble_eq_true rfl) (Nat.le_of_ble_eq_true rfl) ⟨_, rfl, h⟩ dX6_isSmall_17
    · replace h := h.2 c_2
      refine aw_ic F dX6_isSmall_12 ic_1 ?_
      refine aw_go (tgt := 17) F dX6_isSmall_13 (by decide) ?_
      exact aw_zret F T true rfl (Nat.le_of_ble_eq_true rfl) (Nat.le_of_ble_eq_true rfl) ⟨_, rfl, h⟩ dX6_isSmall_17
-- X6_isFigure (height 0)
def wp_X6_isFigure (post : Bool → GH → Prop) (x0 : Int32) (G : GH) : Prop :=
  ((x0 < (48 : Int32) → post false G) ∧ (¬ x0 < (48 : Int32) → (((57 : Int32) < x0 → post false G) ∧ (¬ (57 : Int32) < x0 → post true G))))
set_option maxRecDepth 100000 in
set_option maxHeartbeats 4000000 in
theorem k_X6_isFigure {l : Launch} {E : Ev} {P : Nat → Prop} {sd : Nat → Nat → Nat} {G : GH} {post : Bool → GH → Prop} {x0 : Int32} (hPP : ∀ o, stt o = true → P o) (h : wp_X6_isFigure post x0 G) : Ct l yX6_isFigure cX6_isFigure 1 (some .boolean) 0 0 0 E P sd G [.int x0] (pB post) := by
  refine ct_of (own := "MarkField$Tape") (by decide) rfl (Nat.le_of_ble_eq_true rfl) hPP (fun X F T el eP es => ?_)
  subst el; subst eP; subst es
  have hP := F.P
  change AW E X 1 0 [(0, .int x0)] [] G 0 0
  refine aw_il_n F 0 dX6_isFigure_0 rfl rfl ?_
  refine aw_bi F dX6_isFigure_1 bi_48 ?_
  refine aw_icmp_lt (tgt := 16) F dX6_isFigure_3 (by decide) (fun c_1 => ?_) (fun c_1 => ?_)
  · replace h := h.1 c_1
    refine aw_ic F dX6_isFigure_16 ic_0 ?_
    exact aw_zret F T false rfl (Nat.le_of_ble_eq_true rfl) (Nat.le_of_ble_eq_true rfl) ⟨_, rfl, h⟩ dX6_isFigure_17
  · replace h := h.2 c_1
    refine aw_il_n F 0 dX6_isFigure_6 rfl rfl ?_
    refine aw_bi F dX6_isFigure_7 bi_57 ?_
    refine aw_icmp_gt (tgt := 16) F dX6_isFigure_9 (by decide) (fun c_2 => ?_) (fun c_2 => ?_)
    · replace h := h.1 c_2
      refine aw_ic F dX6_isFigure_16 ic_0 ?_
      exact aw_zret F T false rfl (Nat.le_of_ble_eq_true rfl) (Nat.le_of_ble_eq_true rfl) ⟨_, rfl, h⟩ dX6_isFigure_17
    · replace h := h.2 c_2
      refine aw_ic F dX6_isFigure_12 ic_1 ?_
      refine aw_go (tgt := 17) F dX6_isFigure_13 (by decide) ?_
      exact aw_zret F T true rfl (Nat.le_of_ble_eq_true rfl) (Nat.le_of_ble_eq_true rfl) ⟨_, rfl, h⟩ dX6_isFigure_17
-- X6_advance (height 1)
def lb_X6_advance_158 (post : GH → Prop) (P158 : GH → Prop) (G : GH) : Prop :=
  (((G 1 0 6) ≤ (G 1 0 5) → post G) ∧ (¬ (G 1 0 6) ≤ (G 1 0 5) → (vp_in (G 1 0 5) 700 ∧ wp_X6_isFigure (fun (b_17 : Bool) (G_16 : GH) => ((b_17 = false → post G_16) ∧ (b_17 = true → (vp_in (G_16 1 0 5) 700 ∧ (∀ G_19 : GH, G_19 = gs G_16 1 0 (upd (G_16 1 0) 4 (imin (100000 : Int32) ((((10 : Int32) * (G_16 1 0 4)) + (nb (G_16 1 1 (G_16 1 0 5).toNatClampNeg))) - (48 : Int32)))) → (∀ G_20 : GH, G_20 = gs G_19 1 0 (upd (G_19 1 0) 5 ((G_19 1 0 5) + (1 : Int32))) → P158 G_20)))))) (nb (G 1 1 (G 1 0 5).toNatClampNeg)) G)))
def lp_X6_advance_158 (post : GH → Prop) (G : GH) : Prop := ∀ P158 : GH → Prop, (∀ (G : GH), lb_X6_advance_158 post P158 G → P158 G) → P158 G
def lb_X6_advance_99 (post : GH → Prop) (P99 : GH → Prop) (G : GH) : Prop :=
  (((G 1 0 6) ≤ (G 1 0 5) → post G) ∧ (¬ (G 1 0 6) ≤ (G 1 0 5) → (vp_in (G 1 0 5) 700 ∧ wp_X6_isSmall (fun (b_24 : Bool) (G_23 : GH) => ((b_24 = false → post G_23) ∧ (b_24 = true → (∀ G_26 : GH, G_26 = gs G_23 1 0 (upd (G_23 1 0) 5 ((G_23 1 0 5) + (1 : Int32))) → P99 G_26)))) (nb (G 1 1 (G 1 0 5).toNatClampNeg)) G)))
def lp_X6_advance_99 (post : GH → Prop) (G : GH) : Prop := ∀ P99 : GH → Prop, (∀ (G : GH), lb_X6_advance_99 post P99 G → P99 G) → P99 G
def j_X6_advance_47 (post : GH → Prop) (G : GH) : Prop :=
  (∀ G_3 : GH, G_3 = gs G 1 0 (upd (G 1 0) 5 (G 1 0 3)) → (∀ G_4 : GH, G_4 = gs G_3 1 0 (upd (G_3 1 0) 4 (0 : Int32)) → (((G_4 1 0 3) < (G_4 1 0 6) → (vp_in (G_4 1 0 3) 700 ∧ wp_X6_isSmall (fun (b_7 : Bool) (G_6 : GH) => ((b_7 = false → (vp_in (G_6 1 0 3) 700 ∧ wp_X6_isFigure (fun (b_10 : Bool) (G_9 : GH) => ((b_10 = false → (∀ G_12 : GH, G_12 = gs G_9 1 0 (upd (G_9 1 0) 2 (3 : Int32)) → (∀ G_13 : GH, G_13 = gs G_12 1 0 (upd (G_12 1 0) 5 ((G_12 1 0 5) + (1 : Int32))) → post G_13))) ∧ (b_10 = true → (∀ G_14 : GH, G_14 = gs G_9 1 0 (upd (G_9 1 0) 2 (2 : Int32)) → lp_X6_advance_158 post G_14)))) (nb (G_6 1 1 (G_6 1 0 3).toNatClampNeg)) G_6)) ∧ (b_7 = true → (∀ G_21 : GH, G_21 = gs G_6 1 0 (upd (G_6 1 0) 2 (1 : Int32)) → lp_X6_advance_99 post G_21)))) (nb (G_4 1 1 (G_4 1 0 3).toNatClampNeg)) G_4)) ∧ (¬ (G_4 1 0 3) < (G_4 1 0 6) → (∀ G_27 : GH, G_27 = gs G_4 1 0 (upd (G_4 1 0) 2 (0 : Int32)) → post G_27)))))
def lb_X6_advance_8 (post : GH → Prop) (P8 : GH → Prop) (G : GH) : Prop :=
  (((G 1 0 6) ≤ (G 1 0 3) → j_X6_advance_47 post G) ∧ (¬ (G 1 0 6) ≤ (G 1 0 3) → (vp_in (G 1 0 3) 700 ∧ wp_X6_isBlank (fun (b_29 : Bool) (G_28 : GH) => ((b_29 = false → j_X6_advance_47 post G_28) ∧ (b_29 = true → (∀ G_31 : GH, G_31 = gs G_28 1 0 (upd (G_28 1 0) 3 ((G_28 1 0 3) + (1 : Int32))) → P8 G_31)))) (nb (G 1 1 (G 1 0 3).toNatClampNeg)) G)))
def lp_X6_advance_8 (post : GH → Prop) (G : GH) : Prop := ∀ P8 : GH → Prop, (∀ (G : GH), lb_X6_advance_8 post P8 G → P8 G) → P8 G
def wp_X6_advance (post : GH → Prop) (G : GH) : Prop :=
  (∀ G_1 : GH, G_1 = gs G 1 0 (upd (G 1 0) 3 (G 1 0 5)) → lp_X6_advance_8 post G_1)
set_option maxRecDepth 100000 in
set_option maxHeartbeats 4000000 in
theorem kl_X6_advance_158 {E : Ev} {X : Cx} {post : GH → Prop} {G : GH} (F : Fx E X "MarkField$Tape" cX6_advance 1) (T : RT E X 1 0 0 none (pV post)) (h : lp_X6_advance_158 post G) : AW E X 1 158 [(0, .ref (sdX X 1 0))] [] G 0 0 := by
  have hP := F.P
  have K158 : ∀ (G : GH), AW E X 1 158 [(0, .ref (sdX X 1 0))] [] G 0 0 → AW E X 1 158 [(0, .ref (sdX X 1 0))] [] G 0 0 := fun _ q => q
  refine h (fun (G : GH) => AW E X 1 158 [(0, .ref (sdX X 1 0))] [] G 0 0) (fun (G : GH) h => ?_)
  refine aw_al_n F 0 dX6_advance_158 rfl rfl ?_
  refine gf6_5 F (lo_s rfl) (hP _ rfl) rfl w_51 dX6_advance_159 ?_
  refine aw_al_n F 0 dX6_advance_162 rfl rfl ?_
  refine gf6_6 F (lo_s rfl) (hP _ rfl) rfl w_52 dX6_advance_163 ?_
  refine aw_icmp_ge (tgt := 241) F dX6_advance_166 (by decide) (fun c_15 => ?_) (fun c_15 => ?_)
  · replace h := h.1 c_15
    exact aw_vret F T (Nat.le_of_ble_eq_true rfl) (Nat.le_of_ble_eq_true rfl) ⟨rfl, h⟩ dX6_advance_241
  · replace h := h.2 c_15
    refine aw_al_n F 0 dX6_advance_169 rfl rfl ?_
    refine gr6_0 F (lo_s rfl) (hP _ rfl) rfl w_37 (hP _ rfl) dX6_advance_170 ?_
    refine aw_al_n F 0 dX6_advance_173 rfl rfl ?_
    refine gf6_5 F (lo_s rfl) (hP _ rfl) rfl w_51 dX6_advance_174 ?_
    refine aw_bald F 1 1 (lo_s rfl) (hP _ rfl) rfl h.1 dX6_advance_177 ?_
    replace h := h.2
    refine aw_cSb (stk := []) F T.room [.int (nb (G 1 1 (G 1 0 5).toNatClampNeg))] (k_X6_isFigure hP h) ms_X6_isFigure w_474 rfl rfl (Nat.le_of_ble_eq_true rfl) ⟨(Nat.le_of_ble_eq_true rfl), (Nat.le_of_ble_eq_true rfl)⟩ ⟨(Nat.le_of_ble_eq_true rfl), (Nat.le_of_ble_eq_true rfl)⟩ dX6_advance_178 (fun b_17 G_16 h => ?_)
    refine aw_if_eq (tgt := 241) F dX6_advance_181 (by decide) (fun c_18 => ?_) (fun c_18 => ?_)
    · replace h := h.1 (bI_2 c_18)
      exact aw_vret F T (Nat.le_of_ble_eq_true rfl) (Nat.le_of_ble_eq_true rfl) ⟨rfl, h⟩ dX6_advance_241
    · replace h := h.2 (bI_1 c_18)
      refine aw_al_n F 0 dX6_advance_184 rfl rfl ?_
      refine aw_ldc F dX6_advance_185 w_477 ?_
      refine aw_bi F dX6_advance_187 bi_10 ?_
      refine aw_al_n F 0 dX6_advance_189 rfl rfl ?_
      refine gf6_4 F (lo_s rfl) (hP _ rfl) rfl w_48 dX6_advance_190 ?_
      refine aw_imul F dX6_advance_193 ?_
      refine aw_al_n F 0 dX6_advance_194 rfl rfl ?_
      refine gr6_0 F (lo_s rfl) (hP _ rfl) rfl w_37 (hP _ rfl) dX6_advance_195 ?_
      refine aw_al_n F 0 dX6_advance_198 rfl rfl ?_
      refine gf6_5 F (lo_s rfl) (hP _ rfl) rfl w_51 dX6_advance_199 ?_
      refine aw_bald F 1 1 (lo_s rfl) (hP _ rfl) rfl h.1 dX6_advance_202 ?_
      replace h := h.2
      refine aw_iadd F dX6_advance_203 ?_
      refine aw_bi F dX6_advance_204 bi_48 ?_
      refine aw_isub F dX6_advance_206 ?_
      refine aw_min F T.room w_478 w_479 w_16 w_480 (Nat.le_of_ble_eq_true rfl) (Nat.le_of_ble_eq_true rfl) ⟨(Nat.le_of_ble_eq_true rfl), (Nat.le_of_ble_eq_true rfl)⟩ dX6_advance_207 ?_
      refine pf6_4 F (lo_s rfl) (hP _ rfl) rfl w_48 dX6_advance_210 (fun G_19 eG_19 => ?_)
      replace h := h G_19 eG_19
      refine aw_al_n F 0 dX6_advance_213 rfl rfl ?_
      refine aw_dup F dX6_advance_214 rfl ?_
      refine gf6_5 F (lo_s rfl) (hP _ rfl) rfl w_51 dX6_advance_215 ?_
      refine aw_ic F dX6_advance_218 ic_1 ?_
      refine aw_iadd F dX6_advance_219 ?_
      refine pf6_5 F (lo_s rfl) (hP _ rfl) rfl w_51 dX6_advance_220 (fun G_20 eG_20 => ?_)
      replace h := h G_20 eG_20
      refine aw_go (tgt := 158) F dX6_advance_223 (by decide) ?_
      exact K158 _ h
set_option maxRecDepth 100000 in
set_option maxHeartbeats 4000000 in
theorem kl_X6_advance_99 {E : Ev} {X : Cx} {post : GH → Prop} {G : GH} (F : Fx E X "MarkField$Tape" cX6_advance 1) (T : RT E X 1 0 0 none (pV post)) (h : lp_X6_advance_99 post G) : AW E X 1 99 [(0, .ref (sdX X 1 0))] [] G 0 0 := by
  have hP := F.P
  have K99 : ∀ (G : GH), AW E X 1 99 [(0, .ref (sdX X 1 0))] [] G 0 0 → AW E X 1 99 [(0, .ref (sdX X 1 0))] [] G 0 0 := fun _ q => q
  refine h (fun (G : GH) => AW E X 1 99 [(0, .ref (sdX X 1 0))] [] G 0 0) (fun (G : GH) h => ?_)
  refine aw_al_n F 0 dX6_advance_99 rfl rfl ?_
  refine gf6_5 F (lo_s rfl) (hP _ rfl) rfl w_51 dX6_advance_100 ?_
  refine aw_al_n F 0 dX6_advance_103 rfl rfl ?_
  refine gf6_6 F (lo_s rfl) (hP _ rfl) rfl w_52 dX6_advance_104 ?_
  refine aw_icmp_ge (tgt := 241) F dX6_advance_107 (by decide) (fun c_22 => ?_) (fun c_22 => ?_)
  · replace h := h.1 c_22
    exact aw_vret F T (Nat.le_of_ble_eq_true rfl) (Nat.le_of_ble_eq_true rfl) ⟨rfl, h⟩ dX6_advance_241
  · replace h := h.2 c_22
    refine aw_al_n F 0 dX6_advance_110 rfl rfl ?_
    refine gr6_0 F (lo_s rfl) (hP _ rfl) rfl w_37 (hP _ rfl) dX6_advance_111 ?_
    refine aw_al_n F 0 dX6_advance_114 rfl rfl ?_
    refine gf6_5 F (lo_s rfl) (hP _ rfl) rfl w_51 dX6_advance_115 ?_
    refine aw_bald F 1 1 (lo_s rfl) (hP _ rfl) rfl h.1 dX6_advance_118 ?_
    replace h := h.2
    refine aw_cSb (stk := []) F T.room [.int (nb (G 1 1 (G 1 0 5).toNatClampNeg))] (k_X6_isSmall hP h) ms_X6_isSmall w_471 rfl rfl (Nat.le_of_ble_eq_true rfl) ⟨(Nat.le_of_ble_eq_true rfl), (Nat.le_of_ble_eq_true rfl)⟩ ⟨(Nat.le_of_ble_eq_true rfl), (Nat.le_of_ble_eq_true rfl)⟩ dX6_advance_119 (fun b_24 G_23 h => ?_)
    refine aw_if_eq (tgt := 241) F dX6_advance_122 (by decide) (fun c_25 => ?_) (fun c_25 => ?_)
    · replace h := h.1 (bI_2 c_25)
      exact aw_vret F T (Nat.le_of_ble_eq_true rfl) (Nat.le_of_ble_eq_true rfl) ⟨rfl, h⟩ dX6_advance_241
    · replace h := h.2 (bI_1 c_25)
      refine aw_al_n F 0 dX6_advance_125 rfl rfl ?_
      refine aw_dup F dX6_advance_126 rfl ?_
      refine gf6_5 F (lo_s rfl) (hP _ rfl) rfl w_51 dX6_advance_127 ?_
      refine aw_ic F dX6_advance_130 ic_1 ?_
      refine aw_iadd F dX6_advance_131 ?_
      refine pf6_5 F (lo_s rfl) (hP _ rfl) rfl w_51 dX6_advance_132 (fun G_26 eG_26 => ?_)
      replace h := h G_26 eG_26
      refine aw_go (tgt := 99) F dX6_advance_135 (by decide) ?_
      exact K99 _ h
set_option maxRecDepth 100000 in
set_option maxHeartbeats 4000000 in
theorem kj_X6_advance_47 {E : Ev} {X : Cx} {post : GH → Prop} {G : GH} (F : Fx E X "MarkField$Tape" cX6_advance 1) (T : RT E X 1 0 0 none (pV post)) (h : j_X6_advance_47 post G) : AW E X 1 47 [(0, .ref (sdX X 1 0))] [] G 0 0 := by
  have hP := F.P
  refine aw_al_n F 0 dX6_advance_47 rfl rfl ?_
  refine aw_al_n F 0 dX6_advance_48 rfl rfl ?_
  refine gf6_3 F (lo_s rfl) (hP _ rfl) rfl w_45 dX6_advance_49 ?_
  refine pf6_5 F (lo_s rfl) (hP _ rfl) rfl w_51 dX6_advance_52 (fun G_3 eG_3 => ?_)
  replace h := h G_3 eG_3
  refine aw_al_n F 0 dX6_advance_55 rfl rfl ?_
  refine aw_ic F dX6_advance_56 ic_0 ?_
  refine pf6_4 F (lo_s rfl) (hP _ rfl) rfl w_48 dX6_advance_57 (fun G_4 eG_4 => ?_)
  replace h := h G_4 eG_4
  refine aw_al_n F 0 dX6_advance_60 rfl rfl ?_
  refine gf6_3 F (lo_s rfl) (hP _ rfl) rfl w_45 dX6_advance_61 ?_
  refine aw_al_n F 0 dX6_advance_64 rfl rfl ?_
  refine gf6_6 F (lo_s rfl) (hP _ rfl) rfl w_52 dX6_advance_65 ?_
  refine aw_icmp_lt (tgt := 79) F dX6_advance_68 (by decide) (fun c_5 => ?_) (fun c_5 => ?_)
  · replace h := h.1 c_5
    refine aw_al_n F 0 dX6_advance_79 rfl rfl ?_
    refine gr6_0 F (lo_s rfl) (hP _ rfl) rfl w_37 (hP _ rfl) dX6_advance_80 ?_
    refine aw_al_n F 0 dX6_advance_83 rfl rfl ?_
    refine gf6_3 F (lo_s rfl) (hP _ rfl) rfl w_45 dX6_advance_84 ?_
    refine aw_bald F 1 1 (lo_s rfl) (hP _ rfl) rfl h.1 dX6_advance_87 ?_
    replace h := h.2
    refine aw_cSb (stk := []) F T.room [.int (nb (G_4 1 1 (G_4 1 0 3).toNatClampNeg))] (k_X6_isSmall hP h) ms_X6_isSmall w_471 rfl rfl (Nat.le_of_ble_eq_true rfl) ⟨(Nat.le_of_ble_eq_true rfl), (Nat.le_of_ble_eq_true rfl)⟩ ⟨(Nat.le_of_ble_eq_true rfl), (Nat.le_of_ble_eq_true rfl)⟩ dX6_advance_88 (fun b_7 G_6 h => ?_)
    refine aw_if_eq (tgt := 138) F dX6_advance_91 (by decide) (fun c_8 => ?_) (fun c_8 => ?_)
    · replace h := h.1 (bI_2 c_8)
      refine aw_al_n F 0 dX6_advance_138 rfl rfl ?_
      refine gr6_0 F (lo_s rfl) (hP _ rfl) rfl w_37 (hP _ rfl) dX6_advance_139 ?_
      refine aw_al_n F 0 dX6_advance_142 rfl rfl ?_
      refine gf6_3 F (lo_s rfl) (hP _ rfl) rfl w_45 dX6_advance_143 ?_
      refine aw_bald F 1 1 (lo_s rfl) (hP _ rfl) rfl h.1 dX6_advance_146 ?_
      replace h := h.2
      refine aw_cSb (stk := []) F T.room [.int (nb (G_6 1 1 (G_6 1 0 3).toNatClampNeg))] (k_X6_isFigure hP h) ms_X6_isFigure w_474 rfl rfl (Nat.le_of_ble_eq_true rfl) ⟨(Nat.le_of_ble_eq_true rfl), (Nat.le_of_ble_eq_true rfl)⟩ ⟨(Nat.le_of_ble_eq_true rfl), (Nat.le_of_ble_eq_true rfl)⟩ dX6_advance_147 (fun b_10 G_9 h => ?_)
      refine aw_if_eq (tgt := 226) F dX6_advance_150 (by decide) (fun c_11 => ?_) (fun c_11 => ?_)
      · replace h := h.1 (bI_2 c_11)
        refine aw_al_n F 0 dX6_advance_226 rfl rfl ?_
        refine aw_ic F dX6_advance_227 ic_3 ?_
        refine pf6_2 F (lo_s rfl) (hP _ rfl) rfl w_42 dX6_advance_228 (fun G_12 eG_12 => ?_)
        replace h := h G_12 eG_12
        refine aw_al_n F 0 dX6_advance_231 rfl rfl ?_
        refine aw_dup F dX6_advance_232 rfl ?_
        refine gf6_5 F (lo_s rfl) (hP _ rfl) rfl w_51 dX6_advance_233 ?_
        refine aw_ic F dX6_advance_236 ic_1 ?_
        refine aw_iadd F dX6_advance_237 ?_
        refine pf6_5 F (lo_s rfl) (hP _ rfl) rfl w_51 dX6_advance_238 (fun G_13 eG_13 => ?_)
        replace h := h G_13 eG_13
        exact aw_vret F T (Nat.le_of_ble_eq_true rfl) (Nat.le_of_ble_eq_true rfl) ⟨rfl, h⟩ dX6_advance_241
      · replace h := h.2 (bI_1 c_11)
        refine aw_al_n F 0 dX6_advance_153 rfl rfl ?_
        refine aw_ic F dX6_advance_154 ic_2 ?_
        refine pf6_2 F (lo_s rfl) (hP _ rfl) rfl w_42 dX6_advance_155 (fun G_14 eG_14 => ?_)
        replace h := h G_14 eG_14
        exact kl_X6_advance_158 F T h
    · replace h := h.2 (bI_1 c_8)
      refine aw_al_n F 0 dX6_advance_94 rfl rfl ?_
      refine aw_ic F dX6_advance_95 ic_1 ?_
      refine pf6_2 F (lo_s rfl) (hP _ rfl) rfl w_42 dX6_advance_96 (fun G_21 eG_21 => ?_)
      replace h := h G_21 eG_21
      exact kl_X6_advance_99 F T h
  · replace h := h.2 c_5
    refine aw_al_n F 0 dX6_advance_71 rfl rfl ?_
    refine aw_ic F dX6_advance_72 ic_0 ?_
    refine pf6_2 F (lo_s rfl) (hP _ rfl) rfl w_42 dX6_advance_73 (fun G_27 eG_27 => ?_)
    replace h := h G_27 eG_27
    refine aw_go (tgt := 241) F dX6_advance_76 (by decide) ?_
    exact aw_vret F T (Nat.le_of_ble_eq_true rfl) (Nat.le_of_ble_eq_true rfl) ⟨rfl, h⟩ dX6_advance_241
set_option maxRecDepth 100000 in
set_option maxHeartbeats 4000000 in
theorem kl_X6_advance_8 {E : Ev} {X : Cx} {post : GH → Prop} {G : GH} (F : Fx E X "MarkField$Tape" cX6_advance 1) (T : RT E X 1 0 0 none (pV post)) (h : lp_X6_advance_8 post G) : AW E X 1 8 [(0, .ref (sdX X 1 0))] [] G 0 0 := by
  have hP := F.P
  have K8 : ∀ (G : GH), AW E X 1 8 [(0, .ref (sdX X 1 0))] [] G 0 0 → AW E X 1 8 [(0, .ref (sdX X 1 0))] [] G 0 0 := fun _ q => q
  refine h (fun (G : GH) => AW E X 1 8 [(0, .ref (sdX X 1 0))] [] G 0 0) (fun (G : GH) h => ?_)
  refine aw_al_n F 0 dX6_advance_8 rfl rfl ?_
  refine gf6_3 F (lo_s rfl) (hP _ rfl) rfl w_45 dX6_advance_9 ?_
  refine aw_al_n F 0 dX6_advance_12 rfl rfl ?_
  refine gf6_6 F (lo_s rfl) (hP _ rfl) rfl w_52 dX6_advance_13 ?_
  refine aw_icmp_ge (tgt := 47) F dX6_advance_16 (by decide) (fun c_2 => ?_) (fun c_2 => ?_)
  · replace h := h.1 c_2
    exact kj_X6_advance_47 F T h
  · replace h := h.2 c_2
    refine aw_al_n F 0 dX6_advance_19 rfl rfl ?_
    refine gr6_0 F (lo_s rfl) (hP _ rfl) rfl w_37 (hP _ rfl) dX6_advance_20 ?_
    refine aw_al_n F 0 dX6_advance_23 rfl rfl ?_
    refine gf6_3 F (lo_s rfl) (hP _ rfl) rfl w_45 dX6_advance_24 ?_
    refine aw_bald F 1 1 (lo_s rfl) (hP _ rfl) rfl h.1 dX6_advance_27 ?_
    replace h := h.2
    refine aw_cSb (stk := []) F T.room [.int (nb (G 1 1 (G 1 0 3).toNatClampNeg))] (k_X6_isBlank hP h) ms_X6_isBlank w_468 rfl rfl (Nat.le_of_ble_eq_true rfl) ⟨(Nat.le_of_ble_eq_true rfl), (Nat.le_of_ble_eq_true rfl)⟩ ⟨(Nat.le_of_ble_eq_true rfl), (Nat.le_of_ble_eq_true rfl)⟩ dX6_advance_28 (fun b_29 G_28 h => ?_)
    refine aw_if_eq (tgt := 47) F dX6_advance_31 (by decide) (fun c_30 => ?_) (fun c_30 => ?_)
    · replace h := h.1 (bI_2 c_30)
      exact kj_X6_advance_47 F T h
    · replace h := h.2 (bI_1 c_30)
      refine aw_al_n F 0 dX6_advance_34 rfl rfl ?_
      refine aw_dup F dX6_advance_35 rfl ?_
      refine gf6_3 F (lo_s rfl) (hP _ rfl) rfl w_45 dX6_advance_36 ?_
      refine aw_ic F dX6_advance_39 ic_1 ?_
      refine aw_iadd F dX6_advance_40 ?_
      refine pf6_3 F (lo_s rfl) (hP _ rfl) rfl w_45 dX6_advance_41 (fun G_31 eG_31 => ?_)
      replace h := h G_31 eG_31
      refine aw_go (tgt := 8) F dX6_advance_44 (by decide) ?_
      exact K8 _ h
set_option maxRecDepth 100000 in
set_option maxHeartbeats 4000000 in
theorem k_X6_advance {l : Launch} {E : Ev} {P : Nat → Prop} {sd : Nat → Nat → Nat} {G : GH} {post : GH → Prop} (hPP : ∀ o, stt o = true → P o) (h : wp_X6_advance post G) : Ct l yX6_advance cX6_advance 1 none 1 0 0 E P sd G [.ref (sd 1 0)] (pV post) := by
  refine ct_of (own := "MarkField$Tape") (by decide) rfl (Nat.le_of_ble_eq_true rfl) hPP (fun X F T el eP es => ?_)
  subst el; subst eP; subst es
  have hP := F.P
  change AW E X 1 0 [(0, .ref (sdX X 1 0))] [] G 0 0
  refine aw_al_n F 0 dX6_advance_0 rfl rfl ?_
  refine aw_al_n F 0 dX6_advance_1 rfl rfl ?_
  refine gf6_5 F (lo_s rfl) (hP _ rfl) rfl w_51 dX6_advance_2 ?_
  refine pf6_3 F (lo_s rfl) (hP _ rfl) rfl w_45 dX6_advance_5 (fun G_1 eG_1 => ?_)
  replace h := h G_1 eG_1
  exact kl_X6_advance_8 F T h
-- X6_takeText (height 2)
def wp_X6_takeText (post : GH → Prop) (x1 : Int32) (G : GH) : Prop :=
  (∀ G_1 : GH, G_1 = gs G 1 0 (upd (G 1 0) 1 (0 : Int32)) → (∀ G_2 : GH, G_2 = gs G_1 1 0 (upd (G_1 1 0) 6 x1) → (∀ G_3 : GH, G_3 = gs G_2 1 0 (upd (G_2 1 0) 5 (0 : Int32)) → wp_X6_advance (fun (G_4 : GH) => post G_4) G_3)))
set_option maxRecDepth 100000 in
set_option maxHeartbeats 4000000 in
theorem k_X6_takeText {l : Launch} {E : Ev} {P : Nat → Prop} {sd : Nat → Nat → Nat} {G : GH} {post : GH → Prop} {x1 : Int32} (hPP : ∀ o, stt o = true → P o) (h : wp_X6_takeText post x1 G) : Ct l yX6_takeText cX6_takeText 2 none 2 0 0 E P sd G [.ref (sd 1 0), .int x1] (pV post) := by
  refine ct_of (own := "MarkField$Tape") (by decide) rfl (Nat.le_of_ble_eq_true rfl) hPP (fun X F T el eP es => ?_)
  subst el; subst eP; subst es
  have hP := F.P
  change AW E X 2 0 [(0, .ref (sdX X 1 0)), (1, .int x1)] [] G 0 0
  refine aw_al_n F 0 dX6_takeText_0 rfl rfl ?_
  refine aw_ic F dX6_takeText_1 ic_0 ?_
  refine pf6_1 F (lo_s rfl) (hP _ rfl) rfl w_40 dX6_takeText_2 (fun G_1 eG_1 => ?_)
  replace h := h G_1 eG_1
  refine aw_al_n F 0 dX6_takeText_5 rfl rfl ?_
  refine aw_il_n F 1 dX6_takeText_6 rfl rfl ?_
  refine pf6_6 F (lo_s rfl) (hP _ rfl) rfl w_52 dX6_takeText_7 (fun G_2 eG_2 => ?_)
  replace h := h G_2 eG_2
  refine aw_al_n F 0 dX6_takeText_10 rfl rfl ?_
  refine aw_ic F dX6_takeText_11 ic_0 ?_
  refine pf6_5 F (lo_s rfl) (hP _ rfl) rfl w_51 dX6_takeText_12 (fun G_3 eG_3 => ?_)
  replace h := h G_3 eG_3
  refine aw_al_n F 0 dX6_takeText_15 rfl rfl ?_
  refine aw_cVv (stk := []) F T.room [] (k_X6_advance hP h) mv_X6_advance w_464 cf6 (lo_s rfl) (hP _ rfl) rfl (by decide) rfl rfl (Nat.le_of_ble_eq_true rfl) ⟨(Nat.le_of_ble_eq_true rfl), (Nat.le_of_ble_eq_true rfl)⟩ ⟨(Nat.le_of_ble_eq_true rfl), (Nat.le_of_ble_eq_true rfl)⟩ dX6_takeText_16 (fun G_4 h => ?_)
  exact aw_vret F T (Nat.le_of_ble_eq_true rfl) (Nat.le_of_ble_eq_true rfl) ⟨rfl, h⟩ dX6_takeText_19
-- X6_takeName (height 1)
def lb_X6_takeName_20 (post : Bool → GH → Prop) (P20 : Int32 → Int32 → GH → Prop) (v1 v2 : Int32) (G : GH) : Prop :=
  ((v1 ≤ v2 → post true G) ∧ (¬ v1 ≤ v2 → (vp_in v2 700 ∧ wp_X6_isSmall (fun (b_6 : Bool) (G_5 : GH) => ((b_6 = false → post false G_5) ∧ (b_6 = true → P20 v1 (v2 + (1 : Int32)) G_5))) (nb (G 1 1 v2.toNatClampNeg)) G)))
def lp_X6_takeName_20 (post : Bool → GH → Prop) (v1 v2 : Int32) (G : GH) : Prop := ∀ P20 : Int32 → Int32 → GH → Prop, (∀ (v1 v2 : Int32) (G : GH), lb_X6_takeName_20 post P20 v1 v2 G → P20 v1 v2 G) → P20 v1 v2 G
def wp_X6_takeName (post : Bool → GH → Prop) (x1 : Int32) (G : GH) : Prop :=
  (∀ G_1 : GH, G_1 = gs G 1 0 (upd (G 1 0) 1 (0 : Int32)) → ((x1 < (1 : Int32) → post false G_1) ∧ (¬ x1 < (1 : Int32) → ((x1 ≤ (10 : Int32) → lp_X6_takeName_20 post x1 (0 : Int32) G_1) ∧ (¬ x1 ≤ (10 : Int32) → post false G_1)))))
set_option maxRecDepth 100000 in
set_option maxHeartbeats 4000000 in
theorem kl_X6_takeName_20 {E : Ev} {X : Cx} {post : Bool → GH → Prop} {v1 v2 : Int32} {G : GH} (F : Fx E X "MarkField$Tape" cX6_takeName 3) (T : RT E X 1 0 0 (some .boolean) (pB post)) (h : lp_X6_takeName_20 post v1 v2 G) : AW E X 3 20 [(0, .ref (sdX X 1 0)), (1, .int v1), (2, .int v2)] [] G 0 0 := by
  have hP := F.P
  have K20 : ∀ (v1 v2 : Int32) (G : GH), AW E X 3 20 [(0, .ref (sdX X 1 0)), (1, .int v1), (2, .int v2)] [] G 0 0 → AW E X 3 20 [(0, .ref (sdX X 1 0)), (1, .int v1), (2, .int v2)] [] G 0 0 := fun _ _ _ q => q
  refine h (fun (v1 v2 : Int32) (G : GH) => AW E X 3 20 [(0, .ref (sdX X 1 0)), (1, .int v1), (2, .int v2)] [] G 0 0) (fun (v1 v2 : Int32) (G : GH) h => ?_)
  refine aw_il_n F 2 dX6_takeName_20 rfl rfl ?_
  refine aw_il_n F 1 dX6_takeName_21 rfl rfl ?_
  refine aw_icmp_ge (tgt := 45) F dX6_takeName_22 (by decide) (fun c_4 => ?_) (fun c_4 => ?_)
  · replace h := h.1 c_4
    refine aw_ic F dX6_takeName_45 ic_1 ?_
    exact aw_zret F T true rfl (Nat.le_of_ble_eq_true rfl) (Nat.le_of_ble_eq_true rfl) ⟨_, rfl, h⟩ dX6_takeName_46
  · replace h := h.2 c_4
    refine aw_al_n F 0 dX6_takeName_25 rfl rfl ?_
    refine gr6_0 F (lo_s rfl) (hP _ rfl) rfl w_37 (hP _ rfl) dX6_takeName_26 ?_
    refine aw_il_n F 2 dX6_takeName_29 rfl rfl ?_
    refine aw_bald F 1 1 (lo_s rfl) (hP _ rfl) rfl h.1 dX6_takeName_30 ?_
    replace h := h.2
    refine aw_cSb (stk := []) F T.room [.int (nb (G 1 1 v2.toNatClampNeg))] (k_X6_isSmall hP h) ms_X6_isSmall w_471 rfl rfl (Nat.le_of_ble_eq_true rfl) ⟨(Nat.le_of_ble_eq_true rfl), (Nat.le_of_ble_eq_true rfl)⟩ ⟨(Nat.le_of_ble_eq_true rfl), (Nat.le_of_ble_eq_true rfl)⟩ dX6_takeName_31 (fun b_6 G_5 h => ?_)
    refine aw_if_ne (tgt := 39) F dX6_takeName_34 (by decide) (fun c_7 => ?_) (fun c_7 => ?_)
    · replace h := h.2 (bI_1 c_7)
      refine aw_inc (lv1 := [(2, .int (v2 + (1 : Int32))), (0, .ref (sdX X 1 0)), (1, .int v1)]) F 2 dX6_takeName_39 rfl (in_1 _) (by decide) rfl ?_
      refine aw_go (tgt := 20) F dX6_takeName_42 (by decide) ?_
      refine aw_sub [1, 2, 0] rfl ?_
      exact K20 _ _ _ h
    · replace h := h.1 (bI_2 c_7)
      refine aw_ic F dX6_takeName_37 ic_0 ?_
      exact aw_zret F T false rfl (Nat.le_of_ble_eq_true rfl) (Nat.le_of_ble_eq_true rfl) ⟨_, rfl, h⟩ dX6_takeName_38
set_option maxRecDepth 100000 in
set_option maxHeartbeats 4000000 in
theorem k_X6_takeName {l : Launch} {E : Ev} {P : Nat → Prop} {sd : Nat → Nat → Nat} {G : GH} {post : Bool → GH → Prop} {x1 : Int32} (hPP : ∀ o, stt o = true → P o) (h : wp_X6_takeName post x1 G) : Ct l yX6_takeName cX6_takeName 3 (some .boolean) 1 0 0 E P sd G [.ref (sd 1 0), .int x1] (pB post) := by
  refine ct_of (own := "MarkField$Tape") (by decide) rfl (Nat.le_of_ble_eq_true rfl) hPP (fun X F T el eP es => ?_)
  subst el; subst eP; subst es
  have hP := F.P
  change AW E X 3 0 [(0, .ref (sdX X 1 0)), (1, .int x1)] [] G 0 0
  refine aw_al_n F 0 dX6_takeName_0 rfl rfl ?_
  refine aw_ic F dX6_takeName_1 ic_0 ?_
  refine pf6_1 F (lo_s rfl) (hP _ rfl) rfl w_40 dX6_takeName_2 (fun G_1 eG_1 => ?_)
  replace h := h G_1 eG_1
  refine aw_il_n F 1 dX6_takeName_5 rfl rfl ?_
  refine aw_ic F dX6_takeName_6 ic_1 ?_
  refine aw_icmp_lt (tgt := 16) F dX6_takeName_7 (by decide) (fun c_2 => ?_) (fun c_2 => ?_)
  · replace h := h.1 c_2
    refine aw_ic F dX6_takeName_16 ic_0 ?_
    exact aw_zret F T false rfl (Nat.le_of_ble_eq_true rfl) (Nat.le_of_ble_eq_true rfl) ⟨_, rfl, h⟩ dX6_takeName_17
  · replace h := h.2 c_2
    refine aw_il_n F 1 dX6_takeName_10 rfl rfl ?_
    refine aw_bi F dX6_takeName_11 bi_10 ?_
    refine aw_icmp_le (tgt := 18) F dX6_takeName_13 (by decide) (fun c_3 => ?_) (fun c_3 => ?_)
    · replace h := h.1 c_3
      refine aw_ic F dX6_takeName_18 ic_0 ?_
      refine aw_is_n (lv1 := [(2, .int (0 : Int32)), (0, .ref (sdX X 1 0)), (1, .int x1)]) F dX6_takeName_19 rfl (by decide) rfl ?_
      refine aw_sub [1, 2, 0] rfl ?_
      exact kl_X6_takeName_20 F T h
    · replace h := h.2 c_3
      refine aw_ic F dX6_takeName_16 ic_0 ?_
      exact aw_zret F T false rfl (Nat.le_of_ble_eq_true rfl) (Nat.le_of_ble_eq_true rfl) ⟨_, rfl, h⟩ dX6_takeName_17
-- X6_tokenLength (height 0)
def wp_X6_tokenLength (post : Int32 → GH → Prop) (G : GH) : Prop :=
  post ((G 1 0 5) - (G 1 0 3)) G
set_option maxRecDepth 100000 in
set_option maxHeartbeats 4000000 in
theorem k_X6_tokenLength {l : Launch} {E : Ev} {P : Nat → Prop} {sd : Nat → Nat → Nat} {G : GH} {post : Int32 → GH → Prop} (hPP : ∀ o, stt o = true → P o) (h : wp_X6_tokenLength post G) : Ct l yX6_tokenLength cX6_tokenLength 1 (some .int) 0 0 0 E P sd G [.ref (sd 1 0)] (pI post) := by
  refine ct_of (own := "MarkField$Tape") (by decide) rfl (Nat.le_of_ble_eq_true rfl) hPP (fun X F T el eP es => ?_)
  subst el; subst eP; subst es
  have hP := F.P
  change AW E X 1 0 [(0, .ref (sdX X 1 0))] [] G 0 0
  refine aw_al_n F 0 dX6_tokenLength_0 rfl rfl ?_
  refine gf6_5 F (lo_s rfl) (hP _ rfl) rfl w_51 dX6_tokenLength_1 ?_
  refine aw_al_n F 0 dX6_tokenLength_4 rfl rfl ?_
  refine gf6_3 F (lo_s rfl) (hP _ rfl) rfl w_45 dX6_tokenLength_5 ?_
  refine aw_isub F dX6_tokenLength_8 ?_
  exact aw_iret F T (Nat.le_of_ble_eq_true rfl) (Nat.le_of_ble_eq_true rfl) ⟨_, rfl, h⟩ dX6_tokenLength_9
-- X6_isWord (height 7)
def lb_X6_isWord_28 (post : Bool → GH → Prop) (w1 : Nat) (P28 : Int32 → GH → Prop) (v2 : Int32) (G : GH) : Prop :=
  (((nI (sxL w1)) ≤ v2 → post true G) ∧ (¬ (nI (sxL w1)) ≤ v2 → (vp_in ((G 1 0 3) + v2) 700 ∧ (vp_in v2 (sxL w1) ∧ (((nb (G 1 1 ((G 1 0 3) + v2).toNatClampNeg)) = (nI (sxC w1 v2.toNatClampNeg)) → P28 (v2 + (1 : Int32)) G) ∧ (¬ (nb (G 1 1 ((G 1 0 3) + v2).toNatClampNeg)) = (nI (sxC w1 v2.toNatClampNeg)) → post false G))))))
def lp_X6_isWord_28 (post : Bool → GH → Prop) (w1 : Nat) (v2 : Int32) (G : GH) : Prop := ∀ P28 : Int32 → GH → Prop, (∀ (v2 : Int32) (G : GH), lb_X6_isWord_28 post w1 P28 v2 G → P28 v2 G) → P28 v2 G
def wp_X6_isWord (post : Bool → GH → Prop) (w1 : Nat) (G : GH) : Prop :=
  (((G 1 0 2) = (1 : Int32) → ((((G 1 0 5) - (G 1 0 3)) = (nI (sxL w1)) → lp_X6_isWord_28 post w1 (0 : Int32) G) ∧ (¬ ((G 1 0 5) - (G 1 0 3)) = (nI (sxL w1)) → post false G))) ∧ (¬ (G 1 0 2) = (1 : Int32) → post false G))
set_option maxRecDepth 100000 in
set_option maxHeartbeats 4000000 in
theorem kl_X6_isWord_28 {E : Ev} {X : Cx} {post : Bool → GH → Prop} {w1 : Nat} {v2 : Int32} {G : GH} (F : Fx E X "MarkField$Tape" cX6_isWord 3) (T : RT E X 7 0 0 (some .boolean) (pB post)) (hw1 : w1 < nsx) (h : lp_X6_isWord_28 post w1 v2 G) : AW E X 3 28 [(0, .ref (sdX X 1 0)), (1, .ref (E.2.2.2.1 w1)), (2, .int v2)] [] G 0 0 := by
  have hP := F.P
  have K28 : ∀ (v2 : Int32) (G : GH), AW E X 3 28 [(0, .ref (sdX X 1 0)), (1, .ref (E.2.2.2.1 w1)), (2, .int v2)] [] G 0 0 → AW E X 3 28 [(0, .ref (sdX X 1 0)), (1, .ref (E.2.2.2.1 w1)), (2, .int v2)] [] G 0 0 := fun _ _ q => q
  refine h (fun (v2 : Int32) (G : GH) => AW E X 3 28 [(0, .ref (sdX X 1 0)), (1, .ref (E.2.2.2.1 w1)), (2, .int v2)] [] G 0 0) (fun (v2 : Int32) (G : GH) h => ?_)
  refine aw_il_n F 2 dX6_isWord_28 rfl rfl ?_
  refine aw_al_n F 1 dX6_isWord_29 rfl rfl ?_
  refine aw_slen F T.room hw1 w_490 (Nat.le_of_ble_eq_true rfl) (Nat.le_of_ble_eq_true rfl) ⟨(Nat.le_of_ble_eq_true rfl), (Nat.le_of_ble_eq_true rfl)⟩ dX6_isWord_30 ?_
  refine aw_icmp_ge (tgt := 63) F dX6_isWord_33 (by decide) (fun c_3 => ?_) (fun c_3 => ?_)
  · replace h := h.1 c_3
    refine aw_ic F dX6_isWord_63 ic_1 ?_
    exact aw_zret F T true rfl (Nat.le_of_ble_eq_true rfl) (Nat.le_of_ble_eq_true rfl) ⟨_, rfl, h⟩ dX6_isWord_64
  · replace h := h.2 c_3
    refine aw_al_n F 0 dX6_isWord_36 rfl rfl ?_
    refine gr6_0 F (lo_s rfl) (hP _ rfl) rfl w_37 (hP _ rfl) dX6_isWord_37 ?_
    refine aw_al_n F 0 dX6_isWord_40 rfl rfl ?_
    refine gf6_3 F (lo_s rfl) (hP _ rfl) rfl w_45 dX6_isWord_41 ?_
    refine aw_il_n F 2 dX6_isWord_44 rfl rfl ?_
    refine aw_iadd F dX6_isWord_45 ?_
    refine aw_bald F 1 1 (lo_s rfl) (hP _ rfl) rfl h.1 dX6_isWord_46 ?_
    replace h := h.2
    refine aw_al_n F 1 dX6_isWord_47 rfl rfl ?_
    refine aw_il_n F 2 dX6_isWord_48 rfl rfl ?_
    refine aw_sch F T.room hw1 w_500 h.1 (Nat.le_of_ble_eq_true rfl) (Nat.le_of_ble_eq_true rfl) ⟨(Nat.le_of_ble_eq_true rfl), (Nat.le_of_ble_eq_true rfl)⟩ dX6_isWord_49 ?_
    replace h := h.2
    refine aw_icmp_eq (tgt := 57) F dX6_isWord_52 (by decide) (fun c_4 => ?_) (fun c_4 => ?_)
    · replace h := h.1 c_4
      refine aw_inc (lv1 := [(2, .int (v2 + (1 : Int32))), (0, .ref (sdX X 1 0)), (1, .ref (E.2.2.2.1 w1))]) F 2 dX6_isWord_57 rfl (in_1 _) (by decide) rfl ?_
      refine aw_go (tgt := 28) F dX6_isWord_60 (by decide) ?_
      refine aw_sub [1, 2, 0] rfl ?_
      exact K28 _ _ h
    · replace h := h.2 c_4
      refine aw_ic F dX6_isWord_55 ic_0 ?_
      exact aw_zret F T false rfl (Nat.le_of_ble_eq_true rfl) (Nat.le_of_ble_eq_true rfl) ⟨_, rfl, h⟩ dX6_isWord_56
set_option maxRecDepth 100000 in
set_option maxHeartbeats 4000000 in
theorem k_X6_isWord {l : Launch} {E : Ev} {P : Nat → Prop} {sd : Nat → Nat → Nat} {G : GH} {post : Bool → GH → Prop} {w1 : Nat} (hPP : ∀ o, stt o = true → P o) (hw1 : w1 < nsx) (h : wp_X6_isWord post w1 G) : Ct l yX6_isWord cX6_isWord 3 (some .boolean) 7 0 0 E P sd G [.ref (sd 1 0), .ref (E.2.2.2.1 w1)] (pB post) := by
  refine ct_of (own := "MarkField$Tape") (by decide) rfl (Nat.le_of_ble_eq_true rfl) hPP (fun X F T el eP es => ?_)
  subst el; subst eP; subst es
  have hP := F.P
  change AW E X 3 0 [(0, .ref (sdX X 1 0)), (1, .ref (E.2.2.2.1 w1))] [] G 0 0
  refine aw_al_n F 0 dX6_isWord_0 rfl rfl ?_
  refine gf6_2 F (lo_s rfl) (hP _ rfl) rfl w_42 dX6_isWord_1 ?_
  refine aw_ic F dX6_isWord_4 ic_1 ?_
  refine aw_icmp_ne (tgt := 24) F dX6_isWord_5 (by decide) (fun c_1 => ?_) (fun c_1 => ?_)
  · replace h := h.2 c_1
    refine aw_ic F dX6_isWord_24 ic_0 ?_
    exact aw_zret F T false rfl (Nat.le_of_ble_eq_true rfl) (Nat.le_of_ble_eq_true rfl) ⟨_, rfl, h⟩ dX6_isWord_25
  · replace h := h.1 c_1
    refine aw_al_n F 0 dX6_isWord_8 rfl rfl ?_
    refine gf6_5 F (lo_s rfl) (hP _ rfl) rfl w_51 dX6_isWord_9 ?_
    refine aw_al_n F 0 dX6_isWord_12 rfl rfl ?_
    refine gf6_3 F (lo_s rfl) (hP _ rfl) rfl w_45 dX6_isWord_13 ?_
    refine aw_isub F dX6_isWord_16 ?_
    refine aw_al_n F 1 dX6_isWord_17 rfl rfl ?_
    refine aw_slen F T.room hw1 w_490 (Nat.le_of_ble_eq_true rfl) (Nat.le_of_ble_eq_true rfl) ⟨(Nat.le_of_ble_eq_true rfl), (Nat.le_of_ble_eq_true rfl)⟩ dX6_isWord_18 ?_
    refine aw_icmp_eq (tgt := 26) F dX6_isWord_21 (by decide) (fun c_2 => ?_) (fun c_2 => ?_)
    · replace h := h.1 c_2
      refine aw_ic F dX6_isWord_26 ic_0 ?_
      refine aw_is_n (lv1 := [(2, .int (0 : Int32)), (0, .ref (sdX X 1 0)), (1, .ref (E.2.2.2.1 w1))]) F dX6_isWord_27 rfl (by decide) rfl ?_
      refine aw_sub [1, 2, 0] rfl ?_
      exact kl_X6_isWord_28 F T hw1 h
    · replace h := h.2 c_2
      refine aw_ic F dX6_isWord_24 ic_0 ?_
      exact aw_zret F T false rfl (Nat.le_of_ble_eq_true rfl) (Nat.le_of_ble_eq_true rfl) ⟨_, rfl, h⟩ dX6_isWord_25
-- X6_isSign (height 0)
def wp_X6_isSign (post : Bool → GH → Prop) (x1 : Int32) (G : GH) : Prop :=
  (((G 1 0 2) = (3 : Int32) → (vp_in (G 1 0 3) 700 ∧ (((nb (G 1 1 (G 1 0 3).toNatClampNeg)) = x1 → post true G) ∧ (¬ (nb (G 1 1 (G 1 0 3).toNatClampNeg)) = x1 → post false G)))) ∧ (¬ (G 1 0 2) = (3 : Int32) → post false G))
set_option maxRecDepth 100000 in
set_option maxHeartbeats 4000000 in
theorem k_X6_isSign {l : Launch} {E : Ev} {P : Nat → Prop} {sd : Nat → Nat → Nat} {G : GH} {post : Bool → GH → Prop} {x1 : Int32} (hPP : ∀ o, stt o = true → P o) (h : wp_X6_isSign post x1 G) : Ct l yX6_isSign cX6_isSign 2 (some .boolean) 0 0 0 E P sd G [.ref (sd 1 0), .int x1] (pB post) := by
  refine ct_of (own := "MarkField$Tape") (by decide) rfl (Nat.le_of_ble_eq_true rfl) hPP (fun X F T el eP es => ?_)
  subst el; subst eP; subst es
  have hP := F.P
  change AW E X 2 0 [(0, .ref (sdX X 1 0)), (1, .int x1)] [] G 0 0
  refine aw_al_n F 0 dX6_isSign_0 rfl rfl ?_
  refine gf6_2 F (lo_s rfl) (hP _ rfl) rfl w_42 dX6_isSign_1 ?_
  refine aw_ic F dX6_isSign_4 ic_3 ?_
  refine aw_icmp_ne (tgt := 25) F dX6_isSign_5 (by decide) (fun c_1 => ?_) (fun c_1 => ?_)
  · replace h := h.2 c_1
    refine aw_ic F dX6_isSign_25 ic_0 ?_
    exact aw_zret F T false rfl (Nat.le_of_ble_eq_true rfl) (Nat.le_of_ble_eq_true rfl) ⟨_, rfl, h⟩ dX6_isSign_26
  · replace h := h.1 c_1
    refine aw_al_n F 0 dX6_isSign_8 rfl rfl ?_
    refine gr6_0 F (lo_s rfl) (hP _ rfl) rfl w_37 (hP _ rfl) dX6_isSign_9 ?_
    refine aw_al_n F 0 dX6_isSign_12 rfl rfl ?_
    refine gf6_3 F (lo_s rfl) (hP _ rfl) rfl w_45 dX6_isSign_13 ?_
    refine aw_bald F 1 1 (lo_s rfl) (hP _ rfl) rfl h.1 dX6_isSign_16 ?_
    replace h := h.2
    refine aw_il_n F 1 dX6_isSign_17 rfl rfl ?_
    refine aw_icmp_ne (tgt := 25) F dX6_isSign_18 (by decide) (fun c_2 => ?_) (fun c_2 => ?_)
    · replace h := h.2 c_2
      refine aw_ic F dX6_isSign_25 ic_0 ?_
      exact aw_zret F T false rfl (Nat.le_of_ble_eq_true rfl) (Nat.le_of_ble_eq_true rfl) ⟨_, rfl, h⟩ dX6_isSign_26
    · replace h := h.1 c_2
      refine aw_ic F dX6_isSign_21 ic_1 ?_
      refine aw_go (tgt := 26) F dX6_isSign_22 (by decide) ?_
      exact aw_zret F T true rfl (Nat.le_of_ble_eq_true rfl) (Nat.le_of_ble_eq_true rfl) ⟨_, rfl, h⟩ dX6_isSign_26
