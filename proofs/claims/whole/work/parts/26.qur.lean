theorem bi_41 : (Int8.ofInt (41)).toInt32 = (41 : Int32) := by decide
theorem bi_40 : (Int8.ofInt (40)).toInt32 = (40 : Int32) := by decide
theorem si_200 : (Int16.ofInt (200)).toInt32 = (200 : Int32) := by decide
theorem w_1108 : (Jvm.Cond.code ({ cls := "MarkField$Question", name := "readTest", desc := "(I)I" } : Jvm.MethodName) prog_4_method_5_code (5 : Nat) (Option.some Jvm.ClassFile.FieldType.int)) ∈ tb := tb_of (List.mem_of_getElem? (i := 1108) (by decide +kernel)) rfl
theorem w_1107 : (Jvm.Cond.instanceMethod ({ cls := "MarkField$Question", name := "readTest", desc := "(I)I" } : Jvm.MethodName)) ∈ tb := tb_of (List.mem_of_getElem? (i := 1107) (by decide +kernel)) rfl
theorem ws_31 : (Jvm.Cond.selects "MarkField$Question" ({ cls := "MarkField$Question", name := "readTest", desc := "(I)I" } : Jvm.MethodName) ({ cls := "MarkField$Question", name := "readTest", desc := "(I)I" } : Jvm.MethodName)) ∈ tb := tb_sel (List.mem_of_getElem? (i := 31) (by decide +kernel)) rfl
theorem w_1105 : (Jvm.Cond.methodLink "MarkField$Question" (58 : Nat) ({ cls := "MarkField$Question", name := "readTest", desc := "(I)I" } : Jvm.MethodName)) ∈ tb := tb_of (List.mem_of_getElem? (i := 1105) (by decide +kernel)) rfl
theorem w_1143 : (Jvm.Cond.methodLink "MarkField$Question" (101 : Nat) ({ cls := "MarkField$Register", name := "allMarks", desc := "()I" } : Jvm.MethodName)) ∈ tb := tb_of (List.mem_of_getElem? (i := 1143) (by decide +kernel)) rfl
theorem w_1112 : (Jvm.Cond.code ({ cls := "MarkField$Question", name := "readFact", desc := "(I)I" } : Jvm.MethodName) prog_4_method_6_code (4 : Nat) (Option.some Jvm.ClassFile.FieldType.int)) ∈ tb := tb_of (List.mem_of_getElem? (i := 1112) (by decide +kernel)) rfl
theorem w_1111 : (Jvm.Cond.instanceMethod ({ cls := "MarkField$Question", name := "readFact", desc := "(I)I" } : Jvm.MethodName)) ∈ tb := tb_of (List.mem_of_getElem? (i := 1111) (by decide +kernel)) rfl
theorem ws_32 : (Jvm.Cond.selects "MarkField$Question" ({ cls := "MarkField$Question", name := "readFact", desc := "(I)I" } : Jvm.MethodName) ({ cls := "MarkField$Question", name := "readFact", desc := "(I)I" } : Jvm.MethodName)) ∈ tb := tb_sel (List.mem_of_getElem? (i := 32) (by decide +kernel)) rfl
theorem w_1109 : (Jvm.Cond.methodLink "MarkField$Question" (84 : Nat) ({ cls := "MarkField$Question", name := "readFact", desc := "(I)I" } : Jvm.MethodName)) ∈ tb := tb_of (List.mem_of_getElem? (i := 1109) (by decide +kernel)) rfl
theorem w_1118 : (Jvm.Cond.code ({ cls := "MarkField$Question", name := "readComparison", desc := "()I" } : Jvm.MethodName) prog_4_method_7_code (9 : Nat) (Option.some Jvm.ClassFile.FieldType.int)) ∈ tb := tb_of (List.mem_of_getElem? (i := 1118) (by decide +kernel)) rfl
theorem w_1117 : (Jvm.Cond.instanceMethod ({ cls := "MarkField$Question", name := "readComparison", desc := "()I" } : Jvm.MethodName)) ∈ tb := tb_of (List.mem_of_getElem? (i := 1117) (by decide +kernel)) rfl
theorem ws_33 : (Jvm.Cond.selects "MarkField$Question" ({ cls := "MarkField$Question", name := "readComparison", desc := "()I" } : Jvm.MethodName) ({ cls := "MarkField$Question", name := "readComparison", desc := "()I" } : Jvm.MethodName)) ∈ tb := tb_sel (List.mem_of_getElem? (i := 33) (by decide +kernel)) rfl
theorem w_1115 : (Jvm.Cond.methodLink "MarkField$Question" (97 : Nat) ({ cls := "MarkField$Question", name := "readComparison", desc := "()I" } : Jvm.MethodName)) ∈ tb := tb_of (List.mem_of_getElem? (i := 1115) (by decide +kernel)) rfl
theorem mv_X2_readTest : MV yX2_readTest cX2_readTest 5 (some .int) 1 := ⟨⟨w_1108, w_9, by decide, by decide, by decide +kernel⟩, w_1107, ws_31⟩
theorem mv_X2_readFact : MV yX2_readFact cX2_readFact 4 (some .int) 1 := ⟨⟨w_1112, w_9, by decide, by decide, by decide +kernel⟩, w_1111, ws_32⟩
theorem mv_X2_readComparison : MV yX2_readComparison cX2_readComparison 9 (some .int) 0 := ⟨⟨w_1118, w_9, by decide, by decide, by decide +kernel⟩, w_1117, ws_33⟩
-- X2_readFact (height 0)
def j_X2_readFact_105 (post : Int32 → GH → Prop) (qX2_readFact : (Int32 → GH → Prop) → Int32 → GH → Prop) (qX2_readTest : (Int32 → GH → Prop) → Int32 → GH → Prop) (v3 : Int32) (G : GH) : Prop :=
  (((G 3 0 4) = 0 → wp_X6_advance (fun (G_12 : GH) => post v3 G_12) G) ∧ (¬ (G 3 0 4) = 0 → post v3 G))
def j_X2_readFact_31 (post : Int32 → GH → Prop) (qX2_readFact : (Int32 → GH → Prop) → Int32 → GH → Prop) (qX2_readTest : (Int32 → GH → Prop) → Int32 → GH → Prop) (v1 v2 : Int32) (G : GH) : Prop :=
  ((v1 < (6 : Int32) → wp_X6_advance (fun (G_5 : GH) => ((v2 = 0 → qX2_readTest (fun (r_9 : Int32) (G_8 : GH) => (((G_8 3 0 4) = 0 → wp_X6_isSign (fun (b_15 : Bool) (G_14 : GH) => ((b_15 = false → wp_X2_fail (fun (r_18 : Int32) (G_17 : GH) => post r_18 G_17) (1 : Int32) G_14) ∧ (b_15 = true → j_X2_readFact_105 post qX2_readFact qX2_readTest r_9 G_14))) (41 : Int32) G_8) ∧ (¬ (G_8 3 0 4) = 0 → j_X2_readFact_105 post qX2_readFact qX2_readTest r_9 G_8))) (v1 + (1 : Int32)) G_5) ∧ (¬ v2 = 0 → wp_X4_allMarks (fun (r_20 : Int32) (G_19 : GH) => qX2_readFact (fun (r_22 : Int32) (G_21 : GH) => post (r_20 &&& (r_22 ^^^ (-1 : Int32))) G_21) (v1 + (1 : Int32)) G_19) 8 G_5))) G) ∧ (¬ v1 < (6 : Int32) → wp_X2_fail (fun (r_24 : Int32) (G_23 : GH) => post r_24 G_23) (3 : Int32) G))
def wr_X2_readFact (post : Int32 → GH → Prop) (qX2_readFact : (Int32 → GH → Prop) → Int32 → GH → Prop) (qX2_readTest : (Int32 → GH → Prop) → Int32 → GH → Prop) (x1 : Int32) (G : GH) : Prop :=
  wp_X6_isWord (fun (b_2 : Bool) (G_1 : GH) => ((b_2 = false → wp_X6_isSign (fun (b_26 : Bool) (G_25 : GH) => ((b_26 = false → wp_X2_readComparison (fun (r_29 : Int32) (G_28 : GH) => post r_29 G_28) G_25) ∧ (b_26 = true → j_X2_readFact_31 post qX2_readFact qX2_readTest x1 (bI b_2) G_25))) (40 : Int32) G_1) ∧ (b_2 = true → j_X2_readFact_31 post qX2_readFact qX2_readTest x1 (bI b_2) G_1))) 19 G
set_option maxRecDepth 100000 in
set_option maxHeartbeats 4000000 in
theorem kj_X2_readFact_105 {E : Ev} {X : Cx} {post : Int32 → GH → Prop} {qX2_readFact : (Int32 → GH → Prop) → Int32 → GH → Prop} {qX2_readTest : (Int32 → GH → Prop) → Int32 → GH → Prop} {hh h2 : Nat} {v3 : Int32} {G : GH} (F : Fx E X "MarkField$Question" cX2_readFact 4) (T : RT E X hh 0 0 (some .int) (pI post)) (HX2_readFact : ∀ (post : Int32 → GH → Prop) (x1 : Int32) (G : GH) , qX2_readFact post x1 G → Ct (lX X) yX2_readFact cX2_readFact 4 (some .int) h2 0 0 E (PX X) (sdX X) G [.ref (sdX X 3 0), .int x1] (pI post)) (HX2_readTest : ∀ (post : Int32 → GH → Prop) (x1 : Int32) (G : GH) , qX2_readTest post x1 G → Ct (lX X) yX2_readTest cX2_readTest 5 (some .int) h2 0 0 E (PX X) (sdX X) G [.ref (sdX X 3 0), .int x1] (pI post)) (hbase : 11 ≤ hh) (hstep : h2 + 1 ≤ hh) (h : j_X2_readFact_105 post qX2_readFact qX2_readTest v3 G) : AW E X 4 105 [(0, .ref (sdX X 3 0)), (3, .int v3)] [] G 0 0 := by
  have hP := F.P
  refine aw_al_n F 0 dX2_readFact_105 rfl rfl ?_
  refine gf2_4 F (lo_s rfl) (hP _ rfl) rfl w_274 dX2_readFact_106 ?_
  refine aw_if_ne (tgt := 119) F dX2_readFact_109 (by decide) (fun c_11 => ?_) (fun c_11 => ?_)
  · replace h := h.2 c_11
    refine aw_il_n F 1 dX2_readFact_119 rfl rfl ?_
    exact aw_iret F T (Nat.le_of_ble_eq_true rfl) (Nat.le_of_ble_eq_true rfl) ⟨_, rfl, h⟩ dX2_readFact_120
  · replace h := h.1 c_11
    refine aw_al_n F 0 dX2_readFact_112 rfl rfl ?_
    refine gr2_0 F (lo_s rfl) (hP _ rfl) rfl w_270 (hP 1 rfl) dX2_readFact_113 ?_
    refine aw_cVv (stk := []) F T.room [] (k_X6_advance hP h) mv_X6_advance w_1104 cf6 (lo_s rfl) (hP _ rfl) rfl (by decide) rfl rfl (Nat.le_of_ble_eq_true rfl) ⟨by omega, by omega⟩ ⟨(Nat.le_of_ble_eq_true rfl), (Nat.le_of_ble_eq_true rfl)⟩ dX2_readFact_116 (fun G_12 h => ?_)
    refine aw_il_n F 1 dX2_readFact_119 rfl rfl ?_
    exact aw_iret F T (Nat.le_of_ble_eq_true rfl) (Nat.le_of_ble_eq_true rfl) ⟨_, rfl, h⟩ dX2_readFact_120
set_option maxRecDepth 100000 in
set_option maxHeartbeats 4000000 in
theorem kj_X2_readFact_31 {E : Ev} {X : Cx} {post : Int32 → GH → Prop} {qX2_readFact : (Int32 → GH → Prop) → Int32 → GH → Prop} {qX2_readTest : (Int32 → GH → Prop) → Int32 → GH → Prop} {hh h2 : Nat} {v1 v2 : Int32} {G : GH} (F : Fx E X "MarkField$Question" cX2_readFact 4) (T : RT E X hh 0 0 (some .int) (pI post)) (HX2_readFact : ∀ (post : Int32 → GH → Prop) (x1 : Int32) (G : GH) , qX2_readFact post x1 G → Ct (lX X) yX2_readFact cX2_readFact 4 (some .int) h2 0 0 E (PX X) (sdX X) G [.ref (sdX X 3 0), .int x1] (pI post)) (HX2_readTest : ∀ (post : Int32 → GH → Prop) (x1 : Int32) (G : GH) , qX2_readTest post x1 G → Ct (lX X) yX2_readTest cX2_readTest 5 (some .int) h2 0 0 E (PX X) (sdX X) G [.ref (sdX X 3 0), .int x1] (pI post)) (hbase : 11 ≤ hh) (hstep : h2 + 1 ≤ hh) (h : j_X2_readFact_31 post qX2_readFact qX2_readTest v1 v2 G) : AW E X 4 31 [(0, .ref (sdX X 3 0)), (1, .int v1), (2, .int v2)] [] G 0 0 := by
  have hP := F.P
  refine aw_il_n F 1 dX2_readFact_31 rfl rfl ?_
  refine aw_bi F dX2_readFact_32 bi_6 ?_
  refine aw_icmp_lt (tgt := 43) F dX2_readFact_34 (by decide) (fun c_4 => ?_) (fun c_4 => ?_)
  · replace h := h.1 c_4
    refine aw_al_n F 0 dX2_readFact_43 rfl rfl ?_
    refine gr2_0 F (lo_s rfl) (hP _ rfl) rfl w_270 (hP 1 rfl) dX2_readFact_44 ?_
    refine aw_cVv (stk := []) F T.room [] (k_X6_advance hP h) mv_X6_advance w_1104 cf6 (lo_s rfl) (hP _ rfl) rfl (by decide) rfl rfl (Nat.le_of_ble_eq_true rfl) ⟨by omega, by omega⟩ ⟨(Nat.le_of_ble_eq_true rfl), (Nat.le_of_ble_eq_true rfl)⟩ dX2_readFact_47 (fun G_5 h => ?_)
    refine aw_il_n F 2 dX2_readFact_50 rfl rfl ?_
    refine aw_if_eq (tgt := 72) F dX2_readFact_51 (by decide) (fun c_7 => ?_) (fun c_7 => ?_)
    · replace h := h.1 c_7
      refine aw_al_n F 0 dX2_readFact_72 rfl rfl ?_
      refine aw_il_n F 1 dX2_readFact_73 rfl rfl ?_
      refine aw_ic F dX2_readFact_74 ic_1 ?_
      refine aw_iadd F dX2_readFact_75 ?_
      refine aw_cVi (stk := []) F T.room [.int (v1 + (1 : Int32))] (HX2_readTest _ _ _ h) mv_X2_readTest w_1105 cf2 (lo_s rfl) (hP _ rfl) rfl (by decide) rfl rfl (Nat.le_of_ble_eq_true rfl) ⟨by omega, by omega⟩ ⟨(Nat.le_of_ble_eq_true rfl), (Nat.le_of_ble_eq_true rfl)⟩ dX2_readFact_76 (fun r_9 G_8 h => ?_)
      refine aw_is_n (lv1 := [(3, .int r_9), (0, .ref (sdX X 3 0)), (1, .int v1), (2, .int v2)]) F dX2_readFact_79 rfl (by decide) rfl ?_
      refine aw_al_n F 1 dX2_readFact_80 rfl rfl ?_
      refine gf2_4 F (lo_s rfl) (hP _ rfl) rfl w_274 dX2_readFact_81 ?_
      refine aw_if_ne (tgt := 105) F dX2_readFact_84 (by decide) (fun c_10 => ?_) (fun c_10 => ?_)
      · replace h := h.2 c_10
        refine aw_sub [1, 0] rfl ?_
        exact kj_X2_readFact_105 F T HX2_readFact HX2_readTest hbase hstep h
      · replace h := h.1 c_10
        refine aw_al_n F 1 dX2_readFact_87 rfl rfl ?_
        refine gr2_0 F (lo_s rfl) (hP _ rfl) rfl w_270 (hP 1 rfl) dX2_readFact_88 ?_
        refine aw_bi F dX2_readFact_91 bi_41 ?_
        refine aw_cVb (stk := []) F T.room [.int (41 : Int32)] (k_X6_isSign hP h) mv_X6_isSign w_1114 cf6 (lo_s rfl) (hP _ rfl) rfl (by decide) rfl rfl (Nat.le_of_ble_eq_true rfl) ⟨by omega, by omega⟩ ⟨(Nat.le_of_ble_eq_true rfl), (Nat.le_of_ble_eq_true rfl)⟩ dX2_readFact_93 (fun b_15 G_14 h => ?_)
        refine aw_if_ne (tgt := 105) F dX2_readFact_96 (by decide) (fun c_16 => ?_) (fun c_16 => ?_)
        · replace h := h.2 (bI_1 c_16)
          refine aw_sub [1, 0] rfl ?_
          exact kj_X2_readFact_105 F T HX2_readFact HX2_readTest hbase hstep h
        · replace h := h.1 (bI_2 c_16)
          refine aw_al_n F 1 dX2_readFact_99 rfl rfl ?_
          refine aw_ic F dX2_readFact_100 ic_1 ?_
          refine aw_cVi (stk := []) F T.room [.int (1 : Int32)] (k_X2_fail hP h) mv_X2_fail w_1100 cf2 (lo_s rfl) (hP _ rfl) rfl (by decide) rfl rfl (Nat.le_of_ble_eq_true rfl) ⟨by omega, by omega⟩ ⟨(Nat.le_of_ble_eq_true rfl), (Nat.le_of_ble_eq_true rfl)⟩ dX2_readFact_101 (fun r_18 G_17 h => ?_)
          exact aw_iret F T (Nat.le_of_ble_eq_true rfl) (Nat.le_of_ble_eq_true rfl) ⟨_, rfl, h⟩ dX2_readFact_104
    · replace h := h.2 c_7
      refine aw_al_n F 0 dX2_readFact_54 rfl rfl ?_
      refine gr2_1 F (lo_s rfl) (hP _ rfl) rfl w_271 (hP 8 rfl) dX2_readFact_55 ?_
      refine aw_cVi (stk := []) F T.room [] (k_X4_allMarks hP rfl rfl h) mv_X4_allMarks w_1143 cf4 (lo_s rfl) (hP _ rfl) rfl (by decide) rfl rfl (Nat.le_of_ble_eq_true rfl) ⟨by omega, by omega⟩ ⟨(Nat.le_of_ble_eq_true rfl), (Nat.le_of_ble_eq_true rfl)⟩ dX2_readFact_58 (fun r_20 G_19 h => ?_)
      refine aw_al_n F 0 dX2_readFact_61 rfl rfl ?_
      refine aw_il_n F 1 dX2_readFact_62 rfl rfl ?_
      refine aw_ic F dX2_readFact_63 ic_1 ?_
      refine aw_iadd F dX2_readFact_64 ?_
      refine aw_cVi (stk := [.int r_20]) F T.room [.int (v1 + (1 : Int32))] (HX2_readFact _ _ _ h) mv_X2_readFact w_1109 cf2 (lo_s rfl) (hP _ rfl) rfl (by decide) rfl rfl (Nat.le_of_ble_eq_true rfl) ⟨by omega, by omega⟩ ⟨(Nat.le_of_ble_eq_true rfl), (Nat.le_of_ble_eq_true rfl)⟩ dX2_readFact_65 (fun r_22 G_21 h => ?_)
      refine aw_ic F dX2_readFact_68 ic_m1 ?_
      refine aw_ixor F dX2_readFact_69 ?_
      refine aw_iand F dX2_readFact_70 ?_
      exact aw_iret F T (Nat.le_of_ble_eq_true rfl) (Nat.le_of_ble_eq_true rfl) ⟨_, rfl, h⟩ dX2_readFact_71
  · replace h := h.2 c_4
    refine aw_al_n F 0 dX2_readFact_37 rfl rfl ?_
    refine aw_ic F dX2_readFact_38 ic_3 ?_
    refine aw_cVi (stk := []) F T.room [.int (3 : Int32)] (k_X2_fail hP h) mv_X2_fail w_1100 cf2 (lo_s rfl) (hP _ rfl) rfl (by decide) rfl rfl (Nat.le_of_ble_eq_true rfl) ⟨by omega, by omega⟩ ⟨(Nat.le_of_ble_eq_true rfl), (Nat.le_of_ble_eq_true rfl)⟩ dX2_readFact_39 (fun r_24 G_23 h => ?_)
    exact aw_iret F T (Nat.le_of_ble_eq_true rfl) (Nat.le_of_ble_eq_true rfl) ⟨_, rfl, h⟩ dX2_readFact_42
set_option maxRecDepth 100000 in
set_option maxHeartbeats 4000000 in
theorem kr_X2_readFact {E : Ev} {X : Cx} {G : GH} {post : Int32 → GH → Prop} {qX2_readFact : (Int32 → GH → Prop) → Int32 → GH → Prop} {qX2_readTest : (Int32 → GH → Prop) → Int32 → GH → Prop} {hh h2 : Nat} {x1 : Int32} (F : Fx E X "MarkField$Question" cX2_readFact 4) (T : RT E X hh 0 0 (some .int) (pI post)) (HX2_readFact : ∀ (post : Int32 → GH → Prop) (x1 : Int32) (G : GH) , qX2_readFact post x1 G → Ct (lX X) yX2_readFact cX2_readFact 4 (some .int) h2 0 0 E (PX X) (sdX X) G [.ref (sdX X 3 0), .int x1] (pI post)) (HX2_readTest : ∀ (post : Int32 → GH → Prop) (x1 : Int32) (G : GH) , qX2_readTest post x1 G → Ct (lX X) yX2_readTest cX2_readTest 5 (some .int) h2 0 0 E (PX X) (sdX X) G [.ref (sdX X 3 0), .int x1] (pI post)) (hbase : 11 ≤ hh) (hstep : h2 + 1 ≤ hh) (h : wr_X2_readFact post qX2_readFact qX2_readTest x1 G) : AW E X 4 0 [(0, .ref (sdX X 3 0)), (1, .int x1)] [] G 0 0 := by
  have hP := F.P
  refine aw_al_n F 0 dX2_readFact_0 rfl rfl ?_
  refine gr2_0 F (lo_s rfl) (hP _ rfl) rfl w_270 (hP 1 rfl) dX2_readFact_1 ?_
  refine aw_ldcS F 19 (by decide) rfl dX2_readFact_4 ?_
  refine aw_cVb (stk := []) F T.room [.ref (E.2.2.2.1 19)] (k_X6_isWord hP (by decide) h) mv_X6_isWord w_1098 cf6 (lo_s rfl) (hP _ rfl) rfl (by decide) rfl rfl (Nat.le_of_ble_eq_true rfl) ⟨by omega, by omega⟩ ⟨(Nat.le_of_ble_eq_true rfl), (Nat.le_of_ble_eq_true rfl)⟩ dX2_readFact_6 (fun b_2 G_1 h => ?_)
  refine aw_is_n (lv1 := [(2, .int (bI b_2)), (0, .ref (sdX X 3 0)), (1, .int x1)]) F dX2_readFact_9 rfl (by decide) rfl ?_
  refine aw_il_n F 0 dX2_readFact_10 rfl rfl ?_
  refine aw_if_ne (tgt := 31) F dX2_readFact_11 (by decide) (fun c_3 => ?_) (fun c_3 => ?_)
  · replace h := h.2 (bI_1 c_3)
    refine aw_sub [1, 2, 0] rfl ?_
    exact kj_X2_readFact_31 F T HX2_readFact HX2_readTest hbase hstep h
  · replace h := h.1 (bI_2 c_3)
    refine aw_al_n F 1 dX2_readFact_14 rfl rfl ?_
    refine gr2_0 F (lo_s rfl) (hP _ rfl) rfl w_270 (hP 1 rfl) dX2_readFact_15 ?_
    refine aw_bi F dX2_readFact_18 bi_40 ?_
    refine aw_cVb (stk := []) F T.room [.int (40 : Int32)] (k_X6_isSign hP h) mv_X6_isSign w_1114 cf6 (lo_s rfl) (hP _ rfl) rfl (by decide) rfl rfl (Nat.le_of_ble_eq_true rfl) ⟨by omega, by omega⟩ ⟨(Nat.le_of_ble_eq_true rfl), (Nat.le_of_ble_eq_true rfl)⟩ dX2_readFact_20 (fun b_26 G_25 h => ?_)
    refine aw_if_ne (tgt := 31) F dX2_readFact_23 (by decide) (fun c_27 => ?_) (fun c_27 => ?_)
    · replace h := h.2 (bI_1 c_27)
      refine aw_sub [1, 2, 0] rfl ?_
      exact kj_X2_readFact_31 F T HX2_readFact HX2_readTest hbase hstep h
    · replace h := h.1 (bI_2 c_27)
      refine aw_al_n F 1 dX2_readFact_26 rfl rfl ?_
      refine aw_cVi (stk := []) F T.room [] (k_X2_readComparison hP h) mv_X2_readComparison w_1115 cf2 (lo_s rfl) (hP _ rfl) rfl (by decide) rfl rfl (Nat.le_of_ble_eq_true rfl) ⟨by omega, by omega⟩ ⟨(Nat.le_of_ble_eq_true rfl), (Nat.le_of_ble_eq_true rfl)⟩ dX2_readFact_27 (fun r_29 G_28 h => ?_)
      exact aw_iret F T (Nat.le_of_ble_eq_true rfl) (Nat.le_of_ble_eq_true rfl) ⟨_, rfl, h⟩ dX2_readFact_30
-- X2_readTest (height 0)
def lb_X2_readTest_11 (post : Int32 → GH → Prop) (qX2_readFact : (Int32 → GH → Prop) → Int32 → GH → Prop) (qX2_readTest : (Int32 → GH → Prop) → Int32 → GH → Prop) (P11 : Int32 → Int32 → Int32 → Int32 → GH → Prop) (v1 v2 v3 v4 : Int32) (G : GH) : Prop :=
  (((200 : Int32) ≤ v4 → post (v2 ||| v3) G) ∧ (¬ (200 : Int32) ≤ v4 → (((G 3 0 4) = 0 → wp_X6_isWord (fun (b_6 : Bool) (G_5 : GH) => ((b_6 = false → wp_X6_isWord (fun (b_9 : Bool) (G_8 : GH) => ((b_9 = false → post (v2 ||| v3) G_8) ∧ (b_9 = true → wp_X6_advance (fun (G_11 : GH) => (∀ y_13 : Int32, y_13 = (v2 ||| v3) → qX2_readFact (fun (r_15 : Int32) (G_14 : GH) => P11 v1 y_13 r_15 (v4 + (1 : Int32)) G_14) v1 G_11)) G_8))) 18 G_5) ∧ (b_6 = true → wp_X6_advance (fun (G_16 : GH) => qX2_readFact (fun (r_19 : Int32) (G_18 : GH) => (∀ y_20 : Int32, y_20 = (v3 &&& r_19) → P11 v1 v2 y_20 (v4 + (1 : Int32)) G_18)) v1 G_16) G_5))) 17 G) ∧ (¬ (G 3 0 4) = 0 → post (v2 ||| v3) G))))
def lp_X2_readTest_11 (post : Int32 → GH → Prop) (qX2_readFact : (Int32 → GH → Prop) → Int32 → GH → Prop) (qX2_readTest : (Int32 → GH → Prop) → Int32 → GH → Prop) (v1 v2 v3 v4 : Int32) (G : GH) : Prop := ∀ P11 : Int32 → Int32 → Int32 → Int32 → GH → Prop, (∀ (v1 v2 v3 v4 : Int32) (G : GH), lb_X2_readTest_11 post qX2_readFact qX2_readTest P11 v1 v2 v3 v4 G → P11 v1 v2 v3 v4 G) → P11 v1 v2 v3 v4 G
def wr_X2_readTest (post : Int32 → GH → Prop) (qX2_readFact : (Int32 → GH → Prop) → Int32 → GH → Prop) (qX2_readTest : (Int32 → GH → Prop) → Int32 → GH → Prop) (x1 : Int32) (G : GH) : Prop :=
  qX2_readFact (fun (r_2 : Int32) (G_1 : GH) => lp_X2_readTest_11 post qX2_readFact qX2_readTest x1 (0 : Int32) r_2 (0 : Int32) G_1) x1 G
set_option maxRecDepth 100000 in
set_option maxHeartbeats 4000000 in
theorem kl_X2_readTest_11 {E : Ev} {X : Cx} {post : Int32 → GH → Prop} {qX2_readFact : (Int32 → GH → Prop) → Int32 → GH → Prop} {qX2_readTest : (Int32 → GH → Prop) → Int32 → GH → Prop} {hh h2 : Nat} {v1 v2 v3 v4 : Int32} {G : GH} (F : Fx E X "MarkField$Question" cX2_readTest 5) (T : RT E X hh 0 0 (some .int) (pI post)) (HX2_readFact : ∀ (post : Int32 → GH → Prop) (x1 : Int32) (G : GH) , qX2_readFact post x1 G → Ct (lX X) yX2_readFact cX2_readFact 4 (some .int) h2 0 0 E (PX X) (sdX X) G [.ref (sdX X 3 0), .int x1] (pI post)) (HX2_readTest : ∀ (post : Int32 → GH → Prop) (x1 : Int32) (G : GH) , qX2_readTest post x1 G → Ct (lX X) yX2_readTest cX2_readTest 5 (some .int) h2 0 0 E (PX X) (sdX X) G [.ref (sdX X 3 0), .int x1] (pI post)) (hbase : 8 ≤ hh) (hstep : h2 + 1 ≤ hh) (h : lp_X2_readTest_11 post qX2_readFact qX2_readTest v1 v2 v3 v4 G) : AW E X 5 11 [(0, .ref (sdX X 3 0)), (1, .int v1), (2, .int v2), (3, .int v3), (4, .int v4)] [] G 0 0 := by
  have hP := F.P
  have K11 : ∀ (v1 v2 v3 v4 : Int32) (G : GH), AW E X 5 11 [(0, .ref (sdX X 3 0)), (1, .int v1), (2, .int v2), (3, .int v3), (4, .int v4)] [] G 0 0 → AW E X 5 11 [(0, .ref (sdX X 3 0)), (1, .int v1), (2, .int v2), (3, .int v3), (4, .int v4)] [] G 0 0 := fun _ _ _ _ _ q => q
  refine h (fun (v1 v2 v3 v4 : Int32) (G : GH) => AW E X 5 11 [(0, .ref (sdX X 3 0)), (1, .int v1), (2, .int v2), (3, .int v3), (4, .int v4)] [] G 0 0) (fun (v1 v2 v3 v4 : Int32) (G : GH) h => ?_)
  refine aw_il F 4 dX2_readTest_11 rfl ?_
  refine aw_si F dX2_readTest_13 si_200 ?_
  refine aw_icmp_ge (tgt := 91) F dX2_readTest_16 (by decide) (fun c_3 => ?_) (fun c_3 => ?_)
  · replace h := h.1 c_3
    refine aw_il_n F 2 dX2_readTest_91 rfl rfl ?_
    refine aw_il_n F 3 dX2_readTest_92 rfl rfl ?_
    refine aw_ior F dX2_readTest_93 ?_
    exact aw_iret F T (Nat.le_of_ble_eq_true rfl) (Nat.le_of_ble_eq_true rfl) ⟨_, rfl, h⟩ dX2_readTest_94
  · replace h := h.2 c_3
    refine aw_al_n F 0 dX2_readTest_19 rfl rfl ?_
    refine gf2_4 F (lo_s rfl) (hP _ rfl) rfl w_274 dX2_readTest_20 ?_
    refine aw_if_ne (tgt := 91) F dX2_readTest_23 (by decide) (fun c_4 => ?_) (fun c_4 => ?_)
    · replace h := h.2 c_4
      refine aw_il_n F 2 dX2_readTest_91 rfl rfl ?_
      refine aw_il_n F 3 dX2_readTest_92 rfl rfl ?_
      refine aw_ior F dX2_readTest_93 ?_
      exact aw_iret F T (Nat.le_of_ble_eq_true rfl) (Nat.le_of_ble_eq_true rfl) ⟨_, rfl, h⟩ dX2_readTest_94
    · replace h := h.1 c_4
      refine aw_al_n F 0 dX2_readTest_26 rfl rfl ?_
      refine gr2_0 F (lo_s rfl) (hP _ rfl) rfl w_270 (hP 1 rfl) dX2_readTest_27 ?_
      refine aw_ldcS F 17 (by decide) rfl dX2_readTest_30 ?_
      refine aw_cVb (stk := []) F T.room [.ref (E.2.2.2.1 17)] (k_X6_isWord hP (by decide) h) mv_X6_isWord w_1098 cf6 (lo_s rfl) (hP _ rfl) rfl (by decide) rfl rfl (Nat.le_of_ble_eq_true rfl) ⟨by omega, by omega⟩ ⟨(Nat.le_of_ble_eq_true rfl), (Nat.le_of_ble_eq_true rfl)⟩ dX2_readTest_32 (fun b_6 G_5 h => ?_)
      refine aw_if_eq (tgt := 56) F dX2_readTest_35 (by decide) (fun c_7 => ?_) (fun c_7 => ?_)
      · replace h := h.1 (bI_2 c_7)
        refine aw_al_n F 0 dX2_readTest_56 rfl rfl ?_
        refine gr2_0 F (lo_s rfl) (hP _ rfl) rfl w_270 (hP 1 rfl) dX2_readTest_57 ?_
        refine aw_ldcS F 18 (by decide) rfl dX2_readTest_60 ?_
        refine aw_cVb (stk := []) F T.room [.ref (E.2.2.2.1 18)] (k_X6_isWord hP (by decide) h) mv_X6_isWord w_1098 cf6 (lo_s rfl) (hP _ rfl) rfl (by decide) rfl rfl (Nat.le_of_ble_eq_true rfl) ⟨by omega, by omega⟩ ⟨(Nat.le_of_ble_eq_true rfl), (Nat.le_of_ble_eq_true rfl)⟩ dX2_readTest_62 (fun b_9 G_8 h => ?_)
        refine aw_if_eq (tgt := 91) F dX2_readTest_65 (by decide) (fun c_10 => ?_) (fun c_10 => ?_)
        · replace h := h.1 (bI_2 c_10)
          refine aw_il_n F 2 dX2_readTest_91 rfl rfl ?_
          refine aw_il_n F 3 dX2_readTest_92 rfl rfl ?_
          refine aw_ior F dX2_readTest_93 ?_
          exact aw_iret F T (Nat.le_of_ble_eq_true rfl) (Nat.le_of_ble_eq_true rfl) ⟨_, rfl, h⟩ dX2_readTest_94
        · replace h := h.2 (bI_1 c_10)
          refine aw_al_n F 0 dX2_readTest_68 rfl rfl ?_
          refine gr2_0 F (lo_s rfl) (hP _ rfl) rfl w_270 (hP 1 rfl) dX2_readTest_69 ?_
          refine aw_cVv (stk := []) F T.room [] (k_X6_advance hP h) mv_X6_advance w_1104 cf6 (lo_s rfl) (hP _ rfl) rfl (by decide) rfl rfl (Nat.le_of_ble_eq_true rfl) ⟨by omega, by omega⟩ ⟨(Nat.le_of_ble_eq_true rfl), (Nat.le_of_ble_eq_true rfl)⟩ dX2_readTest_72 (fun G_11 h => ?_)
          refine aw_il_n F 2 dX2_readTest_75 rfl rfl ?_
          refine aw_il_n F 3 dX2_readTest_76 rfl rfl ?_
          refine aw_ior F dX2_readTest_77 ?_
          refine aw_top (fun y_13 ey_13 => ?_)
          replace h := h y_13 ey_13
          refine aw_is_n (lv1 := [(2, .int y_13), (0, .ref (sdX X 3 0)), (1, .int v1), (3, .int v3), (4, .int v4)]) F dX2_readTest_78 rfl (by decide) rfl ?_
          refine aw_al_n F 1 dX2_readTest_79 rfl rfl ?_
          refine aw_il_n F 2 dX2_readTest_80 rfl rfl ?_
          refine aw_cVi (stk := []) F T.room [.int v1] (HX2_readFact _ _ _ h) mv_X2_readFact w_1109 cf2 (lo_s rfl) (hP _ rfl) rfl (by decide) rfl rfl (Nat.le_of_ble_eq_true rfl) ⟨by omega, by omega⟩ ⟨(Nat.le_of_ble_eq_true rfl), (Nat.le_of_ble_eq_true rfl)⟩ dX2_readTest_81 (fun r_15 G_14 h => ?_)
          refine aw_is_n (lv1 := [(3, .int r_15), (2, .int y_13), (0, .ref (sdX X 3 0)), (1, .int v1), (4, .int v4)]) F dX2_readTest_84 rfl (by decide) rfl ?_
          refine aw_inc (lv1 := [(4, .int (v4 + (1 : Int32))), (3, .int r_15), (2, .int y_13), (0, .ref (sdX X 3 0)), (1, .int v1)]) F 4 dX2_readTest_85 rfl (in_1 _) (by decide) rfl ?_
          refine aw_go (tgt := 11) F dX2_readTest_88 (by decide) ?_
          refine aw_sub [3, 4, 2, 1, 0] rfl ?_
          exact K11 _ _ _ _ _ h
      · replace h := h.2 (bI_1 c_7)
        refine aw_al_n F 0 dX2_readTest_38 rfl rfl ?_
        refine gr2_0 F (lo_s rfl) (hP _ rfl) rfl w_270 (hP 1 rfl) dX2_readTest_39 ?_
        refine aw_cVv (stk := []) F T.room [] (k_X6_advance hP h) mv_X6_advance w_1104 cf6 (lo_s rfl) (hP _ rfl) rfl (by decide) rfl rfl (Nat.le_of_ble_eq_true rfl) ⟨by omega, by omega⟩ ⟨(Nat.le_of_ble_eq_true rfl), (Nat.le_of_ble_eq_true rfl)⟩ dX2_readTest_42 (fun G_16 h => ?_)
        refine aw_il_n F 3 dX2_readTest_45 rfl rfl ?_
        refine aw_al_n F 0 dX2_readTest_46 rfl rfl ?_
        refine aw_il_n F 1 dX2_readTest_47 rfl rfl ?_
        refine aw_cVi (stk := [.int v3]) F T.room [.int v1] (HX2_readFact _ _ _ h) mv_X2_readFact w_1109 cf2 (lo_s rfl) (hP _ rfl) rfl (by decide) rfl rfl (Nat.le_of_ble_eq_true rfl) ⟨by omega, by omega⟩ ⟨(Nat.le_of_ble_eq_true rfl), (Nat.le_of_ble_eq_true rfl)⟩ dX2_readTest_48 (fun r_19 G_18 h => ?_)
        refine aw_iand F dX2_readTest_51 ?_
        refine aw_top (fun y_20 ey_20 => ?_)
        replace h := h y_20 ey_20
        refine aw_is_n (lv1 := [(3, .int y_20), (0, .ref (sdX X 3 0)), (1, .int v1), (2, .int v2), (4, .int v4)]) F dX2_readTest_52 rfl (by decide) rfl ?_
        refine aw_go (tgt := 85) F dX2_readTest_53 (by decide) ?_
        refine aw_inc (lv1 := [(4, .int (v4 + (1 : Int32))), (3, .int y_20), (0, .ref (sdX X 3 0)), (1, .int v1), (2, .int v2)]) F 4 dX2_readTest_85 rfl (in_1 _) (by decide) rfl ?_
        refine aw_go (tgt := 11) F dX2_readTest_88 (by decide) ?_
        refine aw_sub [2, 3, 4, 1, 0] rfl ?_
        exact K11 _ _ _ _ _ h
set_option maxRecDepth 100000 in
set_option maxHeartbeats 4000000 in
theorem kr_X2_readTest {E : Ev} {X : Cx} {G : GH} {post : Int32 → GH → Prop} {qX2_readFact : (Int32 → GH → Prop) → Int32 → GH → Prop} {qX2_readTest : (Int32 → GH → Prop) → Int32 → GH → Prop} {hh h2 : Nat} {x1 : Int32} (F : Fx E X "MarkField$Question" cX2_readTest 5) (T : RT E X hh 0 0 (some .int) (pI post)) (HX2_readFact : ∀ (post : Int32 → GH → Prop) (x1 : Int32) (G : GH) , qX2_readFact post x1 G → Ct (lX X) yX2_readFact cX2_readFact 4 (some .int) h2 0 0 E (PX X) (sdX X) G [.ref (sdX X 3 0), .int x1] (pI post)) (HX2_readTest : ∀ (post : Int32 → GH → Prop) (x1 : Int32) (G : GH) , qX2_readTest post x1 G → Ct (lX X) yX2_readTest cX2_readTest 5 (some .int) h2 0 0 E (PX X) (sdX X) G [.ref (sdX X 3 0), .int x1] (pI post)) (hbase : 8 ≤ hh) (hstep : h2 + 1 ≤ hh) (h : wr_X2_readTest post qX2_readFact qX2_readTest x1 G) : AW E X 5 0 [(0, .ref (sdX X 3 0)), (1, .int x1)] [] G 0 0 := by
  have hP := F.P
  refine aw_ic F dX2_readTest_0 ic_0 ?_
  refine aw_is_n (lv1 := [(2, .int (0 : Int32)), (0, .ref (sdX X 3 0)), (1, .int x1)]) F dX2_readTest_1 rfl (by decide) rfl ?_
  refine aw_al_n F 1 dX2_readTest_2 rfl rfl ?_
  refine aw_il_n F 2 dX2_readTest_3 rfl rfl ?_
  refine aw_cVi (stk := []) F T.room [.int x1] (HX2_readFact _ _ _ h) mv_X2_readFact w_1109 cf2 (lo_s rfl) (hP _ rfl) rfl (by decide) rfl rfl (Nat.le_of_ble_eq_true rfl) ⟨by omega, by omega⟩ ⟨(Nat.le_of_ble_eq_true rfl), (Nat.le_of_ble_eq_true rfl)⟩ dX2_readTest_4 (fun r_2 G_1 h => ?_)
  refine aw_is_n (lv1 := [(3, .int r_2), (2, .int (0 : Int32)), (0, .ref (sdX X 3 0)), (1, .int x1)]) F dX2_readTest_7 rfl (by decide) rfl ?_
  refine aw_ic F dX2_readTest_8 ic_0 ?_
  refine aw_is (lv1 := [(4, .int (0 : Int32)), (3, .int r_2), (2, .int (0 : Int32)), (0, .ref (sdX X 3 0)), (1, .int x1)]) F dX2_readTest_9 (by decide) rfl ?_
  refine aw_sub [3, 4, 2, 1, 0] rfl ?_
  exact kl_X2_readTest_11 F T HX2_readFact HX2_readTest hbase hstep h
