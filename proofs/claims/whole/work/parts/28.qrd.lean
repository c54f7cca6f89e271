theorem w_1096 : (Jvm.Cond.methodLink "MarkField$Question" (37 : Nat) ({ cls := "MarkField$Tape", name := "takeText", desc := "(I)V" } : Jvm.MethodName)) ∈ tb := tb_of (List.mem_of_getElem? (i := 1096) (by decide +kernel)) rfl
theorem w_1149 : (Jvm.Cond.code ({ cls := "MarkField$Question", name := "firstOf", desc := "(I)I" } : Jvm.MethodName) prog_4_method_3_code (3 : Nat) (Option.some Jvm.ClassFile.FieldType.int)) ∈ tb := tb_of (List.mem_of_getElem? (i := 1149) (by decide +kernel)) rfl
theorem w_1148 : (Jvm.Cond.instanceMethod ({ cls := "MarkField$Question", name := "firstOf", desc := "(I)I" } : Jvm.MethodName)) ∈ tb := tb_of (List.mem_of_getElem? (i := 1148) (by decide +kernel)) rfl
theorem ws_37 : (Jvm.Cond.selects "MarkField$Question" ({ cls := "MarkField$Question", name := "firstOf", desc := "(I)I" } : Jvm.MethodName) ({ cls := "MarkField$Question", name := "firstOf", desc := "(I)I" } : Jvm.MethodName)) ∈ tb := tb_sel (List.mem_of_getElem? (i := 37) (by decide +kernel)) rfl
theorem w_1146 : (Jvm.Cond.methodLink "MarkField$Question" (69 : Nat) ({ cls := "MarkField$Question", name := "firstOf", desc := "(I)I" } : Jvm.MethodName)) ∈ tb := tb_of (List.mem_of_getElem? (i := 1146) (by decide +kernel)) rfl
theorem w_277 : (Jvm.Cond.fieldLink "MarkField$Question" (18 : Nat) "MarkField$Question" "answer" "I") ∈ tb := tb_of (List.mem_of_getElem? (i := 277) (by decide +kernel)) rfl
theorem mv_X2_firstOf : MV yX2_firstOf cX2_firstOf 3 (some .int) 1 := ⟨⟨w_1149, w_9, by decide, by decide, by decide +kernel⟩, w_1148, ws_37⟩
-- X2_read (height 37)
def j_X2_read_108 (post : Int32 → GH → Prop) (s1 : Int32) (G : GH) : Prop :=
  (∀ G_16 : GH, G_16 = gs G 3 0 (upd (G 3 0) 6 s1) → post (G_16 3 0 4) G_16)
def j_X2_read_91 (post : Int32 → GH → Prop) (v2 v3 : Int32) (G : GH) : Prop :=
  ((v2 = 0 → wp_X2_firstOf (fun (r_15 : Int32) (G_14 : GH) => j_X2_read_108 post r_15 G_14) v3 G) ∧ (¬ v2 = 0 → wp_J6_bitCount_0f7a4 (fun (r_18 : Int32) (G_17 : GH) => j_X2_read_108 post r_18 G_17) v3 G))
def j_X2_read_55 (post : Int32 → GH → Prop) (v2 : Int32) (G : GH) : Prop :=
  wp_X6_advance (fun (G_8 : GH) => wp_X2_readTest (fun (r_11 : Int32) (G_10 : GH) => (((G_10 3 0 4) = 0 → (((G_10 1 0 2) = 0 → j_X2_read_91 post v2 r_11 G_10) ∧ (¬ (G_10 1 0 2) = 0 → wp_X2_fail (fun (r_21 : Int32) (G_20 : GH) => j_X2_read_91 post v2 r_11 G_20) (1 : Int32) G_10))) ∧ (¬ (G_10 3 0 4) = 0 → j_X2_read_91 post v2 r_11 G_10))) (0 : Int32) G_8) G
def wp_X2_read (post : Int32 → GH → Prop) (x1 : Int32) (G : GH) : Prop :=
  (∀ G_1 : GH, G_1 = gs G 3 0 (upd (G 3 0) 4 (0 : Int32)) → (∀ G_2 : GH, G_2 = gs G_1 3 0 (upd (G_1 3 0) 5 (-1 : Int32)) → wp_X6_takeText (fun (G_3 : GH) => wp_X6_isWord (fun (b_6 : Bool) (G_5 : GH) => ((b_6 = false → wp_X6_isWord (fun (b_23 : Bool) (G_22 : GH) => ((b_23 = false → wp_X2_fail (fun (r_26 : Int32) (G_25 : GH) => post (G_25 3 0 4) G_25) (1 : Int32) G_22) ∧ (b_23 = true → j_X2_read_55 post (bI b_6) G_22))) 16 G_5) ∧ (b_6 = true → j_X2_read_55 post (bI b_6) G_5))) 15 G_3) x1 G_2))
set_option maxRecDepth 100000 in
set_option maxHeartbeats 4000000 in
theorem kj_X2_read_108 {E : Ev} {X : Cx} {post : Int32 → GH → Prop} {s1 : Int32} {G : GH} (F : Fx E X "MarkField$Question" cX2_read 4) (T : RT E X 37 0 0 (some .int) (pI post)) (h : j_X2_read_108 post s1 G) : AW E X 4 108 [(0, .ref (sdX X 3 0))] [.int s1, .ref (sdX X 3 0)] G 0 0 := by
  have hP := F.P
  refine pf2_6 F (lo_s rfl) (hP _ rfl) rfl w_277 dX2_read_108 (fun G_16 eG_16 => ?_)
  replace h := h G_16 eG_16
  refine aw_al_n F 0 dX2_read_111 rfl rfl ?_
  refine gf2_4 F (lo_s rfl) (hP _ rfl) rfl w_274 dX2_read_112 ?_
  exact aw_iret F T (Nat.le_of_ble_eq_true rfl) (Nat.le_of_ble_eq_true rfl) ⟨_, rfl, h⟩ dX2_read_115
set_option maxRecDepth 100000 in
set_option maxHeartbeats 4000000 in
theorem kj_X2_read_91 {E : Ev} {X : Cx} {post : Int32 → GH → Prop} {v2 v3 : Int32} {G : GH} (F : Fx E X "MarkField$Question" cX2_read 4) (T : RT E X 37 0 0 (some .int) (pI post)) (h : j_X2_read_91 post v2 v3 G) : AW E X 4 91 [(0, .ref (sdX X 3 0)), (2, .int v2), (3, .int v3)] [] G 0 0 := by
  have hP := F.P
  refine aw_al_n F 0 dX2_read_91 rfl rfl ?_
  refine aw_il_n F 1 dX2_read_92 rfl rfl ?_
  refine aw_if_eq (tgt := 103) F dX2_read_93 (by decide) (fun c_13 => ?_) (fun c_13 => ?_)
  · replace h := h.1 c_13
    refine aw_al_n F 0 dX2_read_103 rfl rfl ?_
    refine aw_il_n F 2 dX2_read_104 rfl rfl ?_
    refine aw_cVi (stk := [.ref (sdX X 3 0)]) F T.room [.int v3] (k_X2_firstOf hP h) mv_X2_firstOf w_1146 cf2 (lo_s rfl) (hP _ rfl) rfl (by decide) rfl rfl (Nat.le_of_ble_eq_true rfl) ⟨(Nat.le_of_ble_eq_true rfl), (Nat.le_of_ble_eq_true rfl)⟩ ⟨(Nat.le_of_ble_eq_true rfl), (Nat.le_of_ble_eq_true rfl)⟩ dX2_read_105 (fun r_15 G_14 h => ?_)
    refine aw_sub [0] rfl ?_
    exact kj_X2_read_108 F T h
  · replace h := h.2 c_13
    refine aw_il_n F 2 dX2_read_96 rfl rfl ?_
    refine aw_cSi (stk := [.ref (sdX X 3 0)]) F T.room [.int v3] (k_J6_bitCount_0f7a4 hP h) ms_J6_bitCount_0f7a4 w_1140 rfl rfl (Nat.le_of_ble_eq_true rfl) ⟨(Nat.le_of_ble_eq_true rfl), (Nat.le_of_ble_eq_true rfl)⟩ ⟨(Nat.le_of_ble_eq_true rfl), (Nat.le_of_ble_eq_true rfl)⟩ dX2_read_97 (fun r_18 G_17 h => ?_)
    refine aw_go (tgt := 108) F dX2_read_100 (by decide) ?_
    refine aw_sub [0] rfl ?_
    exact kj_X2_read_108 F T h
set_option maxRecDepth 100000 in
set_option maxHeartbeats 4000000 in
theorem kj_X2_read_55 {E : Ev} {X : Cx} {post : Int32 → GH → Prop} {v2 : Int32} {G : GH} (F : Fx E X "MarkField$Question" cX2_read 4) (T : RT E X 37 0 0 (some .int) (pI post)) (h : j_X2_read_55 post v2 G) : AW E X 4 55 [(0, .ref (sdX X 3 0)), (2, .int v2)] [] G 0 0 := by
  have hP := F.P
  refine aw_al_n F 0 dX2_read_55 rfl rfl ?_
  refine gr2_0 F (lo_s rfl) (hP _ rfl) rfl w_270 (hP 1 rfl) dX2_read_56 ?_
  refine aw_cVv (stk := []) F T.room [] (k_X6_advance hP h) mv_X6_advance w_1104 cf6 (lo_s rfl) (hP _ rfl) rfl (by decide) rfl rfl (Nat.le_of_ble_eq_true rfl) ⟨(Nat.le_of_ble_eq_true rfl), (Nat.le_of_ble_eq_true rfl)⟩ ⟨(Nat.le_of_ble_eq_true rfl), (Nat.le_of_ble_eq_true rfl)⟩ dX2_read_59 (fun G_8 h => ?_)
  refine aw_al_n F 0 dX2_read_62 rfl rfl ?_
  refine aw_ic F dX2_read_63 ic_0 ?_
  refine aw_cVi (stk := []) F T.room [.int (0 : Int32)] (k_X2_readTest hP h) mv_X2_readTest w_1105 cf2 (lo_s rfl) (hP _ rfl) rfl (by decide) rfl rfl (Nat.le_of_ble_eq_true rfl) ⟨(Nat.le_of_ble_eq_true rfl), (Nat.le_of_ble_eq_true rfl)⟩ ⟨(Nat.le_of_ble_eq_true rfl), (Nat.le_of_ble_eq_true rfl)⟩ dX2_read_64 (fun r_11 G_10 h => ?_)
  refine aw_is_n (lv1 := [(3, .int r_11), (0, .ref (sdX X 3 0)), (2, .int v2)]) F dX2_read_67 rfl (by decide) rfl ?_
  refine aw_al_n F 1 dX2_read_68 rfl rfl ?_
  refine gf2_4 F (lo_s rfl) (hP _ rfl) rfl w_274 dX2_read_69 ?_
  refine aw_if_ne (tgt := 91) F dX2_read_72 (by decide) (fun c_12 => ?_) (fun c_12 => ?_)
  · replace h := h.2 c_12
    refine aw_sub [1, 2, 0] rfl ?_
    exact kj_X2_read_91 F T h
  · replace h := h.1 c_12
    refine aw_al_n F 1 dX2_read_75 rfl rfl ?_
    refine gr2_0 F (lo_s rfl) (hP _ rfl) rfl w_270 (hP 1 rfl) dX2_read_76 ?_
    refine gf6_2 F (lo_s rfl) (hP _ rfl) rfl w_44 dX2_read_79 ?_
    refine aw_if_eq (tgt := 91) F dX2_read_82 (by decide) (fun c_19 => ?_) (fun c_19 => ?_)
    · replace h := h.1 c_19
      refine aw_sub [1, 2, 0] rfl ?_
      exact kj_X2_read_91 F T h
    · replace h := h.2 c_19
      refine aw_al_n F 1 dX2_read_85 rfl rfl ?_
      refine aw_ic F dX2_read_86 ic_1 ?_
      refine aw_cVi (stk := []) F T.room [.int (1 : Int32)] (k_X2_fail hP h) mv_X2_fail w_1100 cf2 (lo_s rfl) (hP _ rfl) rfl (by decide) rfl rfl (Nat.le_of_ble_eq_true rfl) ⟨(Nat.le_of_ble_eq_true rfl), (Nat.le_of_ble_eq_true rfl)⟩ ⟨(Nat.le_of_ble_eq_true rfl), (Nat.le_of_ble_eq_true rfl)⟩ dX2_read_87 (fun r_21 G_20 h => ?_)
      refine aw_pop F dX2_read_90 rfl ?_
      refine aw_sub [1, 2, 0] rfl ?_
      exact kj_X2_read_91 F T h
set_option maxRecDepth 100000 in
set_option maxHeartbeats 4000000 in
theorem k_X2_read {l : Launch} {E : Ev} {P : Nat → Prop} {sd : Nat → Nat → Nat} {G : GH} {post : Int32 → GH → Prop} {x1 : Int32} (hPP : ∀ o, stt o = true → P o) (h : wp_X2_read post x1 G) : Ct l yX2_read cX2_read 4 (some .int) 37 0 0 E P sd G [.ref (sd 3 0), .int x1] (pI post) := by
  refine ct_of (own := "MarkField$Question") (by decide) rfl (Nat.le_of_ble_eq_true rfl) hPP (fun X F T el eP es => ?_)
  subst el; subst eP; subst es
  have hP := F.P
  change AW E X 4 0 [(0, .ref (sdX X 3 0)), (1, .int x1)] [] G 0 0
  refine aw_al_n F 0 dX2_read_0 rfl rfl ?_
  refine aw_ic F dX2_read_1 ic_0 ?_
  refine pf2_4 F (lo_s rfl) (hP _ rfl) rfl w_274 dX2_read_2 (fun G_1 eG_1 => ?_)
  replace h := h G_1 eG_1
  refine aw_al_n F 0 dX2_read_5 rfl rfl ?_
  refine aw_ic F dX2_read_6 ic_m1 ?_
  refine pf2_5 F (lo_s rfl) (hP _ rfl) rfl w_275 dX2_read_7 (fun G_2 eG_2 => ?_)
  replace h := h G_2 eG_2
  refine aw_al_n F 0 dX2_read_10 rfl rfl ?_
  refine gr2_0 F (lo_s rfl) (hP _ rfl) rfl w_270 (hP 1 rfl) dX2_read_11 ?_
  refine aw_il_n F 1 dX2_read_14 rfl rfl ?_
  refine aw_cVv (stk := []) F T.room [.int x1] (k_X6_takeText hP h) mv_X6_takeText w_1096 cf6 (lo_s rfl) (hP _ rfl) rfl (by decide) rfl rfl (Nat.le_of_ble_eq_true rfl) ⟨(Nat.le_of_ble_eq_true rfl), (Nat.le_of_ble_eq_true rfl)⟩ ⟨(Nat.le_of_ble_eq_true rfl), (Nat.le_of_ble_eq_true rfl)⟩ dX2_read_15 (fun G_3 h => ?_)
  refine aw_al_n F 0 dX2_read_18 rfl rfl ?_
  refine gr2_0 F (lo_s rfl) (hP _ rfl) rfl w_270 (hP 1 rfl) dX2_read_19 ?_
  refine aw_ldcS F 15 (by decide) rfl dX2_read_22 ?_
  refine aw_cVb (stk := []) F T.room [.ref (E.2.2.2.1 15)] (k_X6_isWord hP (by decide) h) mv_X6_isWord w_1098 cf6 (lo_s rfl) (hP _ rfl) rfl (by decide) rfl rfl (Nat.le_of_ble_eq_true rfl) ⟨(Nat.le_of_ble_eq_true rfl), (Nat.le_of_ble_eq_true rfl)⟩ ⟨(Nat.le_of_ble_eq_true rfl), (Nat.le_of_ble_eq_true rfl)⟩ dX2_read_24 (fun b_6 G_5 h => ?_)
  refine aw_is_n (lv1 := [(2, .int (bI b_6)), (0, .ref (sdX X 3 0)), (1, .int x1)]) F dX2_read_27 rfl (by decide) rfl ?_
  refine aw_il_n F 0 dX2_read_28 rfl rfl ?_
  refine aw_if_ne (tgt := 55) F dX2_read_29 (by decide) (fun c_7 => ?_) (fun c_7 => ?_)
  · replace h := h.2 (bI_1 c_7)
    refine aw_sub [1, 0] rfl ?_
    exact kj_X2_read_55 F T h
  · replace h := h.1 (bI_2 c_7)
    refine aw_al_n F 1 dX2_read_32 rfl rfl ?_
    refine gr2_0 F (lo_s rfl) (hP _ rfl) rfl w_270 (hP 1 rfl) dX2_read_33 ?_
    refine aw_ldcS F 16 (by decide) rfl dX2_read_36 ?_
    refine aw_cVb (stk := []) F T.room [.ref (E.2.2.2.1 16)] (k_X6_isWord hP (by decide) h) mv_X6_isWord w_1098 cf6 (lo_s rfl) (hP _ rfl) rfl (by decide) rfl rfl (Nat.le_of_ble_eq_true rfl) ⟨(Nat.le_of_ble_eq_true rfl), (Nat.le_of_ble_eq_true rfl)⟩ ⟨(Nat.le_of_ble_eq_true rfl), (Nat.le_of_ble_eq_true rfl)⟩ dX2_read_38 (fun b_23 G_22 h => ?_)
    refine aw_if_ne (tgt := 55) F dX2_read_41 (by decide) (fun c_24 => ?_) (fun c_24 => ?_)
    · replace h := h.2 (bI_1 c_24)
      refine aw_sub [1, 0] rfl ?_
      exact kj_X2_read_55 F T h
    · replace h := h.1 (bI_2 c_24)
      refine aw_al_n F 1 dX2_read_44 rfl rfl ?_
      refine aw_ic F dX2_read_45 ic_1 ?_
      refine aw_cVi (stk := []) F T.room [.int (1 : Int32)] (k_X2_fail hP h) mv_X2_fail w_1100 cf2 (lo_s rfl) (hP _ rfl) rfl (by decide) rfl rfl (Nat.le_of_ble_eq_true rfl) ⟨(Nat.le_of_ble_eq_true rfl), (Nat.le_of_ble_eq_true rfl)⟩ ⟨(Nat.le_of_ble_eq_true rfl), (Nat.le_of_ble_eq_true rfl)⟩ dX2_read_46 (fun r_26 G_25 h => ?_)
      refine aw_pop F dX2_read_49 rfl ?_
      refine aw_al_n F 1 dX2_read_50 rfl rfl ?_
      refine gf2_4 F (lo_s rfl) (hP _ rfl) rfl w_274 dX2_read_51 ?_
      exact aw_iret F T (Nat.le_of_ble_eq_true rfl) (Nat.le_of_ble_eq_true rfl) ⟨_, rfl, h⟩ dX2_read_54
