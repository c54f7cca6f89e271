theorem w_1758 : (Jvm.Cond.code ({ cls := "MarkFieldModel", name := "readQuestion", desc := "(II)Z" } : Jvm.MethodName) prog_10_method_123_code (4 : Nat) (Option.some Jvm.ClassFile.FieldType.boolean)) ∈ tb := tb_of (List.mem_of_getElem? (i := 1758) (by decide +kernel)) rfl
theorem w_1757 : (Jvm.Cond.instanceMethod ({ cls := "MarkFieldModel", name := "readQuestion", desc := "(II)Z" } : Jvm.MethodName)) ∈ tb := tb_of (List.mem_of_getElem? (i := 1757) (by decide +kernel)) rfl
theorem ws_109 : (Jvm.Cond.selects "MarkFieldModel" ({ cls := "MarkFieldModel", name := "readQuestion", desc := "(II)Z" } : Jvm.MethodName) ({ cls := "MarkFieldModel", name := "readQuestion", desc := "(II)Z" } : Jvm.MethodName)) ∈ tb := tb_sel (List.mem_of_getElem? (i := 109) (by decide +kernel)) rfl
theorem w_1755 : (Jvm.Cond.methodLink "MarkFieldModel" (497 : Nat) ({ cls := "MarkFieldModel", name := "readQuestion", desc := "(II)Z" } : Jvm.MethodName)) ∈ tb := tb_of (List.mem_of_getElem? (i := 1755) (by decide +kernel)) rfl
theorem mv_X8_readQuestion : MV yX8_readQuestion cX8_readQuestion 4 (some .boolean) 2 := ⟨⟨w_1758, w_10, by decide, by decide, by decide +kernel⟩, w_1757, ws_109⟩
-- X8_readQuestion (height 57)
def j_X8_readQuestion_35 (post : Bool → GH → Prop) (G : GH) : Prop :=
  wp_X8_pass (fun (G_7 : GH) => wp_X8_readTest (fun (b_10 : Bool) (G_9 : GH) => (((G_9 24 0 38) = 0 → (((G_9 24 0 35) = 0 → post b_10 G_9) ∧ (¬ (G_9 24 0 35) = 0 → wp_X8_wrong (fun (G_13 : GH) => post b_10 G_13) (1 : Int32) G_9))) ∧ (¬ (G_9 24 0 38) = 0 → post b_10 G_9))) G_7) G
def wp_X8_readQuestion (post : Bool → GH → Prop) (x1 x2 : Int32) (G : GH) : Prop :=
  (∀ G_1 : GH, G_1 = gs G 24 0 (upd (G 24 0) 42 x2) → wp_X8_opens (fun (G_2 : GH) => wp_X8_isWord (fun (b_5 : Bool) (G_4 : GH) => ((b_5 = false → wp_X8_isWord (fun (b_16 : Bool) (G_15 : GH) => ((b_16 = false → wp_X8_wrong (fun (G_18 : GH) => j_X8_readQuestion_35 post G_18) (1 : Int32) G_15) ∧ (b_16 = true → j_X8_readQuestion_35 post G_15))) 63 G_4) ∧ (b_5 = true → j_X8_readQuestion_35 post G_4))) 62 G_2) x1 G_1)
set_option maxRecDepth 100000 in
set_option maxHeartbeats 4000000 in
theorem kj_X8_readQuestion_35 {E : Ev} {X : Cx} {post : Bool → GH → Prop} {G : GH} (F : Fx E X "MarkFieldModel" cX8_readQuestion 4) (T : RT E X 57 0 0 (some .boolean) (pB post)) (h : j_X8_readQuestion_35 post G) : AW E X 4 35 [(0, .ref (sdX X 24 0))] [] G 0 0 := by
  have hP := F.P
  refine aw_al_n F 0 dX8_readQuestion_35 rfl rfl ?_
  refine aw_cVv (stk := []) F T.room [] (k_X8_pass hP h) mv_X8_pass w_1676 cf8 (lo_s rfl) (hP _ rfl) rfl (by decide) rfl rfl (Nat.le_of_ble_eq_true rfl) ⟨(Nat.le_of_ble_eq_true rfl), (Nat.le_of_ble_eq_true rfl)⟩ ⟨(Nat.le_of_ble_eq_true rfl), (Nat.le_of_ble_eq_true rfl)⟩ dX8_readQuestion_36 (fun G_7 h => ?_)
  refine aw_al_n F 0 dX8_readQuestion_39 rfl rfl ?_
  refine aw_cVb (stk := []) F T.room [] (k_X8_readTest hP h) mv_X8_readTest w_1760 cf8 (lo_s rfl) (hP _ rfl) rfl (by decide) rfl rfl (Nat.le_of_ble_eq_true rfl) ⟨(Nat.le_of_ble_eq_true rfl), (Nat.le_of_ble_eq_true rfl)⟩ ⟨(Nat.le_of_ble_eq_true rfl), (Nat.le_of_ble_eq_true rfl)⟩ dX8_readQuestion_40 (fun b_10 G_9 h => ?_)
  refine aw_is_n (lv1 := [(3, .int (bI b_10)), (0, .ref (sdX X 24 0))]) F dX8_readQuestion_43 rfl (by decide) rfl ?_
  refine aw_al_n F 1 dX8_readQuestion_44 rfl rfl ?_
  refine gf8_38 F (lo_s rfl) (hP _ rfl) rfl w_1198 dX8_readQuestion_45 ?_
  refine aw_if_ne (tgt := 63) F dX8_readQuestion_48 (by decide) (fun c_11 => ?_) (fun c_11 => ?_)
  · replace h := h.2 c_11
    refine aw_il_n F 0 dX8_readQuestion_63 rfl rfl ?_
    exact aw_zret F T b_10 rfl (Nat.le_of_ble_eq_true rfl) (Nat.le_of_ble_eq_true rfl) ⟨_, rfl, h⟩ dX8_readQuestion_64
  · replace h := h.1 c_11
    refine aw_al_n F 1 dX8_readQuestion_51 rfl rfl ?_
    refine gf8_35 F (lo_s rfl) (hP _ rfl) rfl w_1195 dX8_readQuestion_52 ?_
    refine aw_if_eq (tgt := 63) F dX8_readQuestion_55 (by decide) (fun c_12 => ?_) (fun c_12 => ?_)
    · replace h := h.1 c_12
      refine aw_il_n F 0 dX8_readQuestion_63 rfl rfl ?_
      exact aw_zret F T b_10 rfl (Nat.le_of_ble_eq_true rfl) (Nat.le_of_ble_eq_true rfl) ⟨_, rfl, h⟩ dX8_readQuestion_64
    · replace h := h.2 c_12
      refine aw_al_n F 1 dX8_readQuestion_58 rfl rfl ?_
      refine aw_ic F dX8_readQuestion_59 ic_1 ?_
      refine aw_cVv (stk := []) F T.room [.int (1 : Int32)] (k_X8_wrong hP h) mv_X8_wrong w_1672 cf8 (lo_s rfl) (hP _ rfl) rfl (by decide) rfl rfl (Nat.le_of_ble_eq_true rfl) ⟨(Nat.le_of_ble_eq_true rfl), (Nat.le_of_ble_eq_true rfl)⟩ ⟨(Nat.le_of_ble_eq_true rfl), (Nat.le_of_ble_eq_true rfl)⟩ dX8_readQuestion_60 (fun G_13 h => ?_)
      refine aw_il_n F 0 dX8_readQuestion_63 rfl rfl ?_
      exact aw_zret F T b_10 rfl (Nat.le_of_ble_eq_true rfl) (Nat.le_of_ble_eq_true rfl) ⟨_, rfl, h⟩ dX8_readQuestion_64
set_option maxRecDepth 100000 in
set_option maxHeartbeats 4000000 in
theorem k_X8_readQuestion {l : Launch} {E : Ev} {P : Nat → Prop} {sd : Nat → Nat → Nat} {G : GH} {post : Bool → GH → Prop} {x1 x2 : Int32} (hPP : ∀ o, stt o = true → P o) (h : wp_X8_readQuestion post x1 x2 G) : Ct l yX8_readQuestion cX8_readQuestion 4 (some .boolean) 57 0 0 E P sd G [.ref (sd 24 0), .int x1, .int x2] (pB post) := by
  refine ct_of (own := "MarkFieldModel") (by decide) rfl (Nat.le_of_ble_eq_true rfl) hPP (fun X F T el eP es => ?_)
  subst el; subst eP; subst es
  have hP := F.P
  change AW E X 4 0 [(0, .ref (sdX X 24 0)), (1, .int x1), (2, .int x2)] [] G 0 0
  refine aw_al_n F 0 dX8_readQuestion_0 rfl rfl ?_
  refine aw_il_n F 2 dX8_readQuestion_1 rfl rfl ?_
  refine pf8_42 F (lo_s rfl) (hP _ rfl) rfl w_1202 dX8_readQuestion_2 (fun G_1 eG_1 => ?_)
  replace h := h G_1 eG_1
  refine aw_al_n F 0 dX8_readQuestion_5 rfl rfl ?_
  refine aw_il_n F 1 dX8_readQuestion_6 rfl rfl ?_
  refine aw_cVv (stk := []) F T.room [.int x1] (k_X8_opens hP h) mv_X8_opens w_1647 cf8 (lo_s rfl) (hP _ rfl) rfl (by decide) rfl rfl (Nat.le_of_ble_eq_true rfl) ⟨(Nat.le_of_ble_eq_true rfl), (Nat.le_of_ble_eq_true rfl)⟩ ⟨(Nat.le_of_ble_eq_true rfl), (Nat.le_of_ble_eq_true rfl)⟩ dX8_readQuestion_7 (fun G_2 h => ?_)
  refine aw_al_n F 0 dX8_readQuestion_10 rfl rfl ?_
  refine aw_ldcSw F 62 (by decide) rfl dX8_readQuestion_11 ?_
  refine aw_cVb (stk := []) F T.room [.ref (E.2.2.2.1 62)] (k_X8_isWord hP (by decide) h) mv_X8_isWord w_1666 cf8 (lo_s rfl) (hP _ rfl) rfl (by decide) rfl rfl (Nat.le_of_ble_eq_true rfl) ⟨(Nat.le_of_ble_eq_true rfl), (Nat.le_of_ble_eq_true rfl)⟩ ⟨(Nat.le_of_ble_eq_true rfl), (Nat.le_of_ble_eq_true rfl)⟩ dX8_readQuestion_14 (fun b_5 G_4 h => ?_)
  refine aw_if_ne (tgt := 35) F dX8_readQuestion_17 (by decide) (fun c_6 => ?_) (fun c_6 => ?_)
  · replace h := h.2 (bI_1 c_6)
    refine aw_sub [0] rfl ?_
    exact kj_X8_readQuestion_35 F T h
  · replace h := h.1 (bI_2 c_6)
    refine aw_al_n F 0 dX8_readQuestion_20 rfl rfl ?_
    refine aw_ldcSw F 63 (by decide) rfl dX8_readQuestion_21 ?_
    refine aw_cVb (stk := []) F T.room [.ref (E.2.2.2.1 63)] (k_X8_isWord hP (by decide) h) mv_X8_isWord w_1666 cf8 (lo_s rfl) (hP _ rfl) rfl (by decide) rfl rfl (Nat.le_of_ble_eq_true rfl) ⟨(Nat.le_of_ble_eq_true rfl), (Nat.le_of_ble_eq_true rfl)⟩ ⟨(Nat.le_of_ble_eq_true rfl), (Nat.le_of_ble_eq_true rfl)⟩ dX8_readQuestion_24 (fun b_16 G_15 h => ?_)
    refine aw_if_ne (tgt := 35) F dX8_readQuestion_27 (by decide) (fun c_17 => ?_) (fun c_17 => ?_)
    · replace h := h.2 (bI_1 c_17)
      refine aw_sub [0] rfl ?_
      exact kj_X8_readQuestion_35 F T h
    · replace h := h.1 (bI_2 c_17)
      refine aw_al_n F 0 dX8_readQuestion_30 rfl rfl ?_
      refine aw_ic F dX8_readQuestion_31 ic_1 ?_
      refine aw_cVv (stk := []) F T.room [.int (1 : Int32)] (k_X8_wrong hP h) mv_X8_wrong w_1672 cf8 (lo_s rfl) (hP _ rfl) rfl (by decide) rfl rfl (Nat.le_of_ble_eq_true rfl) ⟨(Nat.le_of_ble_eq_true rfl), (Nat.le_of_ble_eq_true rfl)⟩ ⟨(Nat.le_of_ble_eq_true rfl), (Nat.le_of_ble_eq_true rfl)⟩ dX8_readQuestion_32 (fun G_18 h => ?_)
      refine aw_sub [0] rfl ?_
      exact kj_X8_readQuestion_35 F T h
-- X8_ask (height 58)
def lb_X8_ask_93 (post : Int32 → GH → Prop) (P93 : Int32 → Int32 → Int32 → Int32 → GH → Prop) (v1 v3 v6 v7 : Int32) (G : GH) : Prop :=
  wp_X8_marks (fun (r_17 : Int32) (G_16 : GH) => ((r_17 ≤ v7 → ((v3 = 0 → post v6 G_16) ∧ (¬ v3 = 0 → post (-1 : Int32) G_16))) ∧ (¬ r_17 ≤ v7 → wp_X8_readQuestion (fun (b_21 : Bool) (G_20 : GH) => ((b_21 = false → P93 v1 v3 v6 (v7 + (1 : Int32)) G_20) ∧ (b_21 = true → ((v3 = 0 → P93 v1 v3 (v6 + (1 : Int32)) (v7 + (1 : Int32)) G_20) ∧ (¬ v3 = 0 → post v7 G_20))))) v1 v7 G_16))) G
def lp_X8_ask_93 (post : Int32 → GH → Prop) (v1 v3 v6 v7 : Int32) (G : GH) : Prop := ∀ P93 : Int32 → Int32 → Int32 → Int32 → GH → Prop, (∀ (v1 v3 v6 v7 : Int32) (G : GH), lb_X8_ask_93 post P93 v1 v3 v6 v7 G → P93 v1 v3 v6 v7 G) → P93 v1 v3 v6 v7 G
def j_X8_ask_31 (post : Int32 → GH → Prop) (v1 v2 s1 : Int32) (G : GH) : Prop :=
  (∀ G_4 : GH, G_4 = gs G 24 0 (upd (G 24 0) 5 s1) → (((G_4 24 0 5) ≤ 0 → (∀ G_6 : GH, G_6 = gs G_4 24 0 (upd (G_4 24 0) 43 v2) → wp_X8_opens (fun (G_7 : GH) => wp_X8_isWord (fun (b_10 : Bool) (G_9 : GH) => wp_X8_readQuestion (fun (b_12 : Bool) (G_11 : GH) => wp_X8_ends (fun (r_14 : Int32) (G_13 : GH) => ((r_14 = 0 → lp_X8_ask_93 post v1 (bI b_10) (0 : Int32) (0 : Int32) G_13) ∧ (¬ r_14 = 0 → post ((-1000000000 : Int32) - r_14) G_13))) G_11) v1 (-1 : Int32) G_9) 63 G_7) v1 G_6)) ∧ (¬ (G_4 24 0 5) ≤ 0 → post (0 : Int32) G_4)))
def j_X8_ask_26 (post : Int32 → GH → Prop) (v1 v2 : Int32) (G : GH) : Prop :=
  j_X8_ask_31 post v1 v2 (1 : Int32) G
def wp_X8_ask (post : Int32 → GH → Prop) (x1 x2 : Int32) (G : GH) : Prop :=
  wp_X8_within (fun (b_2 : Bool) (G_1 : GH) => ((b_2 = false → j_X8_ask_26 post x1 x2 G_1) ∧ (b_2 = true → wp_X8_isDay (fun (b_25 : Bool) (G_24 : GH) => ((b_25 = false → j_X8_ask_26 post x1 x2 G_24) ∧ (b_25 = true → j_X8_ask_31 post x1 x2 (0 : Int32) G_24))) x2 G_1))) x1 (0 : Int32) (imin (G 24 0 32) (200 : Int32)) G
set_option maxRecDepth 100000 in
set_option maxHeartbeats 4000000 in
theorem kl_X8_ask_93 {E : Ev} {X : Cx} {post : Int32 → GH → Prop} {v1 v3 v6 v7 : Int32} {G : GH} (F : Fx E X "MarkFieldModel" cX8_ask 8) (T : RT E X 58 0 0 (some .int) (pI post)) (h : lp_X8_ask_93 post v1 v3 v6 v7 G) : AW E X 8 93 [(0, .ref (sdX X 24 0)), (1, .int v1), (3, .int v3), (6, .int v6), (7, .int v7)] [] G 0 0 := by
  have hP := F.P
  have K93 : ∀ (v1 v3 v6 v7 : Int32) (G : GH), AW E X 8 93 [(0, .ref (sdX X 24 0)), (1, .int v1), (3, .int v3), (6, .int v6), (7, .int v7)] [] G 0 0 → AW E X 8 93 [(0, .ref (sdX X 24 0)), (1, .int v1), (3, .int v3), (6, .int v6), (7, .int v7)] [] G 0 0 := fun _ _ _ _ _ q => q
  refine h (fun (v1 v3 v6 v7 : Int32) (G : GH) => AW E X 8 93 [(0, .ref (sdX X 24 0)), (1, .int v1), (3, .int v3), (6, .int v6), (7, .int v7)] [] G 0 0) (fun (v1 v3 v6 v7 : Int32) (G : GH) h => ?_)
  refine aw_il F 4 dX8_ask_93 rfl ?_
  refine aw_al_n F 0 dX8_ask_95 rfl rfl ?_
  refine aw_cVi (stk := [.int v7]) F T.room [] (k_X8_marks hP h) mv_X8_marks w_1305 cf8 (lo_s rfl) (hP _ rfl) rfl (by decide) rfl rfl (Nat.le_of_ble_eq_true rfl) ⟨(Nat.le_of_ble_eq_true rfl), (Nat.le_of_ble_eq_true rfl)⟩ ⟨(Nat.le_of_ble_eq_true rfl), (Nat.le_of_ble_eq_true rfl)⟩ dX8_ask_96 (fun r_17 G_16 h => ?_)
  refine aw_icmp_ge (tgt := 131) F dX8_ask_99 (by decide) (fun c_18 => ?_) (fun c_18 => ?_)
  · replace h := h.1 c_18
    refine aw_il_n F 2 dX8_ask_131 rfl rfl ?_
    refine aw_if_eq (tgt := 139) F dX8_ask_132 (by decide) (fun c_19 => ?_) (fun c_19 => ?_)
    · replace h := h.1 c_19
      refine aw_il F 3 dX8_ask_139 rfl ?_
      exact aw_iret F T (Nat.le_of_ble_eq_true rfl) (Nat.le_of_ble_eq_true rfl) ⟨_, rfl, h⟩ dX8_ask_141
    · replace h := h.2 c_19
      refine aw_ic F dX8_ask_135 ic_m1 ?_
      refine aw_go (tgt := 141) F dX8_ask_136 (by decide) ?_
      exact aw_iret F T (Nat.le_of_ble_eq_true rfl) (Nat.le_of_ble_eq_true rfl) ⟨_, rfl, h⟩ dX8_ask_141
  · replace h := h.2 c_18
    refine aw_al_n F 0 dX8_ask_102 rfl rfl ?_
    refine aw_il_n F 1 dX8_ask_103 rfl rfl ?_
    refine aw_il F 4 dX8_ask_104 rfl ?_
    refine aw_cVb (stk := []) F T.room [.int v1, .int v7] (k_X8_readQuestion hP h) mv_X8_readQuestion w_1755 cf8 (lo_s rfl) (hP _ rfl) rfl (by decide) rfl rfl (Nat.le_of_ble_eq_true rfl) ⟨(Nat.le_of_ble_eq_true rfl), (Nat.le_of_ble_eq_true rfl)⟩ ⟨(Nat.le_of_ble_eq_true rfl), (Nat.le_of_ble_eq_true rfl)⟩ dX8_ask_106 (fun b_21 G_20 h => ?_)
    refine aw_if_ne (tgt := 115) F dX8_ask_109 (by decide) (fun c_22 => ?_) (fun c_22 => ?_)
    · replace h := h.2 (bI_1 c_22)
      refine aw_il_n F 2 dX8_ask_115 rfl rfl ?_
      refine aw_if_eq (tgt := 122) F dX8_ask_116 (by decide) (fun c_23 => ?_) (fun c_23 => ?_)
      · replace h := h.1 c_23
        refine aw_inc (lv1 := [(6, .int (v6 + (1 : Int32))), (0, .ref (sdX X 24 0)), (1, .int v1), (3, .int v3), (7, .int v7)]) F 3 dX8_ask_122 rfl (in_1 _) (by decide) rfl ?_
        refine aw_inc (lv1 := [(7, .int (v7 + (1 : Int32))), (6, .int (v6 + (1 : Int32))), (0, .ref (sdX X 24 0)), (1, .int v1), (3, .int v3)]) F 4 dX8_ask_125 rfl (in_1 _) (by decide) rfl ?_
        refine aw_go (tgt := 93) F dX8_ask_128 (by decide) ?_
        refine aw_sub [2, 3, 4, 1, 0] rfl ?_
        exact K93 _ _ _ _ _ h
      · replace h := h.2 c_23
        refine aw_il F 4 dX8_ask_119 rfl ?_
        exact aw_iret F T (Nat.le_of_ble_eq_true rfl) (Nat.le_of_ble_eq_true rfl) ⟨_, rfl, h⟩ dX8_ask_121
    · replace h := h.1 (bI_2 c_22)
      refine aw_go (tgt := 125) F dX8_ask_112 (by decide) ?_
      refine aw_inc (lv1 := [(7, .int (v7 + (1 : Int32))), (0, .ref (sdX X 24 0)), (1, .int v1), (3, .int v3), (6, .int v6)]) F 4 dX8_ask_125 rfl (in_1 _) (by decide) rfl ?_
      refine aw_go (tgt := 93) F dX8_ask_128 (by decide) ?_
      refine aw_sub [1, 2, 3, 4, 0] rfl ?_
      exact K93 _ _ _ _ _ h
set_option maxRecDepth 100000 in
set_option maxHeartbeats 4000000 in
theorem kj_X8_ask_31 {E : Ev} {X : Cx} {post : Int32 → GH → Prop} {v1 v2 s1 : Int32} {G : GH} (F : Fx E X "MarkFieldModel" cX8_ask 8) (T : RT E X 58 0 0 (some .int) (pI post)) (h : j_X8_ask_31 post v1 v2 s1 G) : AW E X 8 31 [(0, .ref (sdX X 24 0)), (1, .int v1), (2, .int v2)] [.int s1, .ref (sdX X 24 0)] G 0 0 := by
  have hP := F.P
  refine pf8_5 F (lo_s rfl) (hP _ rfl) rfl w_1165 dX8_ask_31 (fun G_4 eG_4 => ?_)
  replace h := h G_4 eG_4
  refine aw_al_n F 0 dX8_ask_34 rfl rfl ?_
  refine gf8_5 F (lo_s rfl) (hP _ rfl) rfl w_1165 dX8_ask_35 ?_
  refine aw_if_le (tgt := 43) F dX8_ask_38 (by decide) (fun c_5 => ?_) (fun c_5 => ?_)
  · replace h := h.1 c_5
    refine aw_al_n F 0 dX8_ask_43 rfl rfl ?_
    refine aw_il_n F 2 dX8_ask_44 rfl rfl ?_
    refine pf8_43 F (lo_s rfl) (hP _ rfl) rfl w_1203 dX8_ask_45 (fun G_6 eG_6 => ?_)
    replace h := h G_6 eG_6
    refine aw_al_n F 0 dX8_ask_48 rfl rfl ?_
    refine aw_il_n F 1 dX8_ask_49 rfl rfl ?_
    refine aw_cVv (stk := []) F T.room [.int v1] (k_X8_opens hP h) mv_X8_opens w_1647 cf8 (lo_s rfl) (hP _ rfl) rfl (by decide) rfl rfl (Nat.le_of_ble_eq_true rfl) ⟨(Nat.le_of_ble_eq_true rfl), (Nat.le_of_ble_eq_true rfl)⟩ ⟨(Nat.le_of_ble_eq_true rfl), (Nat.le_of_ble_eq_true rfl)⟩ dX8_ask_50 (fun G_7 h => ?_)
    refine aw_al_n F 0 dX8_ask_53 rfl rfl ?_
    refine aw_ldcSw F 63 (by decide) rfl dX8_ask_54 ?_
    refine aw_cVb (stk := []) F T.room [.ref (E.2.2.2.1 63)] (k_X8_isWord hP (by decide) h) mv_X8_isWord w_1666 cf8 (lo_s rfl) (hP _ rfl) rfl (by decide) rfl rfl (Nat.le_of_ble_eq_true rfl) ⟨(Nat.le_of_ble_eq_true rfl), (Nat.le_of_ble_eq_true rfl)⟩ ⟨(Nat.le_of_ble_eq_true rfl), (Nat.le_of_ble_eq_true rfl)⟩ dX8_ask_57 (fun b_10 G_9 h => ?_)
    refine aw_is_n (lv1 := [(3, .int (bI b_10)), (0, .ref (sdX X 24 0)), (1, .int v1), (2, .int v2)]) F dX8_ask_60 rfl (by decide) rfl ?_
    refine aw_al_n F 1 dX8_ask_61 rfl rfl ?_
    refine aw_il_n F 2 dX8_ask_62 rfl rfl ?_
    refine aw_ic F dX8_ask_63 ic_m1 ?_
    refine aw_cVb (stk := []) F T.room [.int v1, .int (-1 : Int32)] (k_X8_readQuestion hP h) mv_X8_readQuestion w_1755 cf8 (lo_s rfl) (hP _ rfl) rfl (by decide) rfl rfl (Nat.le_of_ble_eq_true rfl) ⟨(Nat.le_of_ble_eq_true rfl), (Nat.le_of_ble_eq_true rfl)⟩ ⟨(Nat.le_of_ble_eq_true rfl), (Nat.le_of_ble_eq_true rfl)⟩ dX8_ask_64 (fun b_12 G_11 h => ?_)
    refine aw_is (lv1 := [(4, .int (bI b_12)), (3, .int (bI b_10)), (0, .ref (sdX X 24 0)), (1, .int v1), (2, .int v2)]) F dX8_ask_67 (by decide) rfl ?_
    refine aw_al_n F 2 dX8_ask_69 rfl rfl ?_
    refine aw_cVi (stk := []) F T.room [] (k_X8_ends hP h) mv_X8_ends w_1746 cf8 (lo_s rfl) (hP _ rfl) rfl (by decide) rfl rfl (Nat.le_of_ble_eq_true rfl) ⟨(Nat.le_of_ble_eq_true rfl), (Nat.le_of_ble_eq_true rfl)⟩ ⟨(Nat.le_of_ble_eq_true rfl), (Nat.le_of_ble_eq_true rfl)⟩ dX8_ask_70 (fun r_14 G_13 h => ?_)
    refine aw_is (lv1 := [(5, .int r_14), (4, .int (bI b_12)), (3, .int (bI b_10)), (0, .ref (sdX X 24 0)), (1, .int v1), (2, .int v2)]) F dX8_ask_73 (by decide) rfl ?_
    refine aw_il F 0 dX8_ask_75 rfl ?_
    refine aw_if_eq (tgt := 87) F dX8_ask_77 (by decide) (fun c_15 => ?_) (fun c_15 => ?_)
    · replace h := h.1 c_15
      refine aw_ic F dX8_ask_87 ic_0 ?_
      refine aw_is (lv1 := [(6, .int (0 : Int32)), (5, .int r_14), (4, .int (bI b_12)), (3, .int (bI b_10)), (0, .ref (sdX X 24 0)), (1, .int v1), (2, .int v2)]) F dX8_ask_88 (by decide) rfl ?_
      refine aw_ic F dX8_ask_90 ic_0 ?_
      refine aw_is (lv1 := [(7, .int (0 : Int32)), (6, .int (0 : Int32)), (5, .int r_14), (4, .int (bI b_12)), (3, .int (bI b_10)), (0, .ref (sdX X 24 0)), (1, .int v1), (2, .int v2)]) F dX8_ask_91 (by decide) rfl ?_
      refine aw_sub [5, 6, 4, 1, 0] rfl ?_
      exact kl_X8_ask_93 F T h
    · replace h := h.2 c_15
      refine aw_ldcw F dX8_ask_80 w_1544 ?_
      refine aw_il F 0 dX8_ask_83 rfl ?_
      refine aw_isub F dX8_ask_85 ?_
      exact aw_iret F T (Nat.le_of_ble_eq_true rfl) (Nat.le_of_ble_eq_true rfl) ⟨_, rfl, h⟩ dX8_ask_86
  · replace h := h.2 c_5
    refine aw_ic F dX8_ask_41 ic_0 ?_
    exact aw_iret F T (Nat.le_of_ble_eq_true rfl) (Nat.le_of_ble_eq_true rfl) ⟨_, rfl, h⟩ dX8_ask_42
set_option maxRecDepth 100000 in
set_option maxHeartbeats 4000000 in
theorem kj_X8_ask_26 {E : Ev} {X : Cx} {post : Int32 → GH → Prop} {v1 v2 : Int32} {G : GH} (F : Fx E X "MarkFieldModel" cX8_ask 8) (T : RT E X 58 0 0 (some .int) (pI post)) (h : j_X8_ask_26 post v1 v2 G) : AW E X 8 26 [(0, .ref (sdX X 24 0)), (1, .int v1), (2, .int v2)] [.ref (sdX X 24 0)] G 0 0 := by
  have hP := F.P
  refine aw_ic F dX8_ask_26 ic_1 ?_
  refine aw_go (tgt := 31) F dX8_ask_27 (by decide) ?_
  exact kj_X8_ask_31 F T h
set_option maxRecDepth 100000 in
set_option maxHeartbeats 4000000 in
theorem k_X8_ask {l : Launch} {E : Ev} {P : Nat → Prop} {sd : Nat → Nat → Nat} {G : GH} {post : Int32 → GH → Prop} {x1 x2 : Int32} (hPP : ∀ o, stt o = true → P o) (h : wp_X8_ask post x1 x2 G) : Ct l yX8_ask cX8_ask 8 (some .int) 58 0 0 E P sd G [.ref (sd 24 0), .int x1, .int x2] (pI post) := by
  refine ct_of (own := "MarkFieldModel") (by decide) rfl (Nat.le_of_ble_eq_true rfl) hPP (fun X F T el eP es => ?_)
  subst el; subst eP; subst es
  have hP := F.P
  change AW E X 8 0 [(0, .ref (sdX X 24 0)), (1, .int x1), (2, .int x2)] [] G 0 0
  refine aw_al_n F 0 dX8_ask_0 rfl rfl ?_
  refine aw_il_n F 1 dX8_ask_1 rfl rfl ?_
  refine aw_ic F dX8_ask_2 ic_0 ?_
  refine aw_al_n F 0 dX8_ask_3 rfl rfl ?_
  refine gf8_32 F (lo_s rfl) (hP _ rfl) rfl w_1192 dX8_ask_4 ?_
  refine aw_si F dX8_ask_7 si_200 ?_
  refine aw_min F T.room w_1355 w_479 w_16 w_480 (Nat.le_of_ble_eq_true rfl) (Nat.le_of_ble_eq_true rfl) ⟨(Nat.le_of_ble_eq_true rfl), (Nat.le_of_ble_eq_true rfl)⟩ dX8_ask_10 ?_
  refine aw_cSb (stk := [.ref (sdX X 24 0)]) F T.room [.int x1, .int (0 : Int32), .int (imin (G 24 0 32) (200 : Int32))] (k_X8_within hP h) ms_X8_within w_1427 rfl rfl (Nat.le_of_ble_eq_true rfl) ⟨(Nat.le_of_ble_eq_true rfl), (Nat.le_of_ble_eq_true rfl)⟩ ⟨(Nat.le_of_ble_eq_true rfl), (Nat.le_of_ble_eq_true rfl)⟩ dX8_ask_13 (fun b_2 G_1 h => ?_)
  refine aw_if_eq (tgt := 26) F dX8_ask_16 (by decide) (fun c_3 => ?_) (fun c_3 => ?_)
  · replace h := h.1 (bI_2 c_3)
    exact kj_X8_ask_26 F T h
  · replace h := h.2 (bI_1 c_3)
    refine aw_il_n F 2 dX8_ask_19 rfl rfl ?_
    refine aw_cSb (stk := [.ref (sdX X 24 0)]) F T.room [.int x2] (k_X8_isDay hP h) ms_X8_isDay w_1461 rfl rfl (Nat.le_of_ble_eq_true rfl) ⟨(Nat.le_of_ble_eq_true rfl), (Nat.le_of_ble_eq_true rfl)⟩ ⟨(Nat.le_of_ble_eq_true rfl), (Nat.le_of_ble_eq_true rfl)⟩ dX8_ask_20 (fun b_25 G_24 h => ?_)
    refine aw_if_ne (tgt := 30) F dX8_ask_23 (by decide) (fun c_26 => ?_) (fun c_26 => ?_)
    · replace h := h.2 (bI_1 c_26)
      refine aw_ic F dX8_ask_30 ic_0 ?_
      exact kj_X8_ask_31 F T h
    · replace h := h.1 (bI_2 c_26)
      exact kj_X8_ask_26 F T h
