theorem w_759 : (Jvm.Cond.code ({ cls := "MarkField", name := "hasMark", desc := "(I)Z" } : Jvm.MethodName) prog_1_method_37_code (2 : Nat) (Option.some Jvm.ClassFile.FieldType.boolean)) ∈ tb := tb_of (List.mem_of_getElem? (i := 759) (by decide +kernel)) rfl
theorem w_758 : (Jvm.Cond.instanceMethod ({ cls := "MarkField", name := "hasMark", desc := "(I)Z" } : Jvm.MethodName)) ∈ tb := tb_of (List.mem_of_getElem? (i := 758) (by decide +kernel)) rfl
theorem ws_18 : (Jvm.Cond.selects "MarkField" ({ cls := "MarkField", name := "hasMark", desc := "(I)Z" } : Jvm.MethodName) ({ cls := "MarkField", name := "hasMark", desc := "(I)Z" } : Jvm.MethodName)) ∈ tb := tb_sel (List.mem_of_getElem? (i := 18) (by decide +kernel)) rfl
theorem w_756 : (Jvm.Cond.methodLink "MarkField" (387 : Nat) ({ cls := "MarkField", name := "hasMark", desc := "(I)Z" } : Jvm.MethodName)) ∈ tb := tb_of (List.mem_of_getElem? (i := 756) (by decide +kernel)) rfl
theorem w_827 : (Jvm.Cond.code ({ cls := "MarkField", name := "isDay", desc := "(I)Z" } : Jvm.MethodName) prog_1_method_32_code (1 : Nat) (Option.some Jvm.ClassFile.FieldType.boolean)) ∈ tb := tb_of (List.mem_of_getElem? (i := 827) (by decide +kernel)) rfl
theorem w_826 : (Jvm.Cond.static ({ cls := "MarkField", name := "isDay", desc := "(I)Z" } : Jvm.MethodName)) ∈ tb := tb_of (List.mem_of_getElem? (i := 826) (by decide +kernel)) rfl
theorem w_825 : (Jvm.Cond.methodLink "MarkField" (343 : Nat) ({ cls := "MarkField", name := "isDay", desc := "(I)Z" } : Jvm.MethodName)) ∈ tb := tb_of (List.mem_of_getElem? (i := 825) (by decide +kernel)) rfl
theorem w_382 : (Jvm.Cond.code ({ cls := "MarkField", name := "needBytes", desc := "(I)V" } : Jvm.MethodName) prog_1_method_43_code (2 : Nat) (Option.none : Option Jvm.ClassFile.FieldType)) ∈ tb := tb_of (List.mem_of_getElem? (i := 382) (by decide +kernel)) rfl
theorem w_381 : (Jvm.Cond.instanceMethod ({ cls := "MarkField", name := "needBytes", desc := "(I)V" } : Jvm.MethodName)) ∈ tb := tb_of (List.mem_of_getElem? (i := 381) (by decide +kernel)) rfl
theorem ws_0 : (Jvm.Cond.selects "MarkField" ({ cls := "MarkField", name := "needBytes", desc := "(I)V" } : Jvm.MethodName) ({ cls := "MarkField", name := "needBytes", desc := "(I)V" } : Jvm.MethodName)) ∈ tb := tb_sel (List.mem_of_getElem? (i := 0) (by decide +kernel)) rfl
theorem w_379 : (Jvm.Cond.methodLink "MarkField" (88 : Nat) ({ cls := "MarkField", name := "needBytes", desc := "(I)V" } : Jvm.MethodName)) ∈ tb := tb_of (List.mem_of_getElem? (i := 379) (by decide +kernel)) rfl
theorem w_824 : (Jvm.Cond.code ({ cls := "MarkField", name := "needDay", desc := "(I)V" } : Jvm.MethodName) prog_1_method_42_code (1 : Nat) (Option.none : Option Jvm.ClassFile.FieldType)) ∈ tb := tb_of (List.mem_of_getElem? (i := 824) (by decide +kernel)) rfl
theorem w_823 : (Jvm.Cond.static ({ cls := "MarkField", name := "needDay", desc := "(I)V" } : Jvm.MethodName)) ∈ tb := tb_of (List.mem_of_getElem? (i := 823) (by decide +kernel)) rfl
theorem w_822 : (Jvm.Cond.methodLink "MarkField" (228 : Nat) ({ cls := "MarkField", name := "needDay", desc := "(I)V" } : Jvm.MethodName)) ∈ tb := tb_of (List.mem_of_getElem? (i := 822) (by decide +kernel)) rfl
theorem mv_X7_hasMark : MV yX7_hasMark cX7_hasMark 2 (some .boolean) 1 := ⟨⟨w_759, w_1, by decide, by decide, by decide +kernel⟩, w_758, ws_18⟩
theorem ms_X7_isDay : MS yX7_isDay cX7_isDay 1 (some .boolean) 1 := ⟨⟨w_827, w_1, by decide, by decide, by decide +kernel⟩, w_826⟩
theorem mv_X7_needBytes : MV yX7_needBytes cX7_needBytes 2 none 1 := ⟨⟨w_382, w_1, by decide, by decide, by decide +kernel⟩, w_381, ws_0⟩
theorem ms_X7_needDay : MS yX7_needDay cX7_needDay 1 none 1 := ⟨⟨w_824, w_1, by decide, by decide, by decide +kernel⟩, w_823⟩
-- X7_needBytes (height 6)
def j_X7_needBytes_15 (post : GH → Prop) (px : Nat → GH → Prop) (G : GH) : Prop :=
  px 1 G
def wp_X7_needBytes (post : GH → Prop) (px : Nat → GH → Prop) (x1 : Int32) (G : GH) : Prop :=
  ((x1 < 0 → j_X7_needBytes_15 post px G) ∧ (¬ x1 < 0 → ((x1 ≤ (G 1 0 1) → post G) ∧ (¬ x1 ≤ (G 1 0 1) → j_X7_needBytes_15 post px G))))
set_option maxRecDepth 100000 in
set_option maxHeartbeats 4000000 in
theorem kj_X7_needBytes_15 {E : Ev} {X : Cx} {post : GH → Prop} {px : Nat → GH → Prop} {G : GH} (F : Fx E X "MarkField" cX7_needBytes 2) (T : RTX E X 6 1 6 none (pV post) px) (h : j_X7_needBytes_15 post px G) : AW E X 2 15 [] [] G 0 0 := by
  have hP := F.P
  exact aw_thr F T 1 (by decide) 14 (by decide) rfl true (Nat.le_of_ble_eq_true rfl) (Nat.le_of_ble_eq_true rfl) (Nat.le_of_ble_eq_true rfl) (Nat.le_of_ble_eq_true rfl) h dX7_needBytes_15 dX7_needBytes_18 dX7_needBytes_19 dX7_needBytes_22 dX7_needBytes_25
set_option maxRecDepth 100000 in
set_option maxHeartbeats 4000000 in
theorem k_X7_needBytes {l : Launch} {E : Ev} {P : Nat → Prop} {sd : Nat → Nat → Nat} {G : GH} {post : GH → Prop} {px : Nat → GH → Prop} {x1 : Int32} (hl0 : l.stackTraces = false) (hPP : ∀ o, stt o = true → P o) (h : wp_X7_needBytes post px x1 G) : CtX l yX7_needBytes cX7_needBytes 2 none 6 1 6 E P sd G [.ref (sd 0 0), .int x1] (pV post) px := by
  refine ctx_of hl0 (own := "MarkField") (by decide) rfl (Nat.le_of_ble_eq_true rfl) hPP (fun X F T el eP es => ?_)
  subst el; subst eP; subst es
  have hP := F.P
  change AW E X 2 0 [(0, .ref (sdX X 0 0)), (1, .int x1)] [] G 0 0
  refine aw_il_n F 1 dX7_needBytes_0 rfl rfl ?_
  refine aw_if_lt (tgt := 15) F dX7_needBytes_1 (by decide) (fun c_1 => ?_) (fun c_1 => ?_)
  · replace h := h.1 c_1
    refine aw_sub [] rfl ?_
    exact kj_X7_needBytes_15 F T h
  · replace h := h.2 c_1
    refine aw_il_n F 1 dX7_needBytes_4 rfl rfl ?_
    refine aw_al_n F 0 dX7_needBytes_5 rfl rfl ?_
    refine gr7_0 F (lo_s rfl) (hP _ rfl) rfl w_294 (hP 1 rfl) dX7_needBytes_6 ?_
    refine gf6_1 F (lo_s rfl) (hP _ rfl) rfl w_41 dX7_needBytes_9 ?_
    refine aw_icmp_le (tgt := 26) F dX7_needBytes_12 (by decide) (fun c_2 => ?_) (fun c_2 => ?_)
    · replace h := h.1 c_2
      exact aw_vretX F T (Nat.le_of_ble_eq_true rfl) (Nat.le_of_ble_eq_true rfl) ⟨rfl, h⟩ dX7_needBytes_26
    · replace h := h.2 c_2
      refine aw_sub [] rfl ?_
      exact kj_X7_needBytes_15 F T h
-- X7_needMark (height 6)
def wp_X7_needMark (post : GH → Prop) (px : Nat → GH → Prop) (x1 : Int32) (G : GH) : Prop :=
  wp_X7_hasMark (fun (b_2 : Bool) (G_1 : GH) => ((b_2 = false → px 0 G_1) ∧ (b_2 = true → post G_1))) x1 G
set_option maxRecDepth 100000 in
set_option maxHeartbeats 4000000 in
theorem k_X7_needMark {l : Launch} {E : Ev} {P : Nat → Prop} {sd : Nat → Nat → Nat} {G : GH} {post : GH → Prop} {px : Nat → GH → Prop} {x1 : Int32} (hl0 : l.stackTraces = false) (hPP : ∀ o, stt o = true → P o) (h : wp_X7_needMark post px x1 G) : CtX l yX7_needMark cX7_needMark 2 none 6 1 6 E P sd G [.ref (sd 0 0), .int x1] (pV post) px := by
  refine ctx_of hl0 (own := "MarkField") (by decide) rfl (Nat.le_of_ble_eq_true rfl) hPP (fun X F T el eP es => ?_)
  subst el; subst eP; subst es
  have hP := F.P
  change AW E X 2 0 [(0, .ref (sdX X 0 0)), (1, .int x1)] [] G 0 0
  refine aw_al_n F 0 dX7_needMark_0 rfl rfl ?_
  refine aw_il_n F 1 dX7_needMark_1 rfl rfl ?_
  refine aw_cVb (stk := []) F T.room [.int x1] (k_X7_hasMark hP h) mv_X7_hasMark w_756 cf7 (lo_s rfl) (hP _ rfl) rfl (by decide) rfl rfl (Nat.le_of_ble_eq_true rfl) ⟨(Nat.le_of_ble_eq_true rfl), (Nat.le_of_ble_eq_true rfl)⟩ ⟨(Nat.le_of_ble_eq_true rfl), (Nat.le_of_ble_eq_true rfl)⟩ dX7_needMark_2 (fun b_2 G_1 h => ?_)
  refine aw_if_ne (tgt := 19) F dX7_needMark_5 (by decide) (fun c_3 => ?_) (fun c_3 => ?_)
  · replace h := h.2 (bI_1 c_3)
    exact aw_vretX F T (Nat.le_of_ble_eq_true rfl) (Nat.le_of_ble_eq_true rfl) ⟨rfl, h⟩ dX7_needMark_19
  · replace h := h.1 (bI_2 c_3)
    exact aw_thr F T 0 (by decide) 9 (by decide) rfl true (Nat.le_of_ble_eq_true rfl) (Nat.le_of_ble_eq_true rfl) (Nat.le_of_ble_eq_true rfl) (Nat.le_of_ble_eq_true rfl) h dX7_needMark_8 dX7_needMark_11 dX7_needMark_12 dX7_needMark_15 dX7_needMark_18
-- X7_needWhat (height 6)
def j_X7_needWhat_9 (post : GH → Prop) (px : Nat → GH → Prop) (G : GH) : Prop :=
  px 0 G
def wp_X7_needWhat (post : GH → Prop) (px : Nat → GH → Prop) (x0 x1 : Int32) (G : GH) : Prop :=
  ((x0 < 0 → j_X7_needWhat_9 post px G) ∧ (¬ x0 < 0 → ((x0 ≤ x1 → post G) ∧ (¬ x0 ≤ x1 → j_X7_needWhat_9 post px G))))
set_option maxRecDepth 100000 in
set_option maxHeartbeats 4000000 in
theorem kj_X7_needWhat_9 {E : Ev} {X : Cx} {post : GH → Prop} {px : Nat → GH → Prop} {G : GH} (F : Fx E X "MarkField" cX7_needWhat 2) (T : RTX E X 6 1 6 none (pV post) px) (h : j_X7_needWhat_9 post px G) : AW E X 2 9 [] [] G 0 0 := by
  have hP := F.P
  exact aw_thr F T 0 (by decide) 12 (by decide) rfl true (Nat.le_of_ble_eq_true rfl) (Nat.le_of_ble_eq_true rfl) (Nat.le_of_ble_eq_true rfl) (Nat.le_of_ble_eq_true rfl) h dX7_needWhat_9 dX7_needWhat_12 dX7_needWhat_13 dX7_needWhat_16 dX7_needWhat_19
set_option maxRecDepth 100000 in
set_option maxHeartbeats 4000000 in
theorem k_X7_needWhat {l : Launch} {E : Ev} {P : Nat → Prop} {sd : Nat → Nat → Nat} {G : GH} {post : GH → Prop} {px : Nat → GH → Prop} {x0 x1 : Int32} (hl0 : l.stackTraces = false) (hPP : ∀ o, stt o = true → P o) (h : wp_X7_needWhat post px x0 x1 G) : CtX l yX7_needWhat cX7_needWhat 2 none 6 1 6 E P sd G [.int x0, .int x1] (pV post) px := by
  refine ctx_of hl0 (own := "MarkField") (by decide) rfl (Nat.le_of_ble_eq_true rfl) hPP (fun X F T el eP es => ?_)
  subst el; subst eP; subst es
  have hP := F.P
  change AW E X 2 0 [(0, .int x0), (1, .int x1)] [] G 0 0
  refine aw_il_n F 0 dX7_needWhat_0 rfl rfl ?_
  refine aw_if_lt (tgt := 9) F dX7_needWhat_1 (by decide) (fun c_1 => ?_) (fun c_1 => ?_)
  · replace h := h.1 c_1
    refine aw_sub [] rfl ?_
    exact kj_X7_needWhat_9 F T h
  · replace h := h.2 c_1
    refine aw_il_n F 0 dX7_needWhat_4 rfl rfl ?_
    refine aw_il_n F 1 dX7_needWhat_5 rfl rfl ?_
    refine aw_icmp_le (tgt := 20) F dX7_needWhat_6 (by decide) (fun c_2 => ?_) (fun c_2 => ?_)
    · replace h := h.1 c_2
      exact aw_vretX F T (Nat.le_of_ble_eq_true rfl) (Nat.le_of_ble_eq_true rfl) ⟨rfl, h⟩ dX7_needWhat_20
    · replace h := h.2 c_2
      refine aw_sub [] rfl ?_
      exact kj_X7_needWhat_9 F T h
-- X7_needCouple (height 6)
def j_X7_needCouple_21 (post : GH → Prop) (px : Nat → GH → Prop) (G : GH) : Prop :=
  px 0 G
def wp_X7_needCouple (post : GH → Prop) (px : Nat → GH → Prop) (x1 x2 : Int32) (G : GH) : Prop :=
  wp_X7_hasMark (fun (b_2 : Bool) (G_1 : GH) => ((b_2 = false → j_X7_needCouple_21 post px G_1) ∧ (b_2 = true → wp_X7_hasMark (fun (b_5 : Bool) (G_4 : GH) => ((b_5 = false → j_X7_needCouple_21 post px G_4) ∧ (b_5 = true → ((x1 = x2 → j_X7_needCouple_21 post px G_4) ∧ (¬ x1 = x2 → post G_4))))) x2 G_1))) x1 G
set_option maxRecDepth 100000 in
set_option maxHeartbeats 4000000 in
theorem kj_X7_needCouple_21 {E : Ev} {X : Cx} {post : GH → Prop} {px : Nat → GH → Prop} {G : GH} (F : Fx E X "MarkField" cX7_needCouple 3) (T : RTX E X 6 1 6 none (pV post) px) (h : j_X7_needCouple_21 post px G) : AW E X 3 21 [] [] G 0 0 := by
  have hP := F.P
  exact aw_thr F T 0 (by decide) 10 (by decide) rfl true (Nat.le_of_ble_eq_true rfl) (Nat.le_of_ble_eq_true rfl) (Nat.le_of_ble_eq_true rfl) (Nat.le_of_ble_eq_true rfl) h dX7_needCouple_21 dX7_needCouple_24 dX7_needCouple_25 dX7_needCouple_28 dX7_needCouple_31
set_option maxRecDepth 100000 in
set_option maxHeartbeats 4000000 in
theorem k_X7_needCouple {l : Launch} {E : Ev} {P : Nat → Prop} {sd : Nat → Nat → Nat} {G : GH} {post : GH → Prop} {px : Nat → GH → Prop} {x1 x2 : Int32} (hl0 : l.stackTraces = false) (hPP : ∀ o, stt o = true → P o) (h : wp_X7_needCouple post px x1 x2 G) : CtX l yX7_needCouple cX7_needCouple 3 none 6 1 6 E P sd G [.ref (sd 0 0), .int x1, .int x2] (pV post) px := by
  refine ctx_of hl0 (own := "MarkField") (by decide) rfl (Nat.le_of_ble_eq_true rfl) hPP (fun X F T el eP es => ?_)
  subst el; subst eP; subst es
  have hP := F.P
  change AW E X 3 0 [(0, .ref (sdX X 0 0)), (1, .int x1), (2, .int x2)] [] G 0 0
  refine aw_al_n F 0 dX7_needCouple_0 rfl rfl ?_
  refine aw_il_n F 1 dX7_needCouple_1 rfl rfl ?_
  refine aw_cVb (stk := []) F T.room [.int x1] (k_X7_hasMark hP h) mv_X7_hasMark w_756 cf7 (lo_s rfl) (hP _ rfl) rfl (by decide) rfl rfl (Nat.le_of_ble_eq_true rfl) ⟨(Nat.le_of_ble_eq_true rfl), (Nat.le_of_ble_eq_true rfl)⟩ ⟨(Nat.le_of_ble_eq_true rfl), (Nat.le_of_ble_eq_true rfl)⟩ dX7_needCouple_2 (fun b_2 G_1 h => ?_)
  refine aw_if_eq (tgt := 21) F dX7_needCouple_5 (by decide) (fun c_3 => ?_) (fun c_3 => ?_)
  · replace h := h.1 (bI_2 c_3)
    refine aw_sub [] rfl ?_
    exact kj_X7_needCouple_21 F T h
  · replace h := h.2 (bI_1 c_3)
    refine aw_al_n F 0 dX7_needCouple_8 rfl rfl ?_
    refine aw_il_n F 2 dX7_needCouple_9 rfl rfl ?_
    refine aw_cVb (stk := []) F T.room [.int x2] (k_X7_hasMark hP h) mv_X7_hasMark w_756 cf7 (lo_s rfl) (hP _ rfl) rfl (by decide) rfl rfl (Nat.le_of_ble_eq_true rfl) ⟨(Nat.le_of_ble_eq_true rfl), (Nat.le_of_ble_eq_true rfl)⟩ ⟨(Nat.le_of_ble_eq_true rfl), (Nat.le_of_ble_eq_true rfl)⟩ dX7_needCouple_10 (fun b_5 G_4 h => ?_)
    refine aw_if_eq (tgt := 21) F dX7_needCouple_13 (by decide) (fun c_6 => ?_) (fun c_6 => ?_)
    · replace h := h.1 (bI_2 c_6)
      refine aw_sub [] rfl ?_
      exact kj_X7_needCouple_21 F T h
    · replace h := h.2 (bI_1 c_6)
      refine aw_il_n F 1 dX7_needCouple_16 rfl rfl ?_
      refine aw_il_n F 2 dX7_needCouple_17 rfl rfl ?_
      refine aw_icmp_ne (tgt := 32) F dX7_needCouple_18 (by decide) (fun c_7 => ?_) (fun c_7 => ?_)
      · replace h := h.2 c_7
        exact aw_vretX F T (Nat.le_of_ble_eq_true rfl) (Nat.le_of_ble_eq_true rfl) ⟨rfl, h⟩ dX7_needCouple_32
      · replace h := h.1 c_7
        refine aw_sub [] rfl ?_
        exact kj_X7_needCouple_21 F T h
-- X7_needHalf (height 6)
def j_X7_needHalf_15 (post : GH → Prop) (px : Nat → GH → Prop) (G : GH) : Prop :=
  px 0 G
def wp_X7_needHalf (post : GH → Prop) (px : Nat → GH → Prop) (x1 : Int32) (G : GH) : Prop :=
  ((x1 < 0 → j_X7_needHalf_15 post px G) ∧ (¬ x1 < 0 → wp_X4_halfCount (fun (r_3 : Int32) (G_2 : GH) => ((x1 < r_3 → post G_2) ∧ (¬ x1 < r_3 → j_X7_needHalf_15 post px G_2))) 8 G))
set_option maxRecDepth 100000 in
set_option maxHeartbeats 4000000 in
theorem kj_X7_needHalf_15 {E : Ev} {X : Cx} {post : GH → Prop} {px : Nat → GH → Prop} {G : GH} (F : Fx E X "MarkField" cX7_needHalf 2) (T : RTX E X 6 1 6 none (pV post) px) (h : j_X7_needHalf_15 post px G) : AW E X 2 15 [] [] G 0 0 := by
  have hP := F.P
  exact aw_thr F T 0 (by decide) 11 (by decide) rfl true (Nat.le_of_ble_eq_true rfl) (Nat.le_of_ble_eq_true rfl) (Nat.le_of_ble_eq_true rfl) (Nat.le_of_ble_eq_true rfl) h dX7_needHalf_15 dX7_needHalf_18 dX7_needHalf_19 dX7_needHalf_22 dX7_needHalf_25
set_option maxRecDepth 100000 in
set_option maxHeartbeats 4000000 in
theorem k_X7_needHalf {l : Launch} {E : Ev} {P : Nat → Prop} {sd : Nat → Nat → Nat} {G : GH} {post : GH → Prop} {px : Nat → GH → Prop} {x1 : Int32} (hl0 : l.stackTraces = false) (hPP : ∀ o, stt o = true → P o) (h : wp_X7_needHalf post px x1 G) : CtX l yX7_needHalf cX7_needHalf 2 none 6 1 6 E P sd G [.ref (sd 0 0), .int x1] (pV post) px := by
  refine ctx_of hl0 (own := "MarkField") (by decide) rfl (Nat.le_of_ble_eq_true rfl) hPP (fun X F T el eP es => ?_)
  subst el; subst eP; subst es
  have hP := F.P
  change AW E X 2 0 [(0, .ref (sdX X 0 0)), (1, .int x1)] [] G 0 0
  refine aw_il_n F 1 dX7_needHalf_0 rfl rfl ?_
  refine aw_if_lt (tgt := 15) F dX7_needHalf_1 (by decide) (fun c_1 => ?_) (fun c_1 => ?_)
  · replace h := h.1 c_1
    refine aw_sub [] rfl ?_
    exact kj_X7_needHalf_15 F T h
  · replace h := h.2 c_1
    refine aw_il_n F 1 dX7_needHalf_4 rfl rfl ?_
    refine aw_al_n F 0 dX7_needHalf_5 rfl rfl ?_
    refine gr7_7 F (lo_s rfl) (hP _ rfl) rfl w_301 (hP 8 rfl) dX7_needHalf_6 ?_
    refine aw_cVi (stk := [.int x1]) F T.room [] (k_X4_halfCount hP rfl rfl h) mv_X4_halfCount w_625 cf4 (lo_s rfl) (hP _ rfl) rfl (by decide) rfl rfl (Nat.le_of_ble_eq_true rfl) ⟨(Nat.le_of_ble_eq_true rfl), (Nat.le_of_ble_eq_true rfl)⟩ ⟨(Nat.le_of_ble_eq_true rfl), (Nat.le_of_ble_eq_true rfl)⟩ dX7_needHalf_9 (fun r_3 G_2 h => ?_)
    refine aw_icmp_lt (tgt := 26) F dX7_needHalf_12 (by decide) (fun c_4 => ?_) (fun c_4 => ?_)
    · replace h := h.1 c_4
      exact aw_vretX F T (Nat.le_of_ble_eq_true rfl) (Nat.le_of_ble_eq_true rfl) ⟨rfl, h⟩ dX7_needHalf_26
    · replace h := h.2 c_4
      refine aw_sub [] rfl ?_
      exact kj_X7_needHalf_15 F T h
-- X7_needDay (height 6)
def wp_X7_needDay (post : GH → Prop) (px : Nat → GH → Prop) (x0 : Int32) (G : GH) : Prop :=
  wp_X7_isDay (fun (b_2 : Bool) (G_1 : GH) => ((b_2 = false → px 1 G_1) ∧ (b_2 = true → post G_1))) x0 G
set_option maxRecDepth 100000 in
set_option maxHeartbeats 4000000 in
theorem k_X7_needDay {l : Launch} {E : Ev} {P : Nat → Prop} {sd : Nat → Nat → Nat} {G : GH} {post : GH → Prop} {px : Nat → GH → Prop} {x0 : Int32} (hl0 : l.stackTraces = false) (hPP : ∀ o, stt o = true → P o) (h : wp_X7_needDay post px x0 G) : CtX l yX7_needDay cX7_needDay 1 none 6 1 6 E P sd G [.int x0] (pV post) px := by
  refine ctx_of hl0 (own := "MarkField") (by decide) rfl (Nat.le_of_ble_eq_true rfl) hPP (fun X F T el eP es => ?_)
  subst el; subst eP; subst es
  have hP := F.P
  change AW E X 1 0 [(0, .int x0)] [] G 0 0
  refine aw_il_n F 0 dX7_needDay_0 rfl rfl ?_
  refine aw_cSb (stk := []) F T.room [.int x0] (k_X7_isDay hP h) ms_X7_isDay w_825 rfl rfl (Nat.le_of_ble_eq_true rfl) ⟨(Nat.le_of_ble_eq_true rfl), (Nat.le_of_ble_eq_true rfl)⟩ ⟨(Nat.le_of_ble_eq_true rfl), (Nat.le_of_ble_eq_true rfl)⟩ dX7_needDay_1 (fun b_2 G_1 h => ?_)
  refine aw_if_ne (tgt := 18) F dX7_needDay_4 (by decide) (fun c_3 => ?_) (fun c_3 => ?_)
  · replace h := h.2 (bI_1 c_3)
    exact aw_vretX F T (Nat.le_of_ble_eq_true rfl) (Nat.le_of_ble_eq_true rfl) ⟨rfl, h⟩ dX7_needDay_18
  · replace h := h.1 (bI_2 c_3)
    exact aw_thr F T 1 (by decide) 13 (by decide) rfl true (Nat.le_of_ble_eq_true rfl) (Nat.le_of_ble_eq_true rfl) (Nat.le_of_ble_eq_true rfl) (Nat.le_of_ble_eq_true rfl) h dX7_needDay_7 dX7_needDay_10 dX7_needDay_11 dX7_needDay_14 dX7_needDay_17
-- X7_needFiling (height 7)
def j_X7_needFiling_20 (post : GH → Prop) (px : Nat → GH → Prop) (G : GH) : Prop :=
  px 1 G
def wp_X7_needFiling (post : GH → Prop) (px : Nat → GH → Prop) (x1 x2 x3 : Int32) (G : GH) : Prop :=
  wp_X7_needBytes (fun (G_1 : GH) => wp_X7_needDay (fun (G_3 : GH) => ((x2 < 0 → j_X7_needFiling_20 post px G_3) ∧ (¬ x2 < 0 → ((x2 ≤ (1023 : Int32) → post G_3) ∧ (¬ x2 ≤ (1023 : Int32) → j_X7_needFiling_20 post px G_3))))) px x3 G_1) px x1 G
set_option maxRecDepth 100000 in
set_option maxHeartbeats 4000000 in
theorem kj_X7_needFiling_20 {E : Ev} {X : Cx} {post : GH → Prop} {px : Nat → GH → Prop} {G : GH} (F : Fx E X "MarkField" cX7_needFiling 4) (T : RTX E X 7 3 18 none (pV post) px) (h : j_X7_needFiling_20 post px G) : AW E X 4 20 [] [] G 2 12 := by
  have hP := F.P
  exact aw_thr F T 1 (by decide) 4 (by decide) rfl false (Nat.le_of_ble_eq_true rfl) (Nat.le_of_ble_eq_true rfl) (Nat.le_of_ble_eq_true rfl) (Nat.le_of_ble_eq_true rfl) h dX7_needFiling_20 dX7_needFiling_23 dX7_needFiling_24 dX7_needFiling_26 dX7_needFiling_29
set_option maxRecDepth 100000 in
set_option maxHeartbeats 4000000 in
theorem k_X7_needFiling {l : Launch} {E : Ev} {P : Nat → Prop} {sd : Nat → Nat → Nat} {G : GH} {post : GH → Prop} {px : Nat → GH → Prop} {x1 x2 x3 : Int32} (hl0 : l.stackTraces = false) (hPP : ∀ o, stt o = true → P o) (h : wp_X7_needFiling post px x1 x2 x3 G) : CtX l yX7_needFiling cX7_needFiling 4 none 7 3 18 E P sd G [.ref (sd 0 0), .int x1, .int x2, .int x3] (pV post) px := by
  refine ctx_of hl0 (own := "MarkField") (by decide) rfl (Nat.le_of_ble_eq_true rfl) hPP (fun X F T el eP es => ?_)
  subst el; subst eP; subst es
  have hP := F.P
  change AW E X 4 0 [(0, .ref (sdX X 0 0)), (1, .int x1), (2, .int x2), (3, .int x3)] [] G 0 0
  refine aw_al_n F 0 dX7_needFiling_0 rfl rfl ?_
  refine aw_il_n F 1 dX7_needFiling_1 rfl rfl ?_
  refine aw_cVXv (stk := []) F T [.int x1] (k_X7_needBytes T.tr hP h) mv_X7_needBytes w_379 cf7 (lo_s rfl) (hP _ rfl) rfl (by decide) rfl rfl (Nat.le_of_ble_eq_true rfl) ⟨(Nat.le_of_ble_eq_true rfl), (Nat.le_of_ble_eq_true rfl)⟩ ⟨(Nat.le_of_ble_eq_true rfl), (Nat.le_of_ble_eq_true rfl)⟩ ⟨rfl, rfl⟩ dX7_needFiling_2 (fun _ _ q => q) (fun G_1 h => ?_)
  refine aw_il_n F 3 dX7_needFiling_5 rfl rfl ?_
  refine aw_cSXv (stk := []) F T [.int x3] (k_X7_needDay T.tr hP h) ms_X7_needDay w_822 rfl rfl (Nat.le_of_ble_eq_true rfl) ⟨(Nat.le_of_ble_eq_true rfl), (Nat.le_of_ble_eq_true rfl)⟩ ⟨(Nat.le_of_ble_eq_true rfl), (Nat.le_of_ble_eq_true rfl)⟩ ⟨rfl, rfl⟩ dX7_needFiling_6 (fun _ _ q => q) (fun G_3 h => ?_)
  refine aw_il_n F 2 dX7_needFiling_9 rfl rfl ?_
  refine aw_if_lt (tgt := 20) F dX7_needFiling_10 (by decide) (fun c_5 => ?_) (fun c_5 => ?_)
  · replace h := h.1 c_5
    refine aw_sub [] rfl ?_
    exact kj_X7_needFiling_20 F T h
  · replace h := h.2 c_5
    refine aw_il_n F 2 dX7_needFiling_13 rfl rfl ?_
    refine aw_si F dX7_needFiling_14 si_1023 ?_
    refine aw_icmp_le (tgt := 30) F dX7_needFiling_17 (by decide) (fun c_6 => ?_) (fun c_6 => ?_)
    · replace h := h.1 c_6
      exact aw_vretX F T (Nat.le_of_ble_eq_true rfl) (Nat.le_of_ble_eq_true rfl) ⟨rfl, h⟩ dX7_needFiling_30
    · replace h := h.2 c_6
      refine aw_sub [] rfl ?_
      exact kj_X7_needFiling_20 F T h
