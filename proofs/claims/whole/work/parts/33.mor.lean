theorem w_1780 : (Jvm.Cond.code ({ cls := "MarkFieldModel", name := "readValue", desc := "()I" } : Jvm.MethodName) prog_10_method_118_code (2 : Nat) (Option.some Jvm.ClassFile.FieldType.int)) ∈ tb := tb_of (List.mem_of_getElem? (i := 1780) (by decide +kernel)) rfl
theorem w_1779 : (Jvm.Cond.instanceMethod ({ cls := "MarkFieldModel", name := "readValue", desc := "()I" } : Jvm.MethodName)) ∈ tb := tb_of (List.mem_of_getElem? (i := 1779) (by decide +kernel)) rfl
theorem ws_114 : (Jvm.Cond.selects "MarkFieldModel" ({ cls := "MarkFieldModel", name := "readValue", desc := "()I" } : Jvm.MethodName) ({ cls := "MarkFieldModel", name := "readValue", desc := "()I" } : Jvm.MethodName)) ∈ tb := tb_sel (List.mem_of_getElem? (i := 114) (by decide +kernel)) rfl
theorem w_1777 : (Jvm.Cond.methodLink "MarkFieldModel" (483 : Nat) ({ cls := "MarkFieldModel", name := "readValue", desc := "()I" } : Jvm.MethodName)) ∈ tb := tb_of (List.mem_of_getElem? (i := 1777) (by decide +kernel)) rfl
theorem w_1776 : (Jvm.Cond.code ({ cls := "MarkFieldModel", name := "goesIn", desc := "()V" } : Jvm.MethodName) prog_10_method_119_code (1 : Nat) (Option.none : Option Jvm.ClassFile.FieldType)) ∈ tb := tb_of (List.mem_of_getElem? (i := 1776) (by decide +kernel)) rfl
theorem w_1775 : (Jvm.Cond.instanceMethod ({ cls := "MarkFieldModel", name := "goesIn", desc := "()V" } : Jvm.MethodName)) ∈ tb := tb_of (List.mem_of_getElem? (i := 1775) (by decide +kernel)) rfl
theorem ws_113 : (Jvm.Cond.selects "MarkFieldModel" ({ cls := "MarkFieldModel", name := "goesIn", desc := "()V" } : Jvm.MethodName) ({ cls := "MarkFieldModel", name := "goesIn", desc := "()V" } : Jvm.MethodName)) ∈ tb := tb_sel (List.mem_of_getElem? (i := 113) (by decide +kernel)) rfl
theorem w_1773 : (Jvm.Cond.methodLink "MarkFieldModel" (474 : Nat) ({ cls := "MarkFieldModel", name := "goesIn", desc := "()V" } : Jvm.MethodName)) ∈ tb := tb_of (List.mem_of_getElem? (i := 1773) (by decide +kernel)) rfl
theorem w_1763 : (Jvm.Cond.code ({ cls := "MarkFieldModel", name := "readTest", desc := "()Z" } : Jvm.MethodName) prog_10_method_122_code (3 : Nat) (Option.some Jvm.ClassFile.FieldType.boolean)) ∈ tb := tb_of (List.mem_of_getElem? (i := 1763) (by decide +kernel)) rfl
theorem w_1762 : (Jvm.Cond.instanceMethod ({ cls := "MarkFieldModel", name := "readTest", desc := "()Z" } : Jvm.MethodName)) ∈ tb := tb_of (List.mem_of_getElem? (i := 1762) (by decide +kernel)) rfl
theorem ws_110 : (Jvm.Cond.selects "MarkFieldModel" ({ cls := "MarkFieldModel", name := "readTest", desc := "()Z" } : Jvm.MethodName) ({ cls := "MarkFieldModel", name := "readTest", desc := "()Z" } : Jvm.MethodName)) ∈ tb := tb_sel (List.mem_of_getElem? (i := 110) (by decide +kernel)) rfl
theorem w_1760 : (Jvm.Cond.methodLink "MarkFieldModel" (480 : Nat) ({ cls := "MarkFieldModel", name := "readTest", desc := "()Z" } : Jvm.MethodName)) ∈ tb := tb_of (List.mem_of_getElem? (i := 1760) (by decide +kernel)) rfl
theorem w_1771 : (Jvm.Cond.code ({ cls := "MarkFieldModel", name := "readFact", desc := "()Z" } : Jvm.MethodName) prog_10_method_120_code (4 : Nat) (Option.some Jvm.ClassFile.FieldType.boolean)) ∈ tb := tb_of (List.mem_of_getElem? (i := 1771) (by decide +kernel)) rfl
theorem w_1770 : (Jvm.Cond.instanceMethod ({ cls := "MarkFieldModel", name := "readFact", desc := "()Z" } : Jvm.MethodName)) ∈ tb := tb_of (List.mem_of_getElem? (i := 1770) (by decide +kernel)) rfl
theorem ws_112 : (Jvm.Cond.selects "MarkFieldModel" ({ cls := "MarkFieldModel", name := "readFact", desc := "()Z" } : Jvm.MethodName) ({ cls := "MarkFieldModel", name := "readFact", desc := "()Z" } : Jvm.MethodName)) ∈ tb := tb_sel (List.mem_of_getElem? (i := 112) (by decide +kernel)) rfl
theorem w_1768 : (Jvm.Cond.methodLink "MarkFieldModel" (477 : Nat) ({ cls := "MarkFieldModel", name := "readFact", desc := "()Z" } : Jvm.MethodName)) ∈ tb := tb_of (List.mem_of_getElem? (i := 1768) (by decide +kernel)) rfl
theorem w_1767 : (Jvm.Cond.code ({ cls := "MarkFieldModel", name := "readBoth", desc := "()Z" } : Jvm.MethodName) prog_10_method_121_code (3 : Nat) (Option.some Jvm.ClassFile.FieldType.boolean)) ∈ tb := tb_of (List.mem_of_getElem? (i := 1767) (by decide +kernel)) rfl
theorem w_1766 : (Jvm.Cond.instanceMethod ({ cls := "MarkFieldModel", name := "readBoth", desc := "()Z" } : Jvm.MethodName)) ∈ tb := tb_of (List.mem_of_getElem? (i := 1766) (by decide +kernel)) rfl
theorem ws_111 : (Jvm.Cond.selects "MarkFieldModel" ({ cls := "MarkFieldModel", name := "readBoth", desc := "()Z" } : Jvm.MethodName) ({ cls := "MarkFieldModel", name := "readBoth", desc := "()Z" } : Jvm.MethodName)) ∈ tb := tb_sel (List.mem_of_getElem? (i := 111) (by decide +kernel)) rfl
theorem w_1764 : (Jvm.Cond.methodLink "MarkFieldModel" (488 : Nat) ({ cls := "MarkFieldModel", name := "readBoth", desc := "()Z" } : Jvm.MethodName)) ∈ tb := tb_of (List.mem_of_getElem? (i := 1764) (by decide +kernel)) rfl
theorem mv_X8_readValue : MV yX8_readValue cX8_readValue 2 (some .int) 0 := ⟨⟨w_1780, w_10, by decide, by decide, by decide +kernel⟩, w_1779, ws_114⟩
theorem mv_X8_goesIn : MV yX8_goesIn cX8_goesIn 1 none 0 := ⟨⟨w_1776, w_10, by decide, by decide, by decide +kernel⟩, w_1775, ws_113⟩
theorem mv_X8_readTest : MV yX8_readTest cX8_readTest 3 (some .boolean) 0 := ⟨⟨w_1763, w_10, by decide, by decide, by decide +kernel⟩, w_1762, ws_110⟩
theorem mv_X8_readFact : MV yX8_readFact cX8_readFact 4 (some .boolean) 0 := ⟨⟨w_1771, w_10, by decide, by decide, by decide +kernel⟩, w_1770, ws_112⟩
theorem mv_X8_readBoth : MV yX8_readBoth cX8_readBoth 3 (some .boolean) 0 := ⟨⟨w_1767, w_10, by decide, by decide, by decide +kernel⟩, w_1766, ws_111⟩
-- X8_readFact (height 0)
def j_X8_readFact_161 (post : Bool → GH → Prop) (qX8_readFact : (Bool → GH → Prop) → GH → Prop) (qX8_readBoth : (Bool → GH → Prop) → GH → Prop) (qX8_readTest : (Bool → GH → Prop) → GH → Prop) (v1 v2 : Int32) (G : GH) : Prop :=
  wp_X8_pass (fun (G_19 : GH) => wp_X8_readValue (fun (r_22 : Int32) (G_21 : GH) => ((0 ≤ v2 → ((v2 = 0 → ((v1 = r_22 → post true G_21) ∧ (¬ v1 = r_22 → post false G_21))) ∧ (¬ v2 = 0 → ((v1 ≤ r_22 → post false G_21) ∧ (¬ v1 ≤ r_22 → post true G_21))))) ∧ (¬ 0 ≤ v2 → ((r_22 ≤ v1 → post false G_21) ∧ (¬ r_22 ≤ v1 → post true G_21))))) G_19) G
def j_X8_readFact_150 (post : Bool → GH → Prop) (qX8_readFact : (Bool → GH → Prop) → GH → Prop) (qX8_readBoth : (Bool → GH → Prop) → GH → Prop) (qX8_readTest : (Bool → GH → Prop) → GH → Prop) (v1 s0 : Int32) (G : GH) : Prop :=
  ((s0 = (2 : Int32) → wp_X8_wrong (fun (G_28 : GH) => j_X8_readFact_161 post qX8_readFact qX8_readBoth qX8_readTest v1 s0 G_28) (1 : Int32) G) ∧ (¬ s0 = (2 : Int32) → j_X8_readFact_161 post qX8_readFact qX8_readBoth qX8_readTest v1 s0 G))
def j_X8_readFact_86 (post : Bool → GH → Prop) (qX8_readFact : (Bool → GH → Prop) → GH → Prop) (qX8_readBoth : (Bool → GH → Prop) → GH → Prop) (qX8_readTest : (Bool → GH → Prop) → GH → Prop) (s0 : Int32) (G : GH) : Prop :=
  wp_X8_must (fun (G_33 : GH) => (∀ G_35 : GH, G_35 = gs G_33 24 0 (upd (G_33 24 0) 41 ((G_33 24 0 41) - (1 : Int32))) → (∃ bq : Bool, s0 = bI bq ∧ post bq G_35))) (41 : Int32) G
def j_X8_readFact_85 (post : Bool → GH → Prop) (qX8_readFact : (Bool → GH → Prop) → GH → Prop) (qX8_readBoth : (Bool → GH → Prop) → GH → Prop) (qX8_readTest : (Bool → GH → Prop) → GH → Prop) (G : GH) : Prop :=
  j_X8_readFact_86 post qX8_readFact qX8_readBoth qX8_readTest (0 : Int32) G
def j_X8_readFact_33 (post : Bool → GH → Prop) (qX8_readFact : (Bool → GH → Prop) → GH → Prop) (qX8_readBoth : (Bool → GH → Prop) → GH → Prop) (qX8_readTest : (Bool → GH → Prop) → GH → Prop) (s0 : Int32) (G : GH) : Prop :=
  (∀ G_42 : GH, G_42 = gs G 24 0 (upd (G 24 0) 41 ((G 24 0 41) - (1 : Int32))) → ((s0 = 0 → post true G_42) ∧ (¬ s0 = 0 → post false G_42)))
def j_X8_readFact_32 (post : Bool → GH → Prop) (qX8_readFact : (Bool → GH → Prop) → GH → Prop) (qX8_readBoth : (Bool → GH → Prop) → GH → Prop) (qX8_readTest : (Bool → GH → Prop) → GH → Prop) (G : GH) : Prop :=
  j_X8_readFact_33 post qX8_readFact qX8_readBoth qX8_readTest (0 : Int32) G
def wr_X8_readFact (post : Bool → GH → Prop) (qX8_readFact : (Bool → GH → Prop) → GH → Prop) (qX8_readBoth : (Bool → GH → Prop) → GH → Prop) (qX8_readTest : (Bool → GH → Prop) → GH → Prop) (G : GH) : Prop :=
  wp_X8_isWord (fun (b_2 : Bool) (G_1 : GH) => ((b_2 = false → wp_X8_isSign (fun (b_5 : Bool) (G_4 : GH) => ((b_5 = false → wp_X8_readValue (fun (r_8 : Int32) (G_7 : GH) => wp_X8_isSign (fun (b_10 : Bool) (G_9 : GH) => ((b_10 = false → wp_X8_isSign (fun (b_13 : Bool) (G_12 : GH) => ((b_13 = false → wp_X8_isSign (fun (b_16 : Bool) (G_15 : GH) => ((b_16 = false → j_X8_readFact_150 post qX8_readFact qX8_readBoth qX8_readTest r_8 (2 : Int32) G_15) ∧ (b_16 = true → j_X8_readFact_150 post qX8_readFact qX8_readBoth qX8_readTest r_8 (1 : Int32) G_15))) (62 : Int32) G_12) ∧ (b_13 = true → j_X8_readFact_150 post qX8_readFact qX8_readBoth qX8_readTest r_8 (0 : Int32) G_12))) (61 : Int32) G_9) ∧ (b_10 = true → j_X8_readFact_150 post qX8_readFact qX8_readBoth qX8_readTest r_8 (-1 : Int32) G_9))) (60 : Int32) G_7) G_4) ∧ (b_5 = true → wp_X8_goesIn (fun (G_30 : GH) => (((G_30 24 0 38) = 0 → qX8_readTest (fun (b_37 : Bool) (G_36 : GH) => ((b_37 = false → j_X8_readFact_85 post qX8_readFact qX8_readBoth qX8_readTest G_36) ∧ (b_37 = true → j_X8_readFact_86 post qX8_readFact qX8_readBoth qX8_readTest (1 : Int32) G_36))) G_30) ∧ (¬ (G_30 24 0 38) = 0 → j_X8_readFact_85 post qX8_readFact qX8_readBoth qX8_readTest G_30))) G_4))) (40 : Int32) G_1) ∧ (b_2 = true → wp_X8_goesIn (fun (G_39 : GH) => (((G_39 24 0 38) = 0 → qX8_readFact (fun (b_45 : Bool) (G_44 : GH) => ((b_45 = false → j_X8_readFact_32 post qX8_readFact qX8_readBoth qX8_readTest G_44) ∧ (b_45 = true → j_X8_readFact_33 post qX8_readFact qX8_readBoth qX8_readTest (1 : Int32) G_44))) G_39) ∧ (¬ (G_39 24 0 38) = 0 → j_X8_readFact_32 post qX8_readFact qX8_readBoth qX8_readTest G_39))) G_1))) 59 G
set_option maxRecDepth 100000 in
set_option maxHeartbeats 4000000 in
theorem kj_X8_readFact_161 {E : Ev} {X : Cx} {post : Bool → GH → Prop} {qX8_readFact : (Bool → GH → Prop) → GH → Prop} {qX8_readBoth : (Bool → GH → Prop) → GH → Prop} {qX8_readTest : (Bool → GH → Prop) → GH → Prop} {hh h2 : Nat} {v1 v2 : Int32} {G : GH} (F : Fx E X "MarkFieldModel" cX8_readFact 4) (T : RT E X hh 0 0 (some .boolean) (pB post)) (HX8_readFact : ∀ (post : Bool → GH → Prop) (G : GH) , qX8_readFact post G → Ct (lX X) yX8_readFact cX8_readFact 4 (some .boolean) h2 0 0 E (PX X) (sdX X) G [.ref (sdX X 24 0)] (pB post)) (HX8_readBoth : ∀ (post : Bool → GH → Prop) (G : GH) , qX8_readBoth post G → Ct (lX X) yX8_readBoth cX8_readBoth 3 (some .boolean) h2 0 0 E (PX X) (sdX X) G [.ref (sdX X 24 0)] (pB post)) (HX8_readTest : ∀ (post : Bool → GH → Prop) (G : GH) , qX8_readTest post G → Ct (lX X) yX8_readTest cX8_readTest 3 (some .boolean) h2 0 0 E (PX X) (sdX X) G [.ref (sdX X 24 0)] (pB post)) (hbase : 12 ≤ hh) (hstep : h2 + 1 ≤ hh) (h : j_X8_readFact_161 post qX8_readFact qX8_readBoth qX8_readTest v1 v2 G) : AW E X 4 161 [(0, .ref (sdX X 24 0)), (1, .int v1), (2, .int v2)] [] G 0 0 := by
  have hP := F.P
  refine aw_al_n F 0 dX8_readFact_161 rfl rfl ?_
  refine aw_cVv (stk := []) F T.room [] (k_X8_pass hP h) mv_X8_pass w_1676 cf8 (lo_s rfl) (hP _ rfl) rfl (by decide) rfl rfl (Nat.le_of_ble_eq_true rfl) ⟨by omega, by omega⟩ ⟨(Nat.le_of_ble_eq_true rfl), (Nat.le_of_ble_eq_true rfl)⟩ dX8_readFact_162 (fun G_19 h => ?_)
  refine aw_al_n F 0 dX8_readFact_165 rfl rfl ?_
  refine aw_cVi (stk := []) F T.room [] (k_X8_readValue hP h) mv_X8_readValue w_1777 cf8 (lo_s rfl) (hP _ rfl) rfl (by decide) rfl rfl (Nat.le_of_ble_eq_true rfl) ⟨by omega, by omega⟩ ⟨(Nat.le_of_ble_eq_true rfl), (Nat.le_of_ble_eq_true rfl)⟩ dX8_readFact_166 (fun r_22 G_21 h => ?_)
  refine aw_is_n (lv1 := [(3, .int r_22), (0, .ref (sdX X 24 0)), (1, .int v1), (2, .int v2)]) F dX8_readFact_169 rfl (by decide) rfl ?_
  refine aw_il_n F 3 dX8_readFact_170 rfl rfl ?_
  refine aw_if_ge (tgt := 187) F dX8_readFact_171 (by decide) (fun c_23 => ?_) (fun c_23 => ?_)
  · replace h := h.1 c_23
    refine aw_il_n F 3 dX8_readFact_187 rfl rfl ?_
    refine aw_if_ne (tgt := 204) F dX8_readFact_188 (by decide) (fun c_24 => ?_) (fun c_24 => ?_)
    · replace h := h.2 c_24
      refine aw_il_n F 2 dX8_readFact_204 rfl rfl ?_
      refine aw_il_n F 0 dX8_readFact_205 rfl rfl ?_
      refine aw_icmp_le (tgt := 213) F dX8_readFact_206 (by decide) (fun c_25 => ?_) (fun c_25 => ?_)
      · replace h := h.1 c_25
        refine aw_ic F dX8_readFact_213 ic_0 ?_
        exact aw_zret F T false rfl (Nat.le_of_ble_eq_true rfl) (Nat.le_of_ble_eq_true rfl) ⟨_, rfl, h⟩ dX8_readFact_214
      · replace h := h.2 c_25
        refine aw_ic F dX8_readFact_209 ic_1 ?_
        refine aw_go (tgt := 214) F dX8_readFact_210 (by decide) ?_
        exact aw_zret F T true rfl (Nat.le_of_ble_eq_true rfl) (Nat.le_of_ble_eq_true rfl) ⟨_, rfl, h⟩ dX8_readFact_214
    · replace h := h.1 c_24
      refine aw_il_n F 2 dX8_readFact_191 rfl rfl ?_
      refine aw_il_n F 0 dX8_readFact_192 rfl rfl ?_
      refine aw_icmp_ne (tgt := 200) F dX8_readFact_193 (by decide) (fun c_26 => ?_) (fun c_26 => ?_)
      · replace h := h.2 c_26
        refine aw_ic F dX8_readFact_200 ic_0 ?_
        refine aw_go (tgt := 214) F dX8_readFact_201 (by decide) ?_
        exact aw_zret F T false rfl (Nat.le_of_ble_eq_true rfl) (Nat.le_of_ble_eq_true rfl) ⟨_, rfl, h⟩ dX8_readFact_214
      · replace h := h.1 c_26
        refine aw_ic F dX8_readFact_196 ic_1 ?_
        refine aw_go (tgt := 214) F dX8_readFact_197 (by decide) ?_
        exact aw_zret F T true rfl (Nat.le_of_ble_eq_true rfl) (Nat.le_of_ble_eq_true rfl) ⟨_, rfl, h⟩ dX8_readFact_214
  · replace h := h.2 c_23
    refine aw_il_n F 2 dX8_readFact_174 rfl rfl ?_
    refine aw_il_n F 0 dX8_readFact_175 rfl rfl ?_
    refine aw_icmp_ge (tgt := 183) F dX8_readFact_176 (by decide) (fun c_27 => ?_) (fun c_27 => ?_)
    · replace h := h.1 c_27
      refine aw_ic F dX8_readFact_183 ic_0 ?_
      refine aw_go (tgt := 214) F dX8_readFact_184 (by decide) ?_
      exact aw_zret F T false rfl (Nat.le_of_ble_eq_true rfl) (Nat.le_of_ble_eq_true rfl) ⟨_, rfl, h⟩ dX8_readFact_214
    · replace h := h.2 c_27
      refine aw_ic F dX8_readFact_179 ic_1 ?_
      refine aw_go (tgt := 214) F dX8_readFact_180 (by decide) ?_
      exact aw_zret F T true rfl (Nat.le_of_ble_eq_true rfl) (Nat.le_of_ble_eq_true rfl) ⟨_, rfl, h⟩ dX8_readFact_214
set_option maxRecDepth 100000 in
set_option maxHeartbeats 4000000 in
theorem kj_X8_readFact_150 {E : Ev} {X : Cx} {post : Bool → GH → Prop} {qX8_readFact : (Bool → GH → Prop) → GH → Prop} {qX8_readBoth : (Bool → GH → Prop) → GH → Prop} {qX8_readTest : (Bool → GH → Prop) → GH → Prop} {hh h2 : Nat} {v1 s0 : Int32} {G : GH} (F : Fx E X "MarkFieldModel" cX8_readFact 4) (T : RT E X hh 0 0 (some .boolean) (pB post)) (HX8_readFact : ∀ (post : Bool → GH → Prop) (G : GH) , qX8_readFact post G → Ct (lX X) yX8_readFact cX8_readFact 4 (some .boolean) h2 0 0 E (PX X) (sdX X) G [.ref (sdX X 24 0)] (pB post)) (HX8_readBoth : ∀ (post : Bool → GH → Prop) (G : GH) , qX8_readBoth post G → Ct (lX X) yX8_readBoth cX8_readBoth 3 (some .boolean) h2 0 0 E (PX X) (sdX X) G [.ref (sdX X 24 0)] (pB post)) (HX8_readTest : ∀ (post : Bool → GH → Prop) (G : GH) , qX8_readTest post G → Ct (lX X) yX8_readTest cX8_readTest 3 (some .boolean) h2 0 0 E (PX X) (sdX X) G [.ref (sdX X 24 0)] (pB post)) (hbase : 12 ≤ hh) (hstep : h2 + 1 ≤ hh) (h : j_X8_readFact_150 post qX8_readFact qX8_readBoth qX8_readTest v1 s0 G) : AW E X 4 150 [(0, .ref (sdX X 24 0)), (1, .int v1)] [.int s0] G 0 0 := by
  have hP := F.P
  refine aw_is_n (lv1 := [(2, .int s0), (0, .ref (sdX X 24 0)), (1, .int v1)]) F dX8_readFact_150 rfl (by decide) rfl ?_
  refine aw_il_n F 0 dX8_readFact_151 rfl rfl ?_
  refine aw_ic F dX8_readFact_152 ic_2 ?_
  refine aw_icmp_ne (tgt := 161) F dX8_readFact_153 (by decide) (fun c_18 => ?_) (fun c_18 => ?_)
  · replace h := h.2 c_18
    refine aw_sub [1, 2, 0] rfl ?_
    exact kj_X8_readFact_161 F T HX8_readFact HX8_readBoth HX8_readTest hbase hstep h
  · replace h := h.1 c_18
    refine aw_al_n F 1 dX8_readFact_156 rfl rfl ?_
    refine aw_ic F dX8_readFact_157 ic_1 ?_
    refine aw_cVv (stk := []) F T.room [.int (1 : Int32)] (k_X8_wrong hP h) mv_X8_wrong w_1672 cf8 (lo_s rfl) (hP _ rfl) rfl (by decide) rfl rfl (Nat.le_of_ble_eq_true rfl) ⟨by omega, by omega⟩ ⟨(Nat.le_of_ble_eq_true rfl), (Nat.le_of_ble_eq_true rfl)⟩ dX8_readFact_158 (fun G_28 h => ?_)
    refine aw_sub [1, 2, 0] rfl ?_
    exact kj_X8_readFact_161 F T HX8_readFact HX8_readBoth HX8_readTest hbase hstep h
set_option maxRecDepth 100000 in
set_option maxHeartbeats 4000000 in
theorem kj_X8_readFact_86 {E : Ev} {X : Cx} {post : Bool → GH → Prop} {qX8_readFact : (Bool → GH → Prop) → GH → Prop} {qX8_readBoth : (Bool → GH → Prop) → GH → Prop} {qX8_readTest : (Bool → GH → Prop) → GH → Prop} {hh h2 : Nat} {s0 : Int32} {G : GH} (F : Fx E X "MarkFieldModel" cX8_readFact 4) (T : RT E X hh 0 0 (some .boolean) (pB post)) (HX8_readFact : ∀ (post : Bool → GH → Prop) (G : GH) , qX8_readFact post G → Ct (lX X) yX8_readFact cX8_readFact 4 (some .boolean) h2 0 0 E (PX X) (sdX X) G [.ref (sdX X 24 0)] (pB post)) (HX8_readBoth : ∀ (post : Bool → GH → Prop) (G : GH) , qX8_readBoth post G → Ct (lX X) yX8_readBoth cX8_readBoth 3 (some .boolean) h2 0 0 E (PX X) (sdX X) G [.ref (sdX X 24 0)] (pB post)) (HX8_readTest : ∀ (post : Bool → GH → Prop) (G : GH) , qX8_readTest post G → Ct (lX X) yX8_readTest cX8_readTest 3 (some .boolean) h2 0 0 E (PX X) (sdX X) G [.ref (sdX X 24 0)] (pB post)) (hbase : 12 ≤ hh) (hstep : h2 + 1 ≤ hh) (h : j_X8_readFact_86 post qX8_readFact qX8_readBoth qX8_readTest s0 G) : AW E X 4 86 [(0, .ref (sdX X 24 0))] [.int s0] G 0 0 := by
  have hP := F.P
  refine aw_is_n (lv1 := [(1, .int s0), (0, .ref (sdX X 24 0))]) F dX8_readFact_86 rfl (by decide) rfl ?_
  refine aw_al_n F 1 dX8_readFact_87 rfl rfl ?_
  refine aw_bi F dX8_readFact_88 bi_41 ?_
  refine aw_cVv (stk := []) F T.room [.int (41 : Int32)] (k_X8_must hP h) mv_X8_must w_1692 cf8 (lo_s rfl) (hP _ rfl) rfl (by decide) rfl rfl (Nat.le_of_ble_eq_true rfl) ⟨by omega, by omega⟩ ⟨(Nat.le_of_ble_eq_true rfl), (Nat.le_of_ble_eq_true rfl)⟩ dX8_readFact_90 (fun G_33 h => ?_)
  refine aw_al_n F 1 dX8_readFact_93 rfl rfl ?_
  refine aw_dup F dX8_readFact_94 rfl ?_
  refine gf8_41 F (lo_s rfl) (hP _ rfl) rfl w_1201 dX8_readFact_95 ?_
  refine aw_ic F dX8_readFact_98 ic_1 ?_
  refine aw_isub F dX8_readFact_99 ?_
  refine pf8_41 F (lo_s rfl) (hP _ rfl) rfl w_1201 dX8_readFact_100 (fun G_35 eG_35 => ?_)
  replace h := h G_35 eG_35
  refine aw_il_n F 0 dX8_readFact_103 rfl rfl ?_
  obtain ⟨bq, hbq, h⟩ := h
  exact aw_zret F T bq hbq (Nat.le_of_ble_eq_true rfl) (Nat.le_of_ble_eq_true rfl) ⟨_, rfl, h⟩ dX8_readFact_104
set_option maxRecDepth 100000 in
set_option maxHeartbeats 4000000 in
theorem kj_X8_readFact_85 {E : Ev} {X : Cx} {post : Bool → GH → Prop} {qX8_readFact : (Bool → GH → Prop) → GH → Prop} {qX8_readBoth : (Bool → GH → Prop) → GH → Prop} {qX8_readTest : (Bool → GH → Prop) → GH → Prop} {hh h2 : Nat} {G : GH} (F : Fx E X "MarkFieldModel" cX8_readFact 4) (T : RT E X hh 0 0 (some .boolean) (pB post)) (HX8_readFact : ∀ (post : Bool → GH → Prop) (G : GH) , qX8_readFact post G → Ct (lX X) yX8_readFact cX8_readFact 4 (some .boolean) h2 0 0 E (PX X) (sdX X) G [.ref (sdX X 24 0)] (pB post)) (HX8_readBoth : ∀ (post : Bool → GH → Prop) (G : GH) , qX8_readBoth post G → Ct (lX X) yX8_readBoth cX8_readBoth 3 (some .boolean) h2 0 0 E (PX X) (sdX X) G [.ref (sdX X 24 0)] (pB post)) (HX8_readTest : ∀ (post : Bool → GH → Prop) (G : GH) , qX8_readTest post G → Ct (lX X) yX8_readTest cX8_readTest 3 (some .boolean) h2 0 0 E (PX X) (sdX X) G [.ref (sdX X 24 0)] (pB post)) (hbase : 12 ≤ hh) (hstep : h2 + 1 ≤ hh) (h : j_X8_readFact_85 post qX8_readFact qX8_readBoth qX8_readTest G) : AW E X 4 85 [(0, .ref (sdX X 24 0))] [] G 0 0 := by
  have hP := F.P
  refine aw_ic F dX8_readFact_85 ic_0 ?_
  exact kj_X8_readFact_86 F T HX8_readFact HX8_readBoth HX8_readTest hbase hstep h
set_option maxRecDepth 100000 in
set_option maxHeartbeats 4000000 in
theorem kj_X8_readFact_33 {E : Ev} {X : Cx} {post : Bool → GH → Prop} {qX8_readFact : (Bool → GH → Prop) → GH → Prop} {qX8_readBoth : (Bool → GH → Prop) → GH → Prop} {qX8_readTest : (Bool → GH → Prop) → GH → Prop} {hh h2 : Nat} {s0 : Int32} {G : GH} (F : Fx E X "MarkFieldModel" cX8_readFact 4) (T : RT E X hh 0 0 (some .boolean) (pB post)) (HX8_readFact : ∀ (post : Bool → GH → Prop) (G : GH) , qX8_readFact post G → Ct (lX X) yX8_readFact cX8_readFact 4 (some .boolean) h2 0 0 E (PX X) (sdX X) G [.ref (sdX X 24 0)] (pB post)) (HX8_readBoth : ∀ (post : Bool → GH → Prop) (G : GH) , qX8_readBoth post G → Ct (lX X) yX8_readBoth cX8_readBoth 3 (some .boolean) h2 0 0 E (PX X) (sdX X) G [.ref (sdX X 24 0)] (pB post)) (HX8_readTest : ∀ (post : Bool → GH → Prop) (G : GH) , qX8_readTest post G → Ct (lX X) yX8_readTest cX8_readTest 3 (some .boolean) h2 0 0 E (PX X) (sdX X) G [.ref (sdX X 24 0)] (pB post)) (hbase : 12 ≤ hh) (hstep : h2 + 1 ≤ hh) (h : j_X8_readFact_33 post qX8_readFact qX8_readBoth qX8_readTest s0 G) : AW E X 4 33 [(0, .ref (sdX X 24 0))] [.int s0] G 0 0 := by
  have hP := F.P
  refine aw_is_n (lv1 := [(1, .int s0), (0, .ref (sdX X 24 0))]) F dX8_readFact_33 rfl (by decide) rfl ?_
  refine aw_al_n F 1 dX8_readFact_34 rfl rfl ?_
  refine aw_dup F dX8_readFact_35 rfl ?_
  refine gf8_41 F (lo_s rfl) (hP _ rfl) rfl w_1201 dX8_readFact_36 ?_
  refine aw_ic F dX8_readFact_39 ic_1 ?_
  refine aw_isub F dX8_readFact_40 ?_
  refine pf8_41 F (lo_s rfl) (hP _ rfl) rfl w_1201 dX8_readFact_41 (fun G_42 eG_42 => ?_)
  replace h := h G_42 eG_42
  refine aw_il_n F 0 dX8_readFact_44 rfl rfl ?_
  refine aw_if_ne (tgt := 52) F dX8_readFact_45 (by decide) (fun c_43 => ?_) (fun c_43 => ?_)
  · replace h := h.2 c_43
    refine aw_ic F dX8_readFact_52 ic_0 ?_
    exact aw_zret F T false rfl (Nat.le_of_ble_eq_true rfl) (Nat.le_of_ble_eq_true rfl) ⟨_, rfl, h⟩ dX8_readFact_53
  · replace h := h.1 c_43
    refine aw_ic F dX8_readFact_48 ic_1 ?_
    refine aw_go (tgt := 53) F dX8_readFact_49 (by decide) ?_
    exact aw_zret F T true rfl (Nat.le_of_ble_eq_true rfl) (Nat.le_of_ble_eq_true rfl) ⟨_, rfl, h⟩ dX8_readFact_53
set_option maxRecDepth 100000 in
set_option maxHeartbeats 4000000 in
theorem kj_X8_readFact_32 {E : Ev} {X : Cx} {post : Bool → GH → Prop} {qX8_readFact : (Bool → GH → Prop) → GH → Prop} {qX8_readBoth : (Bool → GH → Prop) → GH → Prop} {qX8_readTest : (Bool → GH → Prop) → GH → Prop} {hh h2 : Nat} {G : GH} (F : Fx E X "MarkFieldModel" cX8_readFact 4) (T : RT E X hh 0 0 (some .boolean) (pB post)) (HX8_readFact : ∀ (post : Bool → GH → Prop) (G : GH) , qX8_readFact post G → Ct (lX X) yX8_readFact cX8_readFact 4 (some .boolean) h2 0 0 E (PX X) (sdX X) G [.ref (sdX X 24 0)] (pB post)) (HX8_readBoth : ∀ (post : Bool → GH → Prop) (G : GH) , qX8_readBoth post G → Ct (lX X) yX8_readBoth cX8_readBoth 3 (some .boolean) h2 0 0 E (PX X) (sdX X) G [.ref (sdX X 24 0)] (pB post)) (HX8_readTest : ∀ (post : Bool → GH → Prop) (G : GH) , qX8_readTest post G → Ct (lX X) yX8_readTest cX8_readTest 3 (some .boolean) h2 0 0 E (PX X) (sdX X) G [.ref (sdX X 24 0)] (pB post)) (hbase : 12 ≤ hh) (hstep : h2 + 1 ≤ hh) (h : j_X8_readFact_32 post qX8_readFact qX8_readBoth qX8_readTest G) : AW E X 4 32 [(0, .ref (sdX X 24 0))] [] G 0 0 := by
  have hP := F.P
  refine aw_ic F dX8_readFact_32 ic_0 ?_
  exact kj_X8_readFact_33 F T HX8_readFact HX8_readBoth HX8_readTest hbase hstep h
set_option maxRecDepth 100000 in
set_option maxHeartbeats 4000000 in
theorem kr_X8_readFact {E : Ev} {X : Cx} {G : GH} {post : Bool → GH → Prop} {qX8_readFact : (Bool → GH → Prop) → GH → Prop} {qX8_readBoth : (Bool → GH → Prop) → GH → Prop} {qX8_readTest : (Bool → GH → Prop) → GH → Prop} {hh h2 : Nat} (F : Fx E X "MarkFieldModel" cX8_readFact 4) (T : RT E X hh 0 0 (some .boolean) (pB post)) (HX8_readFact : ∀ (post : Bool → GH → Prop) (G : GH) , qX8_readFact post G → Ct (lX X) yX8_readFact cX8_readFact 4 (some .boolean) h2 0 0 E (PX X) (sdX X) G [.ref (sdX X 24 0)] (pB post)) (HX8_readBoth : ∀ (post : Bool → GH → Prop) (G : GH) , qX8_readBoth post G → Ct (lX X) yX8_readBoth cX8_readBoth 3 (some .boolean) h2 0 0 E (PX X) (sdX X) G [.ref (sdX X 24 0)] (pB post)) (HX8_readTest : ∀ (post : Bool → GH → Prop) (G : GH) , qX8_readTest post G → Ct (lX X) yX8_readTest cX8_readTest 3 (some .boolean) h2 0 0 E (PX X) (sdX X) G [.ref (sdX X 24 0)] (pB post)) (hbase : 12 ≤ hh) (hstep : h2 + 1 ≤ hh) (h : wr_X8_readFact post qX8_readFact qX8_readBoth qX8_readTest G) : AW E X 4 0 [(0, .ref (sdX X 24 0))] [] G 0 0 := by
  have hP := F.P
  refine aw_al_n F 0 dX8_readFact_0 rfl rfl ?_
  refine aw_ldcSw F 59 (by decide) rfl dX8_readFact_1 ?_
  refine aw_cVb (stk := []) F T.room [.ref (E.2.2.2.1 59)] (k_X8_isWord hP (by decide) h) mv_X8_isWord w_1666 cf8 (lo_s rfl) (hP _ rfl) rfl (by decide) rfl rfl (Nat.le_of_ble_eq_true rfl) ⟨by omega, by omega⟩ ⟨(Nat.le_of_ble_eq_true rfl), (Nat.le_of_ble_eq_true rfl)⟩ dX8_readFact_4 (fun b_2 G_1 h => ?_)
  refine aw_if_eq (tgt := 54) F dX8_readFact_7 (by decide) (fun c_3 => ?_) (fun c_3 => ?_)
  · replace h := h.1 (bI_2 c_3)
    refine aw_al_n F 0 dX8_readFact_54 rfl rfl ?_
    refine aw_bi F dX8_readFact_55 bi_40 ?_
    refine aw_cVb (stk := []) F T.room [.int (40 : Int32)] (k_X8_isSign hP h) mv_X8_isSign w_1696 cf8 (lo_s rfl) (hP _ rfl) rfl (by decide) rfl rfl (Nat.le_of_ble_eq_true rfl) ⟨by omega, by omega⟩ ⟨(Nat.le_of_ble_eq_true rfl), (Nat.le_of_ble_eq_true rfl)⟩ dX8_readFact_57 (fun b_5 G_4 h => ?_)
    refine aw_if_eq (tgt := 105) F dX8_readFact_60 (by decide) (fun c_6 => ?_) (fun c_6 => ?_)
    · replace h := h.1 (bI_2 c_6)
      refine aw_al_n F 0 dX8_readFact_105 rfl rfl ?_
      refine aw_cVi (stk := []) F T.room [] (k_X8_readValue hP h) mv_X8_readValue w_1777 cf8 (lo_s rfl) (hP _ rfl) rfl (by decide) rfl rfl (Nat.le_of_ble_eq_true rfl) ⟨by omega, by omega⟩ ⟨(Nat.le_of_ble_eq_true rfl), (Nat.le_of_ble_eq_true rfl)⟩ dX8_readFact_106 (fun r_8 G_7 h => ?_)
      refine aw_is_n (lv1 := [(1, .int r_8), (0, .ref (sdX X 24 0))]) F dX8_readFact_109 rfl (by decide) rfl ?_
      refine aw_al_n F 1 dX8_readFact_110 rfl rfl ?_
      refine aw_bi F dX8_readFact_111 bi_60 ?_
      refine aw_cVb (stk := []) F T.room [.int (60 : Int32)] (k_X8_isSign hP h) mv_X8_isSign w_1696 cf8 (lo_s rfl) (hP _ rfl) rfl (by decide) rfl rfl (Nat.le_of_ble_eq_true rfl) ⟨by omega, by omega⟩ ⟨(Nat.le_of_ble_eq_true rfl), (Nat.le_of_ble_eq_true rfl)⟩ dX8_readFact_113 (fun b_10 G_9 h => ?_)
      refine aw_if_eq (tgt := 123) F dX8_readFact_116 (by decide) (fun c_11 => ?_) (fun c_11 => ?_)
      · replace h := h.1 (bI_2 c_11)
        refine aw_al_n F 1 dX8_readFact_123 rfl rfl ?_
        refine aw_bi F dX8_readFact_124 bi_61 ?_
        refine aw_cVb (stk := []) F T.room [.int (61 : Int32)] (k_X8_isSign hP h) mv_X8_isSign w_1696 cf8 (lo_s rfl) (hP _ rfl) rfl (by decide) rfl rfl (Nat.le_of_ble_eq_true rfl) ⟨by omega, by omega⟩ ⟨(Nat.le_of_ble_eq_true rfl), (Nat.le_of_ble_eq_true rfl)⟩ dX8_readFact_126 (fun b_13 G_12 h => ?_)
        refine aw_if_eq (tgt := 136) F dX8_readFact_129 (by decide) (fun c_14 => ?_) (fun c_14 => ?_)
        · replace h := h.1 (bI_2 c_14)
          refine aw_al_n F 1 dX8_readFact_136 rfl rfl ?_
          refine aw_bi F dX8_readFact_137 bi_62 ?_
          refine aw_cVb (stk := []) F T.room [.int (62 : Int32)] (k_X8_isSign hP h) mv_X8_isSign w_1696 cf8 (lo_s rfl) (hP _ rfl) rfl (by decide) rfl rfl (Nat.le_of_ble_eq_true rfl) ⟨by omega, by omega⟩ ⟨(Nat.le_of_ble_eq_true rfl), (Nat.le_of_ble_eq_true rfl)⟩ dX8_readFact_139 (fun b_16 G_15 h => ?_)
          refine aw_if_eq (tgt := 149) F dX8_readFact_142 (by decide) (fun c_17 => ?_) (fun c_17 => ?_)
          · replace h := h.1 (bI_2 c_17)
            refine aw_ic F dX8_readFact_149 ic_2 ?_
            refine aw_sub [1, 0] rfl ?_
            exact kj_X8_readFact_150 F T HX8_readFact HX8_readBoth HX8_readTest hbase hstep h
          · replace h := h.2 (bI_1 c_17)
            refine aw_ic F dX8_readFact_145 ic_1 ?_
            refine aw_go (tgt := 150) F dX8_readFact_146 (by decide) ?_
            refine aw_sub [1, 0] rfl ?_
            exact kj_X8_readFact_150 F T HX8_readFact HX8_readBoth HX8_readTest hbase hstep h
        · replace h := h.2 (bI_1 c_14)
          refine aw_ic F dX8_readFact_132 ic_0 ?_
          refine aw_go (tgt := 150) F dX8_readFact_133 (by decide) ?_
          refine aw_sub [1, 0] rfl ?_
          exact kj_X8_readFact_150 F T HX8_readFact HX8_readBoth HX8_readTest hbase hstep h
      · replace h := h.2 (bI_1 c_11)
        refine aw_ic F dX8_readFact_119 ic_m1 ?_
        refine aw_go (tgt := 150) F dX8_readFact_120 (by decide) ?_
        refine aw_sub [1, 0] rfl ?_
        exact kj_X8_readFact_150 F T HX8_readFact HX8_readBoth HX8_readTest hbase hstep h
    · replace h := h.2 (bI_1 c_6)
      refine aw_al_n F 0 dX8_readFact_63 rfl rfl ?_
      refine aw_cVv (stk := []) F T.room [] (k_X8_goesIn hP h) mv_X8_goesIn w_1773 cf8 (lo_s rfl) (hP _ rfl) rfl (by decide) rfl rfl (Nat.le_of_ble_eq_true rfl) ⟨by omega, by omega⟩ ⟨(Nat.le_of_ble_eq_true rfl), (Nat.le_of_ble_eq_true rfl)⟩ dX8_readFact_64 (fun G_30 h => ?_)
      refine aw_al_n F 0 dX8_readFact_67 rfl rfl ?_
      refine gf8_38 F (lo_s rfl) (hP _ rfl) rfl w_1198 dX8_readFact_68 ?_
      refine aw_if_ne (tgt := 85) F dX8_readFact_71 (by decide) (fun c_32 => ?_) (fun c_32 => ?_)
      · replace h := h.2 c_32
        exact kj_X8_readFact_85 F T HX8_readFact HX8_readBoth HX8_readTest hbase hstep h
      · replace h := h.1 c_32
        refine aw_al_n F 0 dX8_readFact_74 rfl rfl ?_
        refine aw_cVb (stk := []) F T.room [] (HX8_readTest _ _ h) mv_X8_readTest w_1760 cf8 (lo_s rfl) (hP _ rfl) rfl (by decide) rfl rfl (Nat.le_of_ble_eq_true rfl) ⟨by omega, by omega⟩ ⟨(Nat.le_of_ble_eq_true rfl), (Nat.le_of_ble_eq_true rfl)⟩ dX8_readFact_75 (fun b_37 G_36 h => ?_)
        refine aw_if_eq (tgt := 85) F dX8_readFact_78 (by decide) (fun c_38 => ?_) (fun c_38 => ?_)
        · replace h := h.1 (bI_2 c_38)
          exact kj_X8_readFact_85 F T HX8_readFact HX8_readBoth HX8_readTest hbase hstep h
        · replace h := h.2 (bI_1 c_38)
          refine aw_ic F dX8_readFact_81 ic_1 ?_
          refine aw_go (tgt := 86) F dX8_readFact_82 (by decide) ?_
          exact kj_X8_readFact_86 F T HX8_readFact HX8_readBoth HX8_readTest hbase hstep h
  · replace h := h.2 (bI_1 c_3)
    refine aw_al_n F 0 dX8_readFact_10 rfl rfl ?_
    refine aw_cVv (stk := []) F T.room [] (k_X8_goesIn hP h) mv_X8_goesIn w_1773 cf8 (lo_s rfl) (hP _ rfl) rfl (by decide) rfl rfl (Nat.le_of_ble_eq_true rfl) ⟨by omega, by omega⟩ ⟨(Nat.le_of_ble_eq_true rfl), (Nat.le_of_ble_eq_true rfl)⟩ dX8_readFact_11 (fun G_39 h => ?_)
    refine aw_al_n F 0 dX8_readFact_14 rfl rfl ?_
    refine gf8_38 F (lo_s rfl) (hP _ rfl) rfl w_1198 dX8_readFact_15 ?_
    refine aw_if_ne (tgt := 32) F dX8_readFact_18 (by decide) (fun c_41 => ?_) (fun c_41 => ?_)
    · replace h := h.2 c_41
      exact kj_X8_readFact_32 F T HX8_readFact HX8_readBoth HX8_readTest hbase hstep h
    · replace h := h.1 c_41
      refine aw_al_n F 0 dX8_readFact_21 rfl rfl ?_
      refine aw_cVb (stk := []) F T.room [] (HX8_readFact _ _ h) mv_X8_readFact w_1768 cf8 (lo_s rfl) (hP _ rfl) rfl (by decide) rfl rfl (Nat.le_of_ble_eq_true rfl) ⟨by omega, by omega⟩ ⟨(Nat.le_of_ble_eq_true rfl), (Nat.le_of_ble_eq_true rfl)⟩ dX8_readFact_22 (fun b_45 G_44 h => ?_)
      refine aw_if_eq (tgt := 32) F dX8_readFact_25 (by decide) (fun c_46 => ?_) (fun c_46 => ?_)
      · replace h := h.1 (bI_2 c_46)
        exact kj_X8_readFact_32 F T HX8_readFact HX8_readBoth HX8_readTest hbase hstep h
      · replace h := h.2 (bI_1 c_46)
        refine aw_ic F dX8_readFact_28 ic_1 ?_
        refine aw_go (tgt := 33) F dX8_readFact_29 (by decide) ?_
        exact kj_X8_readFact_33 F T HX8_readFact HX8_readBoth HX8_readTest hbase hstep h
-- X8_readBoth (height 0)
def lb_X8_readBoth_5 (post : Bool → GH → Prop) (qX8_readFact : (Bool → GH → Prop) → GH → Prop) (qX8_readBoth : (Bool → GH → Prop) → GH → Prop) (qX8_readTest : (Bool → GH → Prop) → GH → Prop) (P5 : Int32 → GH → Prop) (v1 : Int32) (G : GH) : Prop :=
  wp_X8_isWord (fun (b_4 : Bool) (G_3 : GH) => ((b_4 = false → (∃ bq : Bool, v1 = bI bq ∧ post bq G_3)) ∧ (b_4 = true → wp_X8_pass (fun (G_6 : GH) => qX8_readFact (fun (b_9 : Bool) (G_8 : GH) => ((v1 = 0 → P5 (0 : Int32) G_8) ∧ (¬ v1 = 0 → ((b_9 = false → P5 (0 : Int32) G_8) ∧ (b_9 = true → P5 (1 : Int32) G_8))))) G_6) G_3))) 60 G
def lp_X8_readBoth_5 (post : Bool → GH → Prop) (qX8_readFact : (Bool → GH → Prop) → GH → Prop) (qX8_readBoth : (Bool → GH → Prop) → GH → Prop) (qX8_readTest : (Bool → GH → Prop) → GH → Prop) (v1 : Int32) (G : GH) : Prop := ∀ P5 : Int32 → GH → Prop, (∀ (v1 : Int32) (G : GH), lb_X8_readBoth_5 post qX8_readFact qX8_readBoth qX8_readTest P5 v1 G → P5 v1 G) → P5 v1 G
def wr_X8_readBoth (post : Bool → GH → Prop) (qX8_readFact : (Bool → GH → Prop) → GH → Prop) (qX8_readBoth : (Bool → GH → Prop) → GH → Prop) (qX8_readTest : (Bool → GH → Prop) → GH → Prop) (G : GH) : Prop :=
  qX8_readFact (fun (b_2 : Bool) (G_1 : GH) => lp_X8_readBoth_5 post qX8_readFact qX8_readBoth qX8_readTest (bI b_2) G_1) G
set_option maxRecDepth 100000 in
set_option maxHeartbeats 4000000 in
theorem kl_X8_readBoth_5 {E : Ev} {X : Cx} {post : Bool → GH → Prop} {qX8_readFact : (Bool → GH → Prop) → GH → Prop} {qX8_readBoth : (Bool → GH → Prop) → GH → Prop} {qX8_readTest : (Bool → GH → Prop) → GH → Prop} {hh h2 : Nat} {v1 : Int32} {G : GH} (F : Fx E X "MarkFieldModel" cX8_readBoth 3) (T : RT E X hh 0 0 (some .boolean) (pB post)) (HX8_readFact : ∀ (post : Bool → GH → Prop) (G : GH) , qX8_readFact post G → Ct (lX X) yX8_readFact cX8_readFact 4 (some .boolean) h2 0 0 E (PX X) (sdX X) G [.ref (sdX X 24 0)] (pB post)) (HX8_readBoth : ∀ (post : Bool → GH → Prop) (G : GH) , qX8_readBoth post G → Ct (lX X) yX8_readBoth cX8_readBoth 3 (some .boolean) h2 0 0 E (PX X) (sdX X) G [.ref (sdX X 24 0)] (pB post)) (HX8_readTest : ∀ (post : Bool → GH → Prop) (G : GH) , qX8_readTest post G → Ct (lX X) yX8_readTest cX8_readTest 3 (some .boolean) h2 0 0 E (PX X) (sdX X) G [.ref (sdX X 24 0)] (pB post)) (hbase : 8 ≤ hh) (hstep : h2 + 1 ≤ hh) (h : lp_X8_readBoth_5 post qX8_readFact qX8_readBoth qX8_readTest v1 G) : AW E X 3 5 [(0, .ref (sdX X 24 0)), (1, .int v1)] [] G 0 0 := by
  have hP := F.P
  have K5 : ∀ (v1 : Int32) (G : GH), AW E X 3 5 [(0, .ref (sdX X 24 0)), (1, .int v1)] [] G 0 0 → AW E X 3 5 [(0, .ref (sdX X 24 0)), (1, .int v1)] [] G 0 0 := fun _ _ q => q
  refine h (fun (v1 : Int32) (G : GH) => AW E X 3 5 [(0, .ref (sdX X 24 0)), (1, .int v1)] [] G 0 0) (fun (v1 : Int32) (G : GH) h => ?_)
  refine aw_al_n F 0 dX8_readBoth_5 rfl rfl ?_
  refine aw_ldcSw F 60 (by decide) rfl dX8_readBoth_6 ?_
  refine aw_cVb (stk := []) F T.room [.ref (E.2.2.2.1 60)] (k_X8_isWord hP (by decide) h) mv_X8_isWord w_1666 cf8 (lo_s rfl) (hP _ rfl) rfl (by decide) rfl rfl (Nat.le_of_ble_eq_true rfl) ⟨by omega, by omega⟩ ⟨(Nat.le_of_ble_eq_true rfl), (Nat.le_of_ble_eq_true rfl)⟩ dX8_readBoth_9 (fun b_4 G_3 h => ?_)
  refine aw_if_eq (tgt := 41) F dX8_readBoth_12 (by decide) (fun c_5 => ?_) (fun c_5 => ?_)
  · replace h := h.1 (bI_2 c_5)
    refine aw_il_n F 1 dX8_readBoth_41 rfl rfl ?_
    obtain ⟨bq, hbq, h⟩ := h
    exact aw_zret F T bq hbq (Nat.le_of_ble_eq_true rfl) (Nat.le_of_ble_eq_true rfl) ⟨_, rfl, h⟩ dX8_readBoth_42
  · replace h := h.2 (bI_1 c_5)
    refine aw_al_n F 0 dX8_readBoth_15 rfl rfl ?_
    refine aw_cVv (stk := []) F T.room [] (k_X8_pass hP h) mv_X8_pass w_1676 cf8 (lo_s rfl) (hP _ rfl) rfl (by decide) rfl rfl (Nat.le_of_ble_eq_true rfl) ⟨by omega, by omega⟩ ⟨(Nat.le_of_ble_eq_true rfl), (Nat.le_of_ble_eq_true rfl)⟩ dX8_readBoth_16 (fun G_6 h => ?_)
    refine aw_al_n F 0 dX8_readBoth_19 rfl rfl ?_
    refine aw_cVb (stk := []) F T.room [] (HX8_readFact _ _ h) mv_X8_readFact w_1768 cf8 (lo_s rfl) (hP _ rfl) rfl (by decide) rfl rfl (Nat.le_of_ble_eq_true rfl) ⟨by omega, by omega⟩ ⟨(Nat.le_of_ble_eq_true rfl), (Nat.le_of_ble_eq_true rfl)⟩ dX8_readBoth_20 (fun b_9 G_8 h => ?_)
    refine aw_is_n (lv1 := [(2, .int (bI b_9)), (0, .ref (sdX X 24 0)), (1, .int v1)]) F dX8_readBoth_23 rfl (by decide) rfl ?_
    refine aw_il_n F 2 dX8_readBoth_24 rfl rfl ?_
    refine aw_if_eq (tgt := 36) F dX8_readBoth_25 (by decide) (fun c_10 => ?_) (fun c_10 => ?_)
    · replace h := h.1 c_10
      refine aw_ic F dX8_readBoth_36 ic_0 ?_
      refine aw_is_n (lv1 := [(1, .int (0 : Int32)), (2, .int (bI b_9)), (0, .ref (sdX X 24 0))]) F dX8_readBoth_37 rfl (by decide) rfl ?_
      refine aw_go (tgt := 5) F dX8_readBoth_38 (by decide) ?_
      refine aw_sub [2, 0] rfl ?_
      exact K5 _ _ h
    · replace h := h.2 c_10
      refine aw_il_n F 0 dX8_readBoth_28 rfl rfl ?_
      refine aw_if_eq (tgt := 36) F dX8_readBoth_29 (by decide) (fun c_11 => ?_) (fun c_11 => ?_)
      · replace h := h.1 (bI_2 c_11)
        refine aw_ic F dX8_readBoth_36 ic_0 ?_
        refine aw_is_n (lv1 := [(1, .int (0 : Int32)), (2, .int (bI b_9)), (0, .ref (sdX X 24 0))]) F dX8_readBoth_37 rfl (by decide) rfl ?_
        refine aw_go (tgt := 5) F dX8_readBoth_38 (by decide) ?_
        refine aw_sub [2, 0] rfl ?_
        exact K5 _ _ h
      · replace h := h.2 (bI_1 c_11)
        refine aw_ic F dX8_readBoth_32 ic_1 ?_
        refine aw_go (tgt := 37) F dX8_readBoth_33 (by decide) ?_
        refine aw_is_n (lv1 := [(1, .int (1 : Int32)), (2, .int (bI b_9)), (0, .ref (sdX X 24 0))]) F dX8_readBoth_37 rfl (by decide) rfl ?_
        refine aw_go (tgt := 5) F dX8_readBoth_38 (by decide) ?_
        refine aw_sub [2, 0] rfl ?_
        exact K5 _ _ h
set_option maxRecDepth 100000 in
set_option maxHeartbeats 4000000 in
theorem kr_X8_readBoth {E : Ev} {X : Cx} {G : GH} {post : Bool → GH → Prop} {qX8_readFact : (Bool → GH → Prop) → GH → Prop} {qX8_readBoth : (Bool → GH → Prop) → GH → Prop} {qX8_readTest : (Bool → GH → Prop) → GH → Prop} {hh h2 : Nat} (F : Fx E X "MarkFieldModel" cX8_readBoth 3) (T : RT E X hh 0 0 (some .boolean) (pB post)) (HX8_readFact : ∀ (post : Bool → GH → Prop) (G : GH) , qX8_readFact post G → Ct (lX X) yX8_readFact cX8_readFact 4 (some .boolean) h2 0 0 E (PX X) (sdX X) G [.ref (sdX X 24 0)] (pB post)) (HX8_readBoth : ∀ (post : Bool → GH → Prop) (G : GH) , qX8_readBoth post G → Ct (lX X) yX8_readBoth cX8_readBoth 3 (some .boolean) h2 0 0 E (PX X) (sdX X) G [.ref (sdX X 24 0)] (pB post)) (HX8_readTest : ∀ (post : Bool → GH → Prop) (G : GH) , qX8_readTest post G → Ct (lX X) yX8_readTest cX8_readTest 3 (some .boolean) h2 0 0 E (PX X) (sdX X) G [.ref (sdX X 24 0)] (pB post)) (hbase : 8 ≤ hh) (hstep : h2 + 1 ≤ hh) (h : wr_X8_readBoth post qX8_readFact qX8_readBoth qX8_readTest G) : AW E X 3 0 [(0, .ref (sdX X 24 0))] [] G 0 0 := by
  have hP := F.P
  refine aw_al_n F 0 dX8_readBoth_0 rfl rfl ?_
  refine aw_cVb (stk := []) F T.room [] (HX8_readFact _ _ h) mv_X8_readFact w_1768 cf8 (lo_s rfl) (hP _ rfl) rfl (by decide) rfl rfl (Nat.le_of_ble_eq_true rfl) ⟨by omega, by omega⟩ ⟨(Nat.le_of_ble_eq_true rfl), (Nat.le_of_ble_eq_true rfl)⟩ dX8_readBoth_1 (fun b_2 G_1 h => ?_)
  refine aw_is_n (lv1 := [(1, .int (bI b_2)), (0, .ref (sdX X 24 0))]) F dX8_readBoth_4 rfl (by decide) rfl ?_
  refine aw_sub [1, 0] rfl ?_
  exact kl_X8_readBoth_5 F T HX8_readFact HX8_readBoth HX8_readTest hbase hstep h
-- X8_readTest (height 0)
def j_X8_readTest_32 (post : Bool → GH → Prop) (qX8_readFact : (Bool → GH → Prop) → GH → Prop) (qX8_readBoth : (Bool → GH → Prop) → GH → Prop) (qX8_readTest : (Bool → GH → Prop) → GH → Prop) (P5 : Int32 → GH → Prop) (G : GH) : Prop :=
  P5 (1 : Int32) G
def lb_X8_readTest_5 (post : Bool → GH → Prop) (qX8_readFact : (Bool → GH → Prop) → GH → Prop) (qX8_readBoth : (Bool → GH → Prop) → GH → Prop) (qX8_readTest : (Bool → GH → Prop) → GH → Prop) (P5 : Int32 → GH → Prop) (v1 : Int32) (G : GH) : Prop :=
  wp_X8_isWord (fun (b_4 : Bool) (G_3 : GH) => ((b_4 = false → (∃ bq : Bool, v1 = bI bq ∧ post bq G_3)) ∧ (b_4 = true → wp_X8_pass (fun (G_6 : GH) => qX8_readBoth (fun (b_9 : Bool) (G_8 : GH) => ((v1 = 0 → ((b_9 = false → P5 (0 : Int32) G_8) ∧ (b_9 = true → j_X8_readTest_32 post qX8_readFact qX8_readBoth qX8_readTest P5 G_8))) ∧ (¬ v1 = 0 → j_X8_readTest_32 post qX8_readFact qX8_readBoth qX8_readTest P5 G_8))) G_6) G_3))) 61 G
def lp_X8_readTest_5 (post : Bool → GH → Prop) (qX8_readFact : (Bool → GH → Prop) → GH → Prop) (qX8_readBoth : (Bool → GH → Prop) → GH → Prop) (qX8_readTest : (Bool → GH → Prop) → GH → Prop) (v1 : Int32) (G : GH) : Prop := ∀ P5 : Int32 → GH → Prop, (∀ (v1 : Int32) (G : GH), lb_X8_readTest_5 post qX8_readFact qX8_readBoth qX8_readTest P5 v1 G → P5 v1 G) → P5 v1 G
def wr_X8_readTest (post : Bool → GH → Prop) (qX8_readFact : (Bool → GH → Prop) → GH → Prop) (qX8_readBoth : (Bool → GH → Prop) → GH → Prop) (qX8_readTest : (Bool → GH → Prop) → GH → Prop) (G : GH) : Prop :=
  qX8_readBoth (fun (b_2 : Bool) (G_1 : GH) => lp_X8_readTest_5 post qX8_readFact qX8_readBoth qX8_readTest (bI b_2) G_1) G
set_option maxRecDepth 100000 in
set_option maxHeartbeats 4000000 in
theorem kj_X8_readTest_32 {E : Ev} {X : Cx} {post : Bool → GH → Prop} {qX8_readFact : (Bool → GH → Prop) → GH → Prop} {qX8_readBoth : (Bool → GH → Prop) → GH → Prop} {qX8_readTest : (Bool → GH → Prop) → GH → Prop} {hh h2 : Nat} {P5 : Int32 → GH → Prop} {G : GH} (F : Fx E X "MarkFieldModel" cX8_readTest 3) (T : RT E X hh 0 0 (some .boolean) (pB post)) (HX8_readFact : ∀ (post : Bool → GH → Prop) (G : GH) , qX8_readFact post G → Ct (lX X) yX8_readFact cX8_readFact 4 (some .boolean) h2 0 0 E (PX X) (sdX X) G [.ref (sdX X 24 0)] (pB post)) (HX8_readBoth : ∀ (post : Bool → GH → Prop) (G : GH) , qX8_readBoth post G → Ct (lX X) yX8_readBoth cX8_readBoth 3 (some .boolean) h2 0 0 E (PX X) (sdX X) G [.ref (sdX X 24 0)] (pB post)) (HX8_readTest : ∀ (post : Bool → GH → Prop) (G : GH) , qX8_readTest post G → Ct (lX X) yX8_readTest cX8_readTest 3 (some .boolean) h2 0 0 E (PX X) (sdX X) G [.ref (sdX X 24 0)] (pB post)) (hbase : 8 ≤ hh) (hstep : h2 + 1 ≤ hh) (K5 : ∀ (v1 : Int32) (G : GH), P5 v1 G → AW E X 3 5 [(0, .ref (sdX X 24 0)), (1, .int v1)] [] G 0 0) (h : j_X8_readTest_32 post qX8_readFact qX8_readBoth qX8_readTest P5 G) : AW E X 3 32 [(0, .ref (sdX X 24 0))] [] G 0 0 := by
  have hP := F.P
  refine aw_ic F dX8_readTest_32 ic_1 ?_
  refine aw_go (tgt := 37) F dX8_readTest_33 (by decide) ?_
  refine aw_is_n (lv1 := [(1, .int (1 : Int32)), (0, .ref (sdX X 24 0))]) F dX8_readTest_37 rfl (by decide) rfl ?_
  refine aw_go (tgt := 5) F dX8_readTest_38 (by decide) ?_
  refine aw_sub [1, 0] rfl ?_
  exact K5 _ _ h
set_option maxRecDepth 100000 in
set_option maxHeartbeats 4000000 in
theorem kl_X8_readTest_5 {E : Ev} {X : Cx} {post : Bool → GH → Prop} {qX8_readFact : (Bool → GH → Prop) → GH → Prop} {qX8_readBoth : (Bool → GH → Prop) → GH → Prop} {qX8_readTest : (Bool → GH → Prop) → GH → Prop} {hh h2 : Nat} {v1 : Int32} {G : GH} (F : Fx E X "MarkFieldModel" cX8_readTest 3) (T : RT E X hh 0 0 (some .boolean) (pB post)) (HX8_readFact : ∀ (post : Bool → GH → Prop) (G : GH) , qX8_readFact post G → Ct (lX X) yX8_readFact cX8_readFact 4 (some .boolean) h2 0 0 E (PX X) (sdX X) G [.ref (sdX X 24 0)] (pB post)) (HX8_readBoth : ∀ (post : Bool → GH → Prop) (G : GH) , qX8_readBoth post G → Ct (lX X) yX8_readBoth cX8_readBoth 3 (some .boolean) h2 0 0 E (PX X) (sdX X) G [.ref (sdX X 24 0)] (pB post)) (HX8_readTest : ∀ (post : Bool → GH → Prop) (G : GH) , qX8_readTest post G → Ct (lX X) yX8_readTest cX8_readTest 3 (some .boolean) h2 0 0 E (PX X) (sdX X) G [.ref (sdX X 24 0)] (pB post)) (hbase : 8 ≤ hh) (hstep : h2 + 1 ≤ hh) (h : lp_X8_readTest_5 post qX8_readFact qX8_readBoth qX8_readTest v1 G) : AW E X 3 5 [(0, .ref (sdX X 24 0)), (1, .int v1)] [] G 0 0 := by
  have hP := F.P
  have K5 : ∀ (v1 : Int32) (G : GH), AW E X 3 5 [(0, .ref (sdX X 24 0)), (1, .int v1)] [] G 0 0 → AW E X 3 5 [(0, .ref (sdX X 24 0)), (1, .int v1)] [] G 0 0 := fun _ _ q => q
  refine h (fun (v1 : Int32) (G : GH) => AW E X 3 5 [(0, .ref (sdX X 24 0)), (1, .int v1)] [] G 0 0) (fun (v1 : Int32) (G : GH) h => ?_)
  refine aw_al_n F 0 dX8_readTest_5 rfl rfl ?_
  refine aw_ldcSw F 61 (by decide) rfl dX8_readTest_6 ?_
  refine aw_cVb (stk := []) F T.room [.ref (E.2.2.2.1 61)] (k_X8_isWord hP (by decide) h) mv_X8_isWord w_1666 cf8 (lo_s rfl) (hP _ rfl) rfl (by decide) rfl rfl (Nat.le_of_ble_eq_true rfl) ⟨by omega, by omega⟩ ⟨(Nat.le_of_ble_eq_true rfl), (Nat.le_of_ble_eq_true rfl)⟩ dX8_readTest_9 (fun b_4 G_3 h => ?_)
  refine aw_if_eq (tgt := 41) F dX8_readTest_12 (by decide) (fun c_5 => ?_) (fun c_5 => ?_)
  · replace h := h.1 (bI_2 c_5)
    refine aw_il_n F 1 dX8_readTest_41 rfl rfl ?_
    obtain ⟨bq, hbq, h⟩ := h
    exact aw_zret F T bq hbq (Nat.le_of_ble_eq_true rfl) (Nat.le_of_ble_eq_true rfl) ⟨_, rfl, h⟩ dX8_readTest_42
  · replace h := h.2 (bI_1 c_5)
    refine aw_al_n F 0 dX8_readTest_15 rfl rfl ?_
    refine aw_cVv (stk := []) F T.room [] (k_X8_pass hP h) mv_X8_pass w_1676 cf8 (lo_s rfl) (hP _ rfl) rfl (by decide) rfl rfl (Nat.le_of_ble_eq_true rfl) ⟨by omega, by omega⟩ ⟨(Nat.le_of_ble_eq_true rfl), (Nat.le_of_ble_eq_true rfl)⟩ dX8_readTest_16 (fun G_6 h => ?_)
    refine aw_al_n F 0 dX8_readTest_19 rfl rfl ?_
    refine aw_cVb (stk := []) F T.room [] (HX8_readBoth _ _ h) mv_X8_readBoth w_1764 cf8 (lo_s rfl) (hP _ rfl) rfl (by decide) rfl rfl (Nat.le_of_ble_eq_true rfl) ⟨by omega, by omega⟩ ⟨(Nat.le_of_ble_eq_true rfl), (Nat.le_of_ble_eq_true rfl)⟩ dX8_readTest_20 (fun b_9 G_8 h => ?_)
    refine aw_is_n (lv1 := [(2, .int (bI b_9)), (0, .ref (sdX X 24 0)), (1, .int v1)]) F dX8_readTest_23 rfl (by decide) rfl ?_
    refine aw_il_n F 2 dX8_readTest_24 rfl rfl ?_
    refine aw_if_ne (tgt := 32) F dX8_readTest_25 (by decide) (fun c_10 => ?_) (fun c_10 => ?_)
    · replace h := h.2 c_10
      refine aw_sub [1] rfl ?_
      exact kj_X8_readTest_32 F T HX8_readFact HX8_readBoth HX8_readTest hbase hstep K5 h
    · replace h := h.1 c_10
      refine aw_il_n F 0 dX8_readTest_28 rfl rfl ?_
      refine aw_if_eq (tgt := 36) F dX8_readTest_29 (by decide) (fun c_11 => ?_) (fun c_11 => ?_)
      · replace h := h.1 (bI_2 c_11)
        refine aw_ic F dX8_readTest_36 ic_0 ?_
        refine aw_is_n (lv1 := [(1, .int (0 : Int32)), (2, .int (bI b_9)), (0, .ref (sdX X 24 0))]) F dX8_readTest_37 rfl (by decide) rfl ?_
        refine aw_go (tgt := 5) F dX8_readTest_38 (by decide) ?_
        refine aw_sub [2, 0] rfl ?_
        exact K5 _ _ h
      · replace h := h.2 (bI_1 c_11)
        refine aw_sub [1] rfl ?_
        exact kj_X8_readTest_32 F T HX8_readFact HX8_readBoth HX8_readTest hbase hstep K5 h
set_option maxRecDepth 100000 in
set_option maxHeartbeats 4000000 in
theorem kr_X8_readTest {E : Ev} {X : Cx} {G : GH} {post : Bool → GH → Prop} {qX8_readFact : (Bool → GH → Prop) → GH → Prop} {qX8_readBoth : (Bool → GH → Prop) → GH → Prop} {qX8_readTest : (Bool → GH → Prop) → GH → Prop} {hh h2 : Nat} (F : Fx E X "MarkFieldModel" cX8_readTest 3) (T : RT E X hh 0 0 (some .boolean) (pB post)) (HX8_readFact : ∀ (post : Bool → GH → Prop) (G : GH) , qX8_readFact post G → Ct (lX X) yX8_readFact cX8_readFact 4 (some .boolean) h2 0 0 E (PX X) (sdX X) G [.ref (sdX X 24 0)] (pB post)) (HX8_readBoth : ∀ (post : Bool → GH → Prop) (G : GH) , qX8_readBoth post G → Ct (lX X) yX8_readBoth cX8_readBoth 3 (some .boolean) h2 0 0 E (PX X) (sdX X) G [.ref (sdX X 24 0)] (pB post)) (HX8_readTest : ∀ (post : Bool → GH → Prop) (G : GH) , qX8_readTest post G → Ct (lX X) yX8_readTest cX8_readTest 3 (some .boolean) h2 0 0 E (PX X) (sdX X) G [.ref (sdX X 24 0)] (pB post)) (hbase : 8 ≤ hh) (hstep : h2 + 1 ≤ hh) (h : wr_X8_readTest post qX8_readFact qX8_readBoth qX8_readTest G) : AW E X 3 0 [(0, .ref (sdX X 24 0))] [] G 0 0 := by
  have hP := F.P
  refine aw_al_n F 0 dX8_readTest_0 rfl rfl ?_
  refine aw_cVb (stk := []) F T.room [] (HX8_readBoth _ _ h) mv_X8_readBoth w_1764 cf8 (lo_s rfl) (hP _ rfl) rfl (by decide) rfl rfl (Nat.le_of_ble_eq_true rfl) ⟨by omega, by omega⟩ ⟨(Nat.le_of_ble_eq_true rfl), (Nat.le_of_ble_eq_true rfl)⟩ dX8_readTest_1 (fun b_2 G_1 h => ?_)
  refine aw_is_n (lv1 := [(1, .int (bI b_2)), (0, .ref (sdX X 24 0))]) F dX8_readTest_4 rfl (by decide) rfl ?_
  refine aw_sub [1, 0] rfl ?_
  exact kl_X8_readTest_5 F T HX8_readFact HX8_readBoth HX8_readTest hbase hstep h
