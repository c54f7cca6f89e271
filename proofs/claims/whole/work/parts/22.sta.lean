theorem in_m1 (x : Int32) : x + Int32.ofInt (-1) = x + (-1 : Int32) := by rw [show Int32.ofInt (-1) = (-1 : Int32) by decide]
theorem w_209 : (Jvm.Cond.fieldLink "MarkField$Standing" (9 : Nat) "MarkField$Standing" "order" "[I") ∈ tb := tb_of (List.mem_of_getElem? (i := 209) (by decide +kernel)) rfl
theorem w_85 : (Jvm.Cond.fieldLink "MarkField$Standing" (37 : Nat) "MarkField$Register" "marks" "I") ∈ tb := tb_of (List.mem_of_getElem? (i := 85) (by decide +kernel)) rfl
theorem w_210 : (Jvm.Cond.fieldLink "MarkField$Standing" (15 : Nat) "MarkField$Standing" "ranks" "[I") ∈ tb := tb_of (List.mem_of_getElem? (i := 210) (by decide +kernel)) rfl
theorem w_221 : (Jvm.Cond.fieldLink "MarkField$Standing" (30 : Nat) "MarkField$Standing" "priorities" "[I") ∈ tb := tb_of (List.mem_of_getElem? (i := 221) (by decide +kernel)) rfl
theorem w_848 : (Jvm.Cond.methodLink "MarkField$Standing" (46 : Nat) ({ cls := "MarkField$Register", name := "priorityOf", desc := "(III)I" } : Jvm.MethodName)) ∈ tb := tb_of (List.mem_of_getElem? (i := 848) (by decide +kernel)) rfl
theorem w_873 : (Jvm.Cond.methodLink "MarkField$Standing" (50 : Nat) ({ cls := "MarkField$Register", name := "halfCount", desc := "()I" } : Jvm.MethodName)) ∈ tb := tb_of (List.mem_of_getElem? (i := 873) (by decide +kernel)) rfl
theorem w_894 : (Jvm.Cond.code ({ cls := "MarkField$Register", name := "allMarks", desc := "()I" } : Jvm.MethodName) prog_6_method_6_code (1 : Nat) (Option.some Jvm.ClassFile.FieldType.int)) ∈ tb := tb_of (List.mem_of_getElem? (i := 894) (by decide +kernel)) rfl
theorem w_892 : (Jvm.Cond.instanceMethod ({ cls := "MarkField$Register", name := "allMarks", desc := "()I" } : Jvm.MethodName)) ∈ tb := tb_of (List.mem_of_getElem? (i := 892) (by decide +kernel)) rfl
theorem w_893 : (Jvm.Cond.selects "MarkField$Register" ({ cls := "MarkField$Register", name := "allMarks", desc := "()I" } : Jvm.MethodName) ({ cls := "MarkField$Register", name := "allMarks", desc := "()I" } : Jvm.MethodName)) ∈ tb := tb_of (List.mem_of_getElem? (i := 893) (by decide +kernel)) rfl
theorem w_976 : (Jvm.Cond.methodLink "MarkField$Standing" (54 : Nat) ({ cls := "MarkField$Register", name := "allMarks", desc := "()I" } : Jvm.MethodName)) ∈ tb := tb_of (List.mem_of_getElem? (i := 976) (by decide +kernel)) rfl
theorem w_846 : (Jvm.Cond.code ({ cls := "MarkField$Standing", name := "rank", desc := "(LMarkField$Register;III)V" } : Jvm.MethodName) prog_7_method_3_code (9 : Nat) (Option.none : Option Jvm.ClassFile.FieldType)) ∈ tb := tb_of (List.mem_of_getElem? (i := 846) (by decide +kernel)) rfl
theorem w_7 : (Jvm.Cond.initialized "MarkField$Standing") ∈ tb := tb_of (List.mem_of_getElem? (i := 7) (by decide +kernel)) rfl
theorem w_844 : (Jvm.Cond.instanceMethod ({ cls := "MarkField$Standing", name := "rank", desc := "(LMarkField$Register;III)V" } : Jvm.MethodName)) ∈ tb := tb_of (List.mem_of_getElem? (i := 844) (by decide +kernel)) rfl
theorem w_845 : (Jvm.Cond.selects "MarkField$Standing" ({ cls := "MarkField$Standing", name := "rank", desc := "(LMarkField$Register;III)V" } : Jvm.MethodName) ({ cls := "MarkField$Standing", name := "rank", desc := "(LMarkField$Register;III)V" } : Jvm.MethodName)) ∈ tb := tb_of (List.mem_of_getElem? (i := 845) (by decide +kernel)) rfl
theorem w_874 : (Jvm.Cond.methodLink "MarkField$Standing" (57 : Nat) ({ cls := "MarkField$Standing", name := "rank", desc := "(LMarkField$Register;III)V" } : Jvm.MethodName)) ∈ tb := tb_of (List.mem_of_getElem? (i := 874) (by decide +kernel)) rfl
theorem w_857 : (Jvm.Cond.code ({ cls := "MarkField$Standing", name := "inOrder", desc := "(II)I" } : Jvm.MethodName) prog_7_method_2_code (3 : Nat) (Option.some Jvm.ClassFile.FieldType.int)) ∈ tb := tb_of (List.mem_of_getElem? (i := 857) (by decide +kernel)) rfl
theorem w_855 : (Jvm.Cond.instanceMethod ({ cls := "MarkField$Standing", name := "inOrder", desc := "(II)I" } : Jvm.MethodName)) ∈ tb := tb_of (List.mem_of_getElem? (i := 855) (by decide +kernel)) rfl
theorem w_856 : (Jvm.Cond.selects "MarkField$Standing" ({ cls := "MarkField$Standing", name := "inOrder", desc := "(II)I" } : Jvm.MethodName) ({ cls := "MarkField$Standing", name := "inOrder", desc := "(II)I" } : Jvm.MethodName)) ∈ tb := tb_of (List.mem_of_getElem? (i := 856) (by decide +kernel)) rfl
theorem w_854 : (Jvm.Cond.methodLink "MarkField$Standing" (67 : Nat) ({ cls := "MarkField$Standing", name := "inOrder", desc := "(II)I" } : Jvm.MethodName)) ∈ tb := tb_of (List.mem_of_getElem? (i := 854) (by decide +kernel)) rfl
theorem w_222 : (Jvm.Cond.fieldLink "MarkField$Standing" (33 : Nat) "MarkField$Standing" "holding" "I") ∈ tb := tb_of (List.mem_of_getElem? (i := 222) (by decide +kernel)) rfl
theorem w_212 : (Jvm.Cond.fieldLink "MarkField$Standing" (18 : Nat) "MarkField$Standing" "refusedFor" "[I") ∈ tb := tb_of (List.mem_of_getElem? (i := 212) (by decide +kernel)) rfl
theorem w_853 : (Jvm.Cond.methodLink "MarkField$Standing" (61 : Nat) ({ cls := "java/util/Arrays", name := "fill", desc := "([II)V" } : Jvm.MethodName)) ∈ tb := tb_of (List.mem_of_getElem? (i := 853) (by decide +kernel)) rfl
theorem w_183 : (Jvm.Cond.fieldLink "MarkField$Standing" (71 : Nat) "MarkField$Likeness" "alike" "[I") ∈ tb := tb_of (List.mem_of_getElem? (i := 183) (by decide +kernel)) rfl
theorem w_111 : (Jvm.Cond.fieldLink "MarkField$Standing" (76 : Nat) "MarkField$Register" "consents" "[I") ∈ tb := tb_of (List.mem_of_getElem? (i := 111) (by decide +kernel)) rfl
theorem w_861 : (Jvm.Cond.code ({ cls := "MarkField$Standing", name := "mostSenior", desc := "(II)I" } : Jvm.MethodName) prog_7_method_6_code (4 : Nat) (Option.some Jvm.ClassFile.FieldType.int)) ∈ tb := tb_of (List.mem_of_getElem? (i := 861) (by decide +kernel)) rfl
theorem w_860 : (Jvm.Cond.instanceMethod ({ cls := "MarkField$Standing", name := "mostSenior", desc := "(II)I" } : Jvm.MethodName)) ∈ tb := tb_of (List.mem_of_getElem? (i := 860) (by decide +kernel)) rfl
theorem ws_21 : (Jvm.Cond.selects "MarkField$Standing" ({ cls := "MarkField$Standing", name := "mostSenior", desc := "(II)I" } : Jvm.MethodName) ({ cls := "MarkField$Standing", name := "mostSenior", desc := "(II)I" } : Jvm.MethodName)) ∈ tb := tb_sel (List.mem_of_getElem? (i := 21) (by decide +kernel)) rfl
theorem w_858 : (Jvm.Cond.methodLink "MarkField$Standing" (79 : Nat) ({ cls := "MarkField$Standing", name := "mostSenior", desc := "(II)I" } : Jvm.MethodName)) ∈ tb := tb_of (List.mem_of_getElem? (i := 858) (by decide +kernel)) rfl
theorem w_214 : (Jvm.Cond.fieldLink "MarkField$Standing" (21 : Nat) "MarkField$Standing" "entitled" "[I") ∈ tb := tb_of (List.mem_of_getElem? (i := 214) (by decide +kernel)) rfl
theorem w_219 : (Jvm.Cond.fieldLink "MarkField$Standing" (27 : Nat) "MarkField$Standing" "leastRefusedFor" "[I") ∈ tb := tb_of (List.mem_of_getElem? (i := 219) (by decide +kernel)) rfl
theorem w_216 : (Jvm.Cond.fieldLink "MarkField$Standing" (24 : Nat) "MarkField$Standing" "held" "[I") ∈ tb := tb_of (List.mem_of_getElem? (i := 216) (by decide +kernel)) rfl
theorem w_852 : (Jvm.Cond.code ({ cls := "MarkField$Standing", name := "settle", desc := "(LMarkField$Register;LMarkField$Likeness;I)V" } : Jvm.MethodName) prog_7_method_5_code (7 : Nat) (Option.none : Option Jvm.ClassFile.FieldType)) ∈ tb := tb_of (List.mem_of_getElem? (i := 852) (by decide +kernel)) rfl
theorem w_850 : (Jvm.Cond.instanceMethod ({ cls := "MarkField$Standing", name := "settle", desc := "(LMarkField$Register;LMarkField$Likeness;I)V" } : Jvm.MethodName)) ∈ tb := tb_of (List.mem_of_getElem? (i := 850) (by decide +kernel)) rfl
theorem w_851 : (Jvm.Cond.selects "MarkField$Standing" ({ cls := "MarkField$Standing", name := "settle", desc := "(LMarkField$Register;LMarkField$Likeness;I)V" } : Jvm.MethodName) ({ cls := "MarkField$Standing", name := "settle", desc := "(LMarkField$Register;LMarkField$Likeness;I)V" } : Jvm.MethodName)) ∈ tb := tb_of (List.mem_of_getElem? (i := 851) (by decide +kernel)) rfl
theorem w_875 : (Jvm.Cond.methodLink "MarkField$Standing" (82 : Nat) ({ cls := "MarkField$Standing", name := "settle", desc := "(LMarkField$Register;LMarkField$Likeness;I)V" } : Jvm.MethodName)) ∈ tb := tb_of (List.mem_of_getElem? (i := 875) (by decide +kernel)) rfl
theorem w_879 : (Jvm.Cond.code ({ cls := "MarkField$Standing", name := "noteHalf", desc := "(II)V" } : Jvm.MethodName) prog_7_method_8_code (3 : Nat) (Option.none : Option Jvm.ClassFile.FieldType)) ∈ tb := tb_of (List.mem_of_getElem? (i := 879) (by decide +kernel)) rfl
theorem w_878 : (Jvm.Cond.instanceMethod ({ cls := "MarkField$Standing", name := "noteHalf", desc := "(II)V" } : Jvm.MethodName)) ∈ tb := tb_of (List.mem_of_getElem? (i := 878) (by decide +kernel)) rfl
theorem ws_22 : (Jvm.Cond.selects "MarkField$Standing" ({ cls := "MarkField$Standing", name := "noteHalf", desc := "(II)V" } : Jvm.MethodName) ({ cls := "MarkField$Standing", name := "noteHalf", desc := "(II)V" } : Jvm.MethodName)) ∈ tb := tb_sel (List.mem_of_getElem? (i := 22) (by decide +kernel)) rfl
theorem w_876 : (Jvm.Cond.methodLink "MarkField$Standing" (86 : Nat) ({ cls := "MarkField$Standing", name := "noteHalf", desc := "(II)V" } : Jvm.MethodName)) ∈ tb := tb_of (List.mem_of_getElem? (i := 876) (by decide +kernel)) rfl
theorem mv_X4_allMarks : MV yX4_allMarks cX4_allMarks 1 (some .int) 0 := ⟨⟨w_894, w_3, by decide, by decide, by decide +kernel⟩, w_892, w_893⟩
theorem mv_X5_rank : MV yX5_rank cX5_rank 9 none 4 := ⟨⟨w_846, w_7, by decide, by decide, by decide +kernel⟩, w_844, w_845⟩
theorem mv_X5_inOrder : MV yX5_inOrder cX5_inOrder 3 (some .int) 2 := ⟨⟨w_857, w_7, by decide, by decide, by decide +kernel⟩, w_855, w_856⟩
theorem mv_X5_mostSenior : MV yX5_mostSenior cX5_mostSenior 4 (some .int) 2 := ⟨⟨w_861, w_7, by decide, by decide, by decide +kernel⟩, w_860, ws_21⟩
theorem mv_X5_settle : MV yX5_settle cX5_settle 7 none 3 := ⟨⟨w_852, w_7, by decide, by decide, by decide +kernel⟩, w_850, w_851⟩
theorem mv_X5_noteHalf : MV yX5_noteHalf cX5_noteHalf 3 none 2 := ⟨⟨w_879, w_7, by decide, by decide, by decide +kernel⟩, w_878, ws_22⟩
-- X5_inOrder (height 0)
def wp_X5_inOrder (post : Int32 → GH → Prop) (x1 x2 : Int32) (G : GH) : Prop :=
  (vp_in ((x1 * (13 : Int32)) + x2) 156 ∧ post (G 5 1 ((x1 * (13 : Int32)) + x2).toNatClampNeg) G)
set_option maxRecDepth 100000 in
set_option maxHeartbeats 4000000 in
theorem k_X5_inOrder {l : Launch} {E : Ev} {P : Nat → Prop} {sd : Nat → Nat → Nat} {G : GH} {post : Int32 → GH → Prop} {x1 x2 : Int32} (hPP : ∀ o, stt o = true → P o) (h : wp_X5_inOrder post x1 x2 G) : Ct l yX5_inOrder cX5_inOrder 3 (some .int) 0 0 0 E P sd G [.ref (sd 5 0), .int x1, .int x2] (pI post) := by
  refine ct_of (own := "MarkField$Standing") (by decide) rfl (Nat.le_of_ble_eq_true rfl) hPP (fun X F T el eP es => ?_)
  subst el; subst eP; subst es
  have hP := F.P
  change AW E X 3 0 [(0, .ref (sdX X 5 0)), (1, .int x1), (2, .int x2)] [] G 0 0
  refine aw_al_n F 0 dX5_inOrder_0 rfl rfl ?_
  refine gr5_0 F (lo_s rfl) (hP _ rfl) rfl w_209 (hP _ rfl) dX5_inOrder_1 ?_
  refine aw_il_n F 1 dX5_inOrder_4 rfl rfl ?_
  refine aw_bi F dX5_inOrder_5 bi_13 ?_
  refine aw_imul F dX5_inOrder_7 ?_
  refine aw_il_n F 2 dX5_inOrder_8 rfl rfl ?_
  refine aw_iadd F dX5_inOrder_9 ?_
  refine aw_iald F 5 1 (lo_s rfl) (hP _ rfl) rfl h.1 dX5_inOrder_10 ?_
  replace h := h.2
  exact aw_iret F T (Nat.le_of_ble_eq_true rfl) (Nat.le_of_ble_eq_true rfl) ⟨_, rfl, h⟩ dX5_inOrder_11
-- X5_rank (height 3)
def j_X5_rank_119 (post : GH → Prop) (P13 : Int32 → Int32 → Int32 → Int32 → Int32 → Int32 → GH → Prop) (o1 : Nat) (v2 v3 v4 v5 v6 v7 v8 : Int32) (G : GH) : Prop :=
  (vp_in v8 156 ∧ (∀ G_10 : GH, G_10 = gs G 5 1 (upd (G 5 1) v8.toNatClampNeg v7) → P13 v2 v3 v4 v5 (v6 + (1 : Int32)) (v7 + (1 : Int32)) G_10))
def lb_X5_rank_66 (post : GH → Prop) (P13 : Int32 → Int32 → Int32 → Int32 → Int32 → Int32 → GH → Prop) (o1 : Nat) (P66 : Int32 → Int32 → Int32 → Int32 → Int32 → Int32 → Int32 → GH → Prop) (v2 v3 v4 v5 v6 v7 v8 : Int32) (G : GH) : Prop :=
  ((v8 ≤ v5 → j_X5_rank_119 post P13 o1 v2 v3 v4 v5 v6 v7 v8 G) ∧ (¬ v8 ≤ v5 → (vp_in (v8 - (1 : Int32)) 156 ∧ (vp_in (G 5 1 (v8 - (1 : Int32)).toNatClampNeg) 13 ∧ (vp_in v7 13 ∧ (((G 5 7 (G 5 1 (v8 - (1 : Int32)).toNatClampNeg).toNatClampNeg) ≤ (G 5 7 v7.toNatClampNeg) → j_X5_rank_119 post P13 o1 v2 v3 v4 v5 v6 v7 v8 G) ∧ (¬ (G 5 7 (G 5 1 (v8 - (1 : Int32)).toNatClampNeg).toNatClampNeg) ≤ (G 5 7 v7.toNatClampNeg) → (vp_in (v8 - (1 : Int32)) 156 ∧ (vp_in v8 156 ∧ (∀ G_12 : GH, G_12 = gs G 5 1 (upd (G 5 1) v8.toNatClampNeg (G 5 1 (v8 - (1 : Int32)).toNatClampNeg)) → P66 v2 v3 v4 v5 v6 v7 (v8 + (-1 : Int32)) G_12))))))))))
def lp_X5_rank_66 (post : GH → Prop) (P13 : Int32 → Int32 → Int32 → Int32 → Int32 → Int32 → GH → Prop) (o1 : Nat) (v2 v3 v4 v5 v6 v7 v8 : Int32) (G : GH) : Prop := ∀ P66 : Int32 → Int32 → Int32 → Int32 → Int32 → Int32 → Int32 → GH → Prop, (∀ (v2 v3 v4 v5 v6 v7 v8 : Int32) (G : GH), lb_X5_rank_66 post P13 o1 P66 v2 v3 v4 v5 v6 v7 v8 G → P66 v2 v3 v4 v5 v6 v7 v8 G) → P66 v2 v3 v4 v5 v6 v7 v8 G
def j_X5_rank_50 (post : GH → Prop) (P13 : Int32 → Int32 → Int32 → Int32 → Int32 → Int32 → GH → Prop) (o1 : Nat) (v2 v3 v4 v5 v6 v7 s1 s2 : Int32) (G : GH) : Prop :=
  (vp_in s1 13 ∧ (∀ G_7 : GH, G_7 = gs G 5 7 (upd (G 5 7) s1.toNatClampNeg s2) → (vp_in v7 13 ∧ (((G_7 5 7 v7.toNatClampNeg) = (-1 : Int32) → P13 v2 v3 v4 v5 v6 (v7 + (1 : Int32)) G_7) ∧ (¬ (G_7 5 7 v7.toNatClampNeg) = (-1 : Int32) → lp_X5_rank_66 post P13 o1 v2 v3 v4 v5 v6 v7 v6 G_7)))))
def lb_X5_rank_13 (post : GH → Prop) (o1 : Nat) (P13 : Int32 → Int32 → Int32 → Int32 → Int32 → Int32 → GH → Prop) (v2 v3 v4 v5 v6 v7 : Int32) (G : GH) : Prop :=
  (((G o1 0 1) ≤ v7 → (vp_in v2 12 ∧ (∀ G_3 : GH, G_3 = gs G 5 2 (upd (G 5 2) v2.toNatClampNeg (v6 - v5)) → post G_3))) ∧ (¬ (G o1 0 1) ≤ v7 → wp_X7_isIn (fun (b_5 : Bool) (G_4 : GH) => ((b_5 = false → j_X5_rank_50 post P13 o1 v2 v3 v4 v5 v6 v7 v7 (-1 : Int32) G_4) ∧ (b_5 = true → wp_X4_priorityOf (fun (r_14 : Int32) (G_13 : GH) => j_X5_rank_50 post P13 o1 v2 v3 v4 v5 v6 v7 v7 r_14 G_13) o1 v7 v2 v3 G_4))) v7 v4 G))
def lp_X5_rank_13 (post : GH → Prop) (o1 : Nat) (v2 v3 v4 v5 v6 v7 : Int32) (G : GH) : Prop := ∀ P13 : Int32 → Int32 → Int32 → Int32 → Int32 → Int32 → GH → Prop, (∀ (v2 v3 v4 v5 v6 v7 : Int32) (G : GH), lb_X5_rank_13 post o1 P13 v2 v3 v4 v5 v6 v7 G → P13 v2 v3 v4 v5 v6 v7 G) → P13 v2 v3 v4 v5 v6 v7 G
def wp_X5_rank (post : GH → Prop) (o1 : Nat) (x2 x3 x4 : Int32) (G : GH) : Prop :=
  (∀ y_1 : Int32, y_1 = (x2 * (13 : Int32)) → lp_X5_rank_13 post o1 x2 x3 x4 y_1 y_1 (0 : Int32) G)
set_option maxRecDepth 100000 in
set_option maxHeartbeats 4000000 in
theorem kj_X5_rank_119 {E : Ev} {X : Cx} {post : GH → Prop} {P13 : Int32 → Int32 → Int32 → Int32 → Int32 → Int32 → GH → Prop} {o1 : Nat} {v2 v3 v4 v5 v6 v7 v8 : Int32} {G : GH} (F : Fx E X "MarkField$Standing" cX5_rank 9) (T : RT E X 3 0 0 none (pV post)) (ho1 : stt o1 = true) (hc1 : oc o1 = 4) (K13 : ∀ (v2 v3 v4 v5 v6 v7 : Int32) (G : GH), P13 v2 v3 v4 v5 v6 v7 G → AW E X 9 13 [(0, .ref (sdX X 5 0)), (1, .ref (sdX X o1 0)), (2, .int v2), (3, .int v3), (4, .int v4), (5, .int v5), (6, .int v6), (7, .int v7)] [] G 0 0) (h : j_X5_rank_119 post P13 o1 v2 v3 v4 v5 v6 v7 v8 G) : AW E X 9 119 [(0, .ref (sdX X 5 0)), (1, .ref (sdX X o1 0)), (2, .int v2), (3, .int v3), (4, .int v4), (5, .int v5), (6, .int v6), (7, .int v7), (8, .int v8)] [] G 0 0 := by
  have hP := F.P
  refine aw_al_n F 0 dX5_rank_119 rfl rfl ?_
  refine gr5_0 F (lo_s rfl) (hP _ rfl) rfl w_209 (hP _ rfl) dX5_rank_120 ?_
  refine aw_il F 8 dX5_rank_123 rfl ?_
  refine aw_il F 7 dX5_rank_125 rfl ?_
  refine aw_iast F 5 1 (lo_s rfl) (hP _ rfl) rfl h.1 dX5_rank_127 ?_
  refine aw_nG (fun G_10 eG_10 => ?_)
  replace h := h.2 G_10 eG_10
  refine aw_inc (lv1 := [(6, .int (v6 + (1 : Int32))), (0, .ref (sdX X 5 0)), (1, .ref (sdX X o1 0)), (2, .int v2), (3, .int v3), (4, .int v4), (5, .int v5), (7, .int v7), (8, .int v8)]) F 6 dX5_rank_128 rfl (in_1 _) (by decide) rfl ?_
  refine aw_inc (lv1 := [(7, .int (v7 + (1 : Int32))), (6, .int (v6 + (1 : Int32))), (0, .ref (sdX X 5 0)), (1, .ref (sdX X o1 0)), (2, .int v2), (3, .int v3), (4, .int v4), (5, .int v5), (8, .int v8)]) F 7 dX5_rank_131 rfl (in_1 _) (by decide) rfl ?_
  refine aw_go (tgt := 13) F dX5_rank_134 (by decide) ?_
  refine aw_sub [2, 3, 4, 5, 6, 7, 1, 0] rfl ?_
  exact K13 _ _ _ _ _ _ _ h
set_option maxRecDepth 100000 in
set_option maxHeartbeats 4000000 in
theorem kl_X5_rank_66 {E : Ev} {X : Cx} {post : GH → Prop} {P13 : Int32 → Int32 → Int32 → Int32 → Int32 → Int32 → GH → Prop} {o1 : Nat} {v2 v3 v4 v5 v6 v7 v8 : Int32} {G : GH} (F : Fx E X "MarkField$Standing" cX5_rank 9) (T : RT E X 3 0 0 none (pV post)) (ho1 : stt o1 = true) (hc1 : oc o1 = 4) (K13 : ∀ (v2 v3 v4 v5 v6 v7 : Int32) (G : GH), P13 v2 v3 v4 v5 v6 v7 G → AW E X 9 13 [(0, .ref (sdX X 5 0)), (1, .ref (sdX X o1 0)), (2, .int v2), (3, .int v3), (4, .int v4), (5, .int v5), (6, .int v6), (7, .int v7)] [] G 0 0) (h : lp_X5_rank_66 post P13 o1 v2 v3 v4 v5 v6 v7 v8 G) : AW E X 9 66 [(0, .ref (sdX X 5 0)), (1, .ref (sdX X o1 0)), (2, .int v2), (3, .int v3), (4, .int v4), (5, .int v5), (6, .int v6), (7, .int v7), (8, .int v8)] [] G 0 0 := by
  have hP := F.P
  have K66 : ∀ (v2 v3 v4 v5 v6 v7 v8 : Int32) (G : GH), AW E X 9 66 [(0, .ref (sdX X 5 0)), (1, .ref (sdX X o1 0)), (2, .int v2), (3, .int v3), (4, .int v4), (5, .int v5), (6, .int v6), (7, .int v7), (8, .int v8)] [] G 0 0 → AW E X 9 66 [(0, .ref (sdX X 5 0)), (1, .ref (sdX X o1 0)), (2, .int v2), (3, .int v3), (4, .int v4), (5, .int v5), (6, .int v6), (7, .int v7), (8, .int v8)] [] G 0 0 := fun _ _ _ _ _ _ _ _ q => q
  refine h (fun (v2 v3 v4 v5 v6 v7 v8 : Int32) (G : GH) => AW E X 9 66 [(0, .ref (sdX X 5 0)), (1, .ref (sdX X o1 0)), (2, .int v2), (3, .int v3), (4, .int v4), (5, .int v5), (6, .int v6), (7, .int v7), (8, .int v8)] [] G 0 0) (fun (v2 v3 v4 v5 v6 v7 v8 : Int32) (G : GH) h => ?_)
  refine aw_il F 8 dX5_rank_66 rfl ?_
  refine aw_il F 5 dX5_rank_68 rfl ?_
  refine aw_icmp_le (tgt := 119) F dX5_rank_70 (by decide) (fun c_9 => ?_) (fun c_9 => ?_)
  · replace h := h.1 c_9
    exact kj_X5_rank_119 F T ho1 hc1 K13 h
  · replace h := h.2 c_9
    refine aw_al_n F 0 dX5_rank_73 rfl rfl ?_
    refine gr5_6 F (lo_s rfl) (hP _ rfl) rfl w_221 (hP _ rfl) dX5_rank_74 ?_
    refine aw_al_n F 0 dX5_rank_77 rfl rfl ?_
    refine gr5_0 F (lo_s rfl) (hP _ rfl) rfl w_209 (hP _ rfl) dX5_rank_78 ?_
    refine aw_il F 8 dX5_rank_81 rfl ?_
    refine aw_ic F dX5_rank_83 ic_1 ?_
    refine aw_isub F dX5_rank_84 ?_
    refine aw_iald F 5 1 (lo_s rfl) (hP _ rfl) rfl h.1 dX5_rank_85 ?_
    replace h := h.2
    refine aw_iald F 5 7 (lo_s rfl) (hP _ rfl) rfl h.1 dX5_rank_86 ?_
    replace h := h.2
    refine aw_al_n F 0 dX5_rank_87 rfl rfl ?_
    refine gr5_6 F (lo_s rfl) (hP _ rfl) rfl w_221 (hP _ rfl) dX5_rank_88 ?_
    refine aw_il F 7 dX5_rank_91 rfl ?_
    refine aw_iald F 5 7 (lo_s rfl) (hP _ rfl) rfl h.1 dX5_rank_93 ?_
    replace h := h.2
    refine aw_icmp_le (tgt := 119) F dX5_rank_94 (by decide) (fun c_11 => ?_) (fun c_11 => ?_)
    · replace h := h.1 c_11
      exact kj_X5_rank_119 F T ho1 hc1 K13 h
    · replace h := h.2 c_11
      refine aw_al_n F 0 dX5_rank_97 rfl rfl ?_
      refine gr5_0 F (lo_s rfl) (hP _ rfl) rfl w_209 (hP _ rfl) dX5_rank_98 ?_
      refine aw_il F 8 dX5_rank_101 rfl ?_
      refine aw_al_n F 0 dX5_rank_103 rfl rfl ?_
      refine gr5_0 F (lo_s rfl) (hP _ rfl) rfl w_209 (hP _ rfl) dX5_rank_104 ?_
      refine aw_il F 8 dX5_rank_107 rfl ?_
      refine aw_ic F dX5_rank_109 ic_1 ?_
      refine aw_isub F dX5_rank_110 ?_
      refine aw_iald F 5 1 (lo_s rfl) (hP _ rfl) rfl h.1 dX5_rank_111 ?_
      replace h := h.2
      refine aw_iast F 5 1 (lo_s rfl) (hP _ rfl) rfl h.1 dX5_rank_112 ?_
      refine aw_nG (fun G_12 eG_12 => ?_)
      replace h := h.2 G_12 eG_12
      refine aw_inc (lv1 := [(8, .int (v8 + (-1 : Int32))), (0, .ref (sdX X 5 0)), (1, .ref (sdX X o1 0)), (2, .int v2), (3, .int v3), (4, .int v4), (5, .int v5), (6, .int v6), (7, .int v7)]) F 8 dX5_rank_113 rfl (in_m1 _) (by decide) rfl ?_
      refine aw_go (tgt := 66) F dX5_rank_116 (by decide) ?_
      refine aw_sub [1, 2, 3, 4, 5, 6, 7, 8, 0] rfl ?_
      exact K66 _ _ _ _ _ _ _ _ h
set_option maxRecDepth 100000 in
set_option maxHeartbeats 4000000 in
theorem kj_X5_rank_50 {E : Ev} {X : Cx} {post : GH → Prop} {P13 : Int32 → Int32 → Int32 → Int32 → Int32 → Int32 → GH → Prop} {o1 : Nat} {v2 v3 v4 v5 v6 v7 s1 s2 : Int32} {G : GH} (F : Fx E X "MarkField$Standing" cX5_rank 9) (T : RT E X 3 0 0 none (pV post)) (ho1 : stt o1 = true) (hc1 : oc o1 = 4) (K13 : ∀ (v2 v3 v4 v5 v6 v7 : Int32) (G : GH), P13 v2 v3 v4 v5 v6 v7 G → AW E X 9 13 [(0, .ref (sdX X 5 0)), (1, .ref (sdX X o1 0)), (2, .int v2), (3, .int v3), (4, .int v4), (5, .int v5), (6, .int v6), (7, .int v7)] [] G 0 0) (h : j_X5_rank_50 post P13 o1 v2 v3 v4 v5 v6 v7 s1 s2 G) : AW E X 9 50 [(0, .ref (sdX X 5 0)), (1, .ref (sdX X o1 0)), (2, .int v2), (3, .int v3), (4, .int v4), (5, .int v5), (6, .int v6), (7, .int v7)] [.int s2, .int s1, .ref (sdX X 5 7)] G 0 0 := by
  have hP := F.P
  refine aw_iast F 5 7 (lo_s rfl) (hP _ rfl) rfl h.1 dX5_rank_50 ?_
  refine aw_nG (fun G_7 eG_7 => ?_)
  replace h := h.2 G_7 eG_7
  refine aw_al_n F 0 dX5_rank_51 rfl rfl ?_
  refine gr5_6 F (lo_s rfl) (hP _ rfl) rfl w_221 (hP _ rfl) dX5_rank_52 ?_
  refine aw_il F 7 dX5_rank_55 rfl ?_
  refine aw_iald F 5 7 (lo_s rfl) (hP _ rfl) rfl h.1 dX5_rank_57 ?_
  replace h := h.2
  refine aw_ic F dX5_rank_58 ic_m1 ?_
  refine aw_icmp_eq (tgt := 131) F dX5_rank_59 (by decide) (fun c_8 => ?_) (fun c_8 => ?_)
  · replace h := h.1 c_8
    refine aw_inc (lv1 := [(7, .int (v7 + (1 : Int32))), (0, .ref (sdX X 5 0)), (1, .ref (sdX X o1 0)), (2, .int v2), (3, .int v3), (4, .int v4), (5, .int v5), (6, .int v6)]) F 7 dX5_rank_131 rfl (in_1 _) (by decide) rfl ?_
    refine aw_go (tgt := 13) F dX5_rank_134 (by decide) ?_
    refine aw_sub [1, 2, 3, 4, 5, 6, 7, 0] rfl ?_
    exact K13 _ _ _ _ _ _ _ h
  · replace h := h.2 c_8
    refine aw_il F 6 dX5_rank_62 rfl ?_
    refine aw_is (lv1 := [(8, .int v6), (0, .ref (sdX X 5 0)), (1, .ref (sdX X o1 0)), (2, .int v2), (3, .int v3), (4, .int v4), (5, .int v5), (6, .int v6), (7, .int v7)]) F dX5_rank_64 (by decide) rfl ?_
    refine aw_sub [1, 2, 3, 4, 5, 6, 7, 8, 0] rfl ?_
    exact kl_X5_rank_66 F T ho1 hc1 K13 h
set_option maxRecDepth 100000 in
set_option maxHeartbeats 4000000 in
theorem kl_X5_rank_13 {E : Ev} {X : Cx} {post : GH → Prop} {o1 : Nat} {v2 v3 v4 v5 v6 v7 : Int32} {G : GH} (F : Fx E X "MarkField$Standing" cX5_rank 9) (T : RT E X 3 0 0 none (pV post)) (ho1 : stt o1 = true) (hc1 : oc o1 = 4) (h : lp_X5_rank_13 post o1 v2 v3 v4 v5 v6 v7 G) : AW E X 9 13 [(0, .ref (sdX X 5 0)), (1, .ref (sdX X o1 0)), (2, .int v2), (3, .int v3), (4, .int v4), (5, .int v5), (6, .int v6), (7, .int v7)] [] G 0 0 := by
  have hP := F.P
  have K13 : ∀ (v2 v3 v4 v5 v6 v7 : Int32) (G : GH), AW E X 9 13 [(0, .ref (sdX X 5 0)), (1, .ref (sdX X o1 0)), (2, .int v2), (3, .int v3), (4, .int v4), (5, .int v5), (6, .int v6), (7, .int v7)] [] G 0 0 → AW E X 9 13 [(0, .ref (sdX X 5 0)), (1, .ref (sdX X o1 0)), (2, .int v2), (3, .int v3), (4, .int v4), (5, .int v5), (6, .int v6), (7, .int v7)] [] G 0 0 := fun _ _ _ _ _ _ _ q => q
  refine h (fun (v2 v3 v4 v5 v6 v7 : Int32) (G : GH) => AW E X 9 13 [(0, .ref (sdX X 5 0)), (1, .ref (sdX X o1 0)), (2, .int v2), (3, .int v3), (4, .int v4), (5, .int v5), (6, .int v6), (7, .int v7)] [] G 0 0) (fun (v2 v3 v4 v5 v6 v7 : Int32) (G : GH) h => ?_)
  refine aw_il F 7 dX5_rank_13 rfl ?_
  refine aw_al_n F 1 dX5_rank_15 rfl rfl ?_
  refine gf4_1 F (lo_s ho1) (hP _ ho1) hc1 w_85 dX5_rank_16 ?_
  refine aw_icmp_ge (tgt := 137) F dX5_rank_19 (by decide) (fun c_2 => ?_) (fun c_2 => ?_)
  · replace h := h.1 c_2
    refine aw_al_n F 0 dX5_rank_137 rfl rfl ?_
    refine gr5_1 F (lo_s rfl) (hP _ rfl) rfl w_210 (hP _ rfl) dX5_rank_138 ?_
    refine aw_il_n F 2 dX5_rank_141 rfl rfl ?_
    refine aw_il F 6 dX5_rank_142 rfl ?_
    refine aw_il F 5 dX5_rank_144 rfl ?_
    refine aw_isub F dX5_rank_146 ?_
    refine aw_iast F 5 2 (lo_s rfl) (hP _ rfl) rfl h.1 dX5_rank_147 ?_
    refine aw_nG (fun G_3 eG_3 => ?_)
    replace h := h.2 G_3 eG_3
    exact aw_vret F T (Nat.le_of_ble_eq_true rfl) (Nat.le_of_ble_eq_true rfl) ⟨rfl, h⟩ dX5_rank_148
  · replace h := h.2 c_2
    refine aw_al_n F 0 dX5_rank_22 rfl rfl ?_
    refine gr5_6 F (lo_s rfl) (hP _ rfl) rfl w_221 (hP _ rfl) dX5_rank_23 ?_
    refine aw_il F 7 dX5_rank_26 rfl ?_
    refine aw_il F 7 dX5_rank_28 rfl ?_
    refine aw_il F 4 dX5_rank_30 rfl ?_
    refine aw_cSNb (stk := [.int v7, .ref (sdX X 5 7)]) F T.room [.int v7, .int v4] (k_X7_isIn hP h) ms_X7_isIn (by decide) rfl rfl (Nat.le_of_ble_eq_true rfl) ⟨(Nat.le_of_ble_eq_true rfl), (Nat.le_of_ble_eq_true rfl)⟩ ⟨(Nat.le_of_ble_eq_true rfl), (Nat.le_of_ble_eq_true rfl)⟩ dX5_rank_32 (fun b_5 G_4 h => ?_)
    refine aw_if_eq (tgt := 49) F dX5_rank_35 (by decide) (fun c_6 => ?_) (fun c_6 => ?_)
    · replace h := h.1 (bI_2 c_6)
      refine aw_ic F dX5_rank_49 ic_m1 ?_
      exact kj_X5_rank_50 F T ho1 hc1 K13 h
    · replace h := h.2 (bI_1 c_6)
      refine aw_al_n F 1 dX5_rank_38 rfl rfl ?_
      refine aw_il F 7 dX5_rank_39 rfl ?_
      refine aw_il_n F 2 dX5_rank_41 rfl rfl ?_
      refine aw_il_n F 3 dX5_rank_42 rfl rfl ?_
      refine aw_cVi (stk := [.int v7, .ref (sdX X 5 7)]) F T.room [.int v7, .int v2, .int v3] (k_X4_priorityOf hP ho1 hc1 h) mv_X4_priorityOf w_848 cf4 (lo_s ho1) (hP _ ho1) hc1 (by decide) rfl rfl (Nat.le_of_ble_eq_true rfl) ⟨(Nat.le_of_ble_eq_true rfl), (Nat.le_of_ble_eq_true rfl)⟩ ⟨(Nat.le_of_ble_eq_true rfl), (Nat.le_of_ble_eq_true rfl)⟩ dX5_rank_43 (fun r_14 G_13 h => ?_)
      refine aw_go (tgt := 50) F dX5_rank_46 (by decide) ?_
      exact kj_X5_rank_50 F T ho1 hc1 K13 h
set_option maxRecDepth 100000 in
set_option maxHeartbeats 4000000 in
theorem k_X5_rank {l : Launch} {E : Ev} {P : Nat → Prop} {sd : Nat → Nat → Nat} {G : GH} {post : GH → Prop} {o1 : Nat} {x2 x3 x4 : Int32} (hPP : ∀ o, stt o = true → P o) (ho1 : stt o1 = true) (hc1 : oc o1 = 4) (h : wp_X5_rank post o1 x2 x3 x4 G) : Ct l yX5_rank cX5_rank 9 none 3 0 0 E P sd G [.ref (sd 5 0), .ref (sd o1 0), .int x2, .int x3, .int x4] (pV post) := by
  refine ct_of (own := "MarkField$Standing") (by decide) rfl (Nat.le_of_ble_eq_true rfl) hPP (fun X F T el eP es => ?_)
  subst el; subst eP; subst es
  have hP := F.P
  change AW E X 9 0 [(0, .ref (sdX X 5 0)), (1, .ref (sdX X o1 0)), (2, .int x2), (3, .int x3), (4, .int x4)] [] G 0 0
  refine aw_il_n F 2 dX5_rank_0 rfl rfl ?_
  refine aw_bi F dX5_rank_1 bi_13 ?_
  refine aw_imul F dX5_rank_3 ?_
  refine aw_top (fun y_1 ey_1 => ?_)
  replace h := h y_1 ey_1
  refine aw_is (lv1 := [(5, .int y_1), (0, .ref (sdX X 5 0)), (1, .ref (sdX X o1 0)), (2, .int x2), (3, .int x3), (4, .int x4)]) F dX5_rank_4 (by decide) rfl ?_
  refine aw_il F 0 dX5_rank_6 rfl ?_
  refine aw_is (lv1 := [(6, .int y_1), (5, .int y_1), (0, .ref (sdX X 5 0)), (1, .ref (sdX X o1 0)), (2, .int x2), (3, .int x3), (4, .int x4)]) F dX5_rank_8 (by decide) rfl ?_
  refine aw_ic F dX5_rank_10 ic_0 ?_
  refine aw_is (lv1 := [(7, .int (0 : Int32)), (6, .int y_1), (5, .int y_1), (0, .ref (sdX X 5 0)), (1, .ref (sdX X o1 0)), (2, .int x2), (3, .int x3), (4, .int x4)]) F dX5_rank_11 (by decide) rfl ?_
  refine aw_sub [3, 4, 5, 6, 7, 2, 1, 0] rfl ?_
  exact kl_X5_rank_13 F T ho1 hc1 h
-- X5_rankAll (height 4)
def lb_X5_rankAll_2 (post : GH → Prop) (o1 : Nat) (P2 : Int32 → Int32 → GH → Prop) (v2 v3 : Int32) (G : GH) : Prop :=
  wp_X4_halfCount (fun (r_2 : Int32) (G_1 : GH) => ((r_2 ≤ v3 → post G_1) ∧ (¬ r_2 ≤ v3 → wp_X4_allMarks (fun (r_5 : Int32) (G_4 : GH) => wp_X5_rank (fun (G_6 : GH) => P2 v2 (v3 + (1 : Int32)) G_6) o1 v3 v2 r_5 G_4) o1 G_1))) o1 G
def lp_X5_rankAll_2 (post : GH → Prop) (o1 : Nat) (v2 v3 : Int32) (G : GH) : Prop := ∀ P2 : Int32 → Int32 → GH → Prop, (∀ (v2 v3 : Int32) (G : GH), lb_X5_rankAll_2 post o1 P2 v2 v3 G → P2 v2 v3 G) → P2 v2 v3 G
def wp_X5_rankAll (post : GH → Prop) (o1 : Nat) (x2 : Int32) (G : GH) : Prop :=
  lp_X5_rankAll_2 post o1 x2 (0 : Int32) G
set_option maxRecDepth 100000 in
set_option maxHeartbeats 4000000 in
theorem kl_X5_rankAll_2 {E : Ev} {X : Cx} {post : GH → Prop} {o1 : Nat} {v2 v3 : Int32} {G : GH} (F : Fx E X "MarkField$Standing" cX5_rankAll 4) (T : RT E X 4 0 0 none (pV post)) (ho1 : stt o1 = true) (hc1 : oc o1 = 4) (h : lp_X5_rankAll_2 post o1 v2 v3 G) : AW E X 4 2 [(0, .ref (sdX X 5 0)), (1, .ref (sdX X o1 0)), (2, .int v2), (3, .int v3)] [] G 0 0 := by
  have hP := F.P
  have K2 : ∀ (v2 v3 : Int32) (G : GH), AW E X 4 2 [(0, .ref (sdX X 5 0)), (1, .ref (sdX X o1 0)), (2, .int v2), (3, .int v3)] [] G 0 0 → AW E X 4 2 [(0, .ref (sdX X 5 0)), (1, .ref (sdX X o1 0)), (2, .int v2), (3, .int v3)] [] G 0 0 := fun _ _ _ q => q
  refine h (fun (v2 v3 : Int32) (G : GH) => AW E X 4 2 [(0, .ref (sdX X 5 0)), (1, .ref (sdX X o1 0)), (2, .int v2), (3, .int v3)] [] G 0 0) (fun (v2 v3 : Int32) (G : GH) h => ?_)
  refine aw_il_n F 3 dX5_rankAll_2 rfl rfl ?_
  refine aw_al_n F 1 dX5_rankAll_3 rfl rfl ?_
  refine aw_cVi (stk := [.int v3]) F T.room [] (k_X4_halfCount hP ho1 hc1 h) mv_X4_halfCount w_873 cf4 (lo_s ho1) (hP _ ho1) hc1 (by decide) rfl rfl (Nat.le_of_ble_eq_true rfl) ⟨(Nat.le_of_ble_eq_true rfl), (Nat.le_of_ble_eq_true rfl)⟩ ⟨(Nat.le_of_ble_eq_true rfl), (Nat.le_of_ble_eq_true rfl)⟩ dX5_rankAll_4 (fun r_2 G_1 h => ?_)
  refine aw_icmp_ge (tgt := 27) F dX5_rankAll_7 (by decide) (fun c_3 => ?_) (fun c_3 => ?_)
  · replace h := h.1 c_3
    exact aw_vret F T (Nat.le_of_ble_eq_true rfl) (Nat.le_of_ble_eq_true rfl) ⟨rfl, h⟩ dX5_rankAll_27
  · replace h := h.2 c_3
    refine aw_al_n F 0 dX5_rankAll_10 rfl rfl ?_
    refine aw_al_n F 1 dX5_rankAll_11 rfl rfl ?_
    refine aw_il_n F 3 dX5_rankAll_12 rfl rfl ?_
    refine aw_il_n F 2 dX5_rankAll_13 rfl rfl ?_
    refine aw_al_n F 1 dX5_rankAll_14 rfl rfl ?_
    refine aw_cVi (stk := [.int v2, .int v3, .ref (sdX X o1 0), .ref (sdX X 5 0)]) F T.room [] (k_X4_allMarks hP ho1 hc1 h) mv_X4_allMarks w_976 cf4 (lo_s ho1) (hP _ ho1) hc1 (by decide) rfl rfl (Nat.le_of_ble_eq_true rfl) ⟨(Nat.le_of_ble_eq_true rfl), (Nat.le_of_ble_eq_true rfl)⟩ ⟨(Nat.le_of_ble_eq_true rfl), (Nat.le_of_ble_eq_true rfl)⟩ dX5_rankAll_15 (fun r_5 G_4 h => ?_)
    refine aw_cVv (stk := []) F T.room [.ref (sdX X o1 0), .int v3, .int v2, .int r_5] (k_X5_rank hP ho1 hc1 h) mv_X5_rank w_874 cf5 (lo_s rfl) (hP _ rfl) rfl (by decide) rfl rfl (Nat.le_of_ble_eq_true rfl) ⟨(Nat.le_of_ble_eq_true rfl), (Nat.le_of_ble_eq_true rfl)⟩ ⟨(Nat.le_of_ble_eq_true rfl), (Nat.le_of_ble_eq_true rfl)⟩ dX5_rankAll_18 (fun G_6 h => ?_)
    refine aw_inc (lv1 := [(3, .int (v3 + (1 : Int32))), (0, .ref (sdX X 5 0)), (1, .ref (sdX X o1 0)), (2, .int v2)]) F 3 dX5_rankAll_21 rfl (in_1 _) (by decide) rfl ?_
    refine aw_go (tgt := 2) F dX5_rankAll_24 (by decide) ?_
    refine aw_sub [1, 2, 3, 0] rfl ?_
    exact K2 _ _ _ h
set_option maxRecDepth 100000 in
set_option maxHeartbeats 4000000 in
theorem k_X5_rankAll {l : Launch} {E : Ev} {P : Nat → Prop} {sd : Nat → Nat → Nat} {G : GH} {post : GH → Prop} {o1 : Nat} {x2 : Int32} (hPP : ∀ o, stt o = true → P o) (ho1 : stt o1 = true) (hc1 : oc o1 = 4) (h : wp_X5_rankAll post o1 x2 G) : Ct l yX5_rankAll cX5_rankAll 4 none 4 0 0 E P sd G [.ref (sd 5 0), .ref (sd o1 0), .int x2] (pV post) := by
  refine ct_of (own := "MarkField$Standing") (by decide) rfl (Nat.le_of_ble_eq_true rfl) hPP (fun X F T el eP es => ?_)
  subst el; subst eP; subst es
  have hP := F.P
  change AW E X 4 0 [(0, .ref (sdX X 5 0)), (1, .ref (sdX X o1 0)), (2, .int x2)] [] G 0 0
  refine aw_ic F dX5_rankAll_0 ic_0 ?_
  refine aw_is_n (lv1 := [(3, .int (0 : Int32)), (0, .ref (sdX X 5 0)), (1, .ref (sdX X o1 0)), (2, .int x2)]) F dX5_rankAll_1 rfl (by decide) rfl ?_
  refine aw_sub [1, 2, 3, 0] rfl ?_
  exact kl_X5_rankAll_2 F T ho1 hc1 h
-- X5_mostSenior (height 1)
def lb_X5_mostSenior_2 (post : Int32 → GH → Prop) (P2 : Int32 → Int32 → Int32 → GH → Prop) (v1 v2 v3 : Int32) (G : GH) : Prop :=
  (vp_in v1 12 ∧ (((G 5 2 v1.toNatClampNeg) ≤ v3 → post (-1 : Int32) G) ∧ (¬ (G 5 2 v1.toNatClampNeg) ≤ v3 → wp_X5_inOrder (fun (r_3 : Int32) (G_2 : GH) => wp_X7_isIn (fun (b_5 : Bool) (G_4 : GH) => ((b_5 = false → P2 v1 v2 (v3 + (1 : Int32)) G_4) ∧ (b_5 = true → wp_X5_inOrder (fun (r_8 : Int32) (G_7 : GH) => post r_8 G_7) v1 v3 G_4))) r_3 v2 G_2) v1 v3 G)))
def lp_X5_mostSenior_2 (post : Int32 → GH → Prop) (v1 v2 v3 : Int32) (G : GH) : Prop := ∀ P2 : Int32 → Int32 → Int32 → GH → Prop, (∀ (v1 v2 v3 : Int32) (G : GH), lb_X5_mostSenior_2 post P2 v1 v2 v3 G → P2 v1 v2 v3 G) → P2 v1 v2 v3 G
def wp_X5_mostSenior (post : Int32 → GH → Prop) (x1 x2 : Int32) (G : GH) : Prop :=
  lp_X5_mostSenior_2 post x1 x2 (0 : Int32) G
set_option maxRecDepth 100000 in
set_option maxHeartbeats 4000000 in
theorem kl_X5_mostSenior_2 {E : Ev} {X : Cx} {post : Int32 → GH → Prop} {v1 v2 v3 : Int32} {G : GH} (F : Fx E X "MarkField$Standing" cX5_mostSenior 4) (T : RT E X 1 0 0 (some .int) (pI post)) (h : lp_X5_mostSenior_2 post v1 v2 v3 G) : AW E X 4 2 [(0, .ref (sdX X 5 0)), (1, .int v1), (2, .int v2), (3, .int v3)] [] G 0 0 := by
  have hP := F.P
  have K2 : ∀ (v1 v2 v3 : Int32) (G : GH), AW E X 4 2 [(0, .ref (sdX X 5 0)), (1, .int v1), (2, .int v2), (3, .int v3)] [] G 0 0 → AW E X 4 2 [(0, .ref (sdX X 5 0)), (1, .int v1), (2, .int v2), (3, .int v3)] [] G 0 0 := fun _ _ _ _ q => q
  refine h (fun (v1 v2 v3 : Int32) (G : GH) => AW E X 4 2 [(0, .ref (sdX X 5 0)), (1, .int v1), (2, .int v2), (3, .int v3)] [] G 0 0) (fun (v1 v2 v3 : Int32) (G : GH) h => ?_)
  refine aw_il_n F 3 dX5_mostSenior_2 rfl rfl ?_
  refine aw_al_n F 0 dX5_mostSenior_3 rfl rfl ?_
  refine gr5_1 F (lo_s rfl) (hP _ rfl) rfl w_210 (hP _ rfl) dX5_mostSenior_4 ?_
  refine aw_il_n F 1 dX5_mostSenior_7 rfl rfl ?_
  refine aw_iald F 5 2 (lo_s rfl) (hP _ rfl) rfl h.1 dX5_mostSenior_8 ?_
  replace h := h.2
  refine aw_icmp_ge (tgt := 38) F dX5_mostSenior_9 (by decide) (fun c_1 => ?_) (fun c_1 => ?_)
  · replace h := h.1 c_1
    refine aw_ic F dX5_mostSenior_38 ic_m1 ?_
    exact aw_iret F T (Nat.le_of_ble_eq_true rfl) (Nat.le_of_ble_eq_true rfl) ⟨_, rfl, h⟩ dX5_mostSenior_39
  · replace h := h.2 c_1
    refine aw_al_n F 0 dX5_mostSenior_12 rfl rfl ?_
    refine aw_il_n F 1 dX5_mostSenior_13 rfl rfl ?_
    refine aw_il_n F 3 dX5_mostSenior_14 rfl rfl ?_
    refine aw_cVi (stk := []) F T.room [.int v1, .int v3] (k_X5_inOrder hP h) mv_X5_inOrder w_854 cf5 (lo_s rfl) (hP _ rfl) rfl (by decide) rfl rfl (Nat.le_of_ble_eq_true rfl) ⟨(Nat.le_of_ble_eq_true rfl), (Nat.le_of_ble_eq_true rfl)⟩ ⟨(Nat.le_of_ble_eq_true rfl), (Nat.le_of_ble_eq_true rfl)⟩ dX5_mostSenior_15 (fun r_3 G_2 h => ?_)
    refine aw_il_n F 2 dX5_mostSenior_18 rfl rfl ?_
    refine aw_cSNb (stk := []) F T.room [.int r_3, .int v2] (k_X7_isIn hP h) ms_X7_isIn (by decide) rfl rfl (Nat.le_of_ble_eq_true rfl) ⟨(Nat.le_of_ble_eq_true rfl), (Nat.le_of_ble_eq_true rfl)⟩ ⟨(Nat.le_of_ble_eq_true rfl), (Nat.le_of_ble_eq_true rfl)⟩ dX5_mostSenior_19 (fun b_5 G_4 h => ?_)
    refine aw_if_eq (tgt := 32) F dX5_mostSenior_22 (by decide) (fun c_6 => ?_) (fun c_6 => ?_)
    · replace h := h.1 (bI_2 c_6)
      refine aw_inc (lv1 := [(3, .int (v3 + (1 : Int32))), (0, .ref (sdX X 5 0)), (1, .int v1), (2, .int v2)]) F 3 dX5_mostSenior_32 rfl (in_1 _) (by decide) rfl ?_
      refine aw_go (tgt := 2) F dX5_mostSenior_35 (by decide) ?_
      refine aw_sub [1, 2, 3, 0] rfl ?_
      exact K2 _ _ _ _ h
    · replace h := h.2 (bI_1 c_6)
      refine aw_al_n F 0 dX5_mostSenior_25 rfl rfl ?_
      refine aw_il_n F 1 dX5_mostSenior_26 rfl rfl ?_
      refine aw_il_n F 3 dX5_mostSenior_27 rfl rfl ?_
      refine aw_cVi (stk := []) F T.room [.int v1, .int v3] (k_X5_inOrder hP h) mv_X5_inOrder w_854 cf5 (lo_s rfl) (hP _ rfl) rfl (by decide) rfl rfl (Nat.le_of_ble_eq_true rfl) ⟨(Nat.le_of_ble_eq_true rfl), (Nat.le_of_ble_eq_true rfl)⟩ ⟨(Nat.le_of_ble_eq_true rfl), (Nat.le_of_ble_eq_true rfl)⟩ dX5_mostSenior_28 (fun r_8 G_7 h => ?_)
      exact aw_iret F T (Nat.le_of_ble_eq_true rfl) (Nat.le_of_ble_eq_true rfl) ⟨_, rfl, h⟩ dX5_mostSenior_31
set_option maxRecDepth 100000 in
set_option maxHeartbeats 4000000 in
theorem k_X5_mostSenior {l : Launch} {E : Ev} {P : Nat → Prop} {sd : Nat → Nat → Nat} {G : GH} {post : Int32 → GH → Prop} {x1 x2 : Int32} (hPP : ∀ o, stt o = true → P o) (h : wp_X5_mostSenior post x1 x2 G) : Ct l yX5_mostSenior cX5_mostSenior 4 (some .int) 1 0 0 E P sd G [.ref (sd 5 0), .int x1, .int x2] (pI post) := by
  refine ct_of (own := "MarkField$Standing") (by decide) rfl (Nat.le_of_ble_eq_true rfl) hPP (fun X F T el eP es => ?_)
  subst el; subst eP; subst es
  have hP := F.P
  change AW E X 4 0 [(0, .ref (sdX X 5 0)), (1, .int x1), (2, .int x2)] [] G 0 0
  refine aw_ic F dX5_mostSenior_0 ic_0 ?_
  refine aw_is_n (lv1 := [(3, .int (0 : Int32)), (0, .ref (sdX X 5 0)), (1, .int x1), (2, .int x2)]) F dX5_mostSenior_1 rfl (by decide) rfl ?_
  refine aw_sub [1, 2, 3, 0] rfl ?_
  exact kl_X5_mostSenior_2 F T h
-- X5_settle (height 2)
def lb_X5_settle_16 (post : GH → Prop) (o1 : Nat) (o2 : Nat) (P16 : Int32 → Int32 → GH → Prop) (v3 v4 : Int32) (G : GH) : Prop :=
  (vp_in v3 12 ∧ (((G 5 2 v3.toNatClampNeg) ≤ v4 → post G) ∧ (¬ (G 5 2 v3.toNatClampNeg) ≤ v4 → wp_X5_inOrder (fun (r_6 : Int32) (G_5 : GH) => (vp_in r_6 13 ∧ (vp_in r_6 13 ∧ (∀ y_7 : Int32, y_7 = (((G_5 o2 7 r_6.toNatClampNeg) &&& ((G_5 o1 9 r_6.toNatClampNeg) ^^^ (-1 : Int32))) &&& (G_5 5 0 7)) → ((y_7 = 0 → (∀ G_12 : GH, G_12 = gs G_5 5 0 (upd (G_5 5 0) 7 ((G_5 5 0 7) ||| ((1 : Int32) <<< (r_6 &&& 31)))) → P16 v3 (v4 + (1 : Int32)) G_12)) ∧ (¬ y_7 = 0 → wp_X5_mostSenior (fun (r_10 : Int32) (G_9 : GH) => (vp_in r_6 13 ∧ (∀ G_11 : GH, G_11 = gs G_9 5 3 (upd (G_9 5 3) r_6.toNatClampNeg r_10) → P16 v3 (v4 + (1 : Int32)) G_11))) v3 y_7 G_5)))))) v3 v4 G)))
def lp_X5_settle_16 (post : GH → Prop) (o1 : Nat) (o2 : Nat) (v3 v4 : Int32) (G : GH) : Prop := ∀ P16 : Int32 → Int32 → GH → Prop, (∀ (v3 v4 : Int32) (G : GH), lb_X5_settle_16 post o1 o2 P16 v3 v4 G → P16 v3 v4 G) → P16 v3 v4 G
def wp_X5_settle (post : GH → Prop) (o1 : Nat) (o2 : Nat) (x3 : Int32) (G : GH) : Prop :=
  (∀ G_1 : GH, G_1 = gs G 5 0 (upd (G 5 0) 7 (0 : Int32)) → wp_J7_fill_53178 (fun (G_2 : GH) => lp_X5_settle_16 post o1 o2 x3 (0 : Int32) G_2) 5 3 13 (-1 : Int32) G_1)
set_option maxRecDepth 100000 in
set_option maxHeartbeats 4000000 in
theorem kl_X5_settle_16 {E : Ev} {X : Cx} {post : GH → Prop} {o1 : Nat} {o2 : Nat} {v3 v4 : Int32} {G : GH} (F : Fx E X "MarkField$Standing" cX5_settle 7) (T : RT E X 2 0 0 none (pV post)) (ho1 : stt o1 = true) (hc1 : oc o1 = 4) (ho2 : stt o2 = true) (hc2 : oc o2 = 1) (h : lp_X5_settle_16 post o1 o2 v3 v4 G) : AW E X 7 16 [(0, .ref (sdX X 5 0)), (1, .ref (sdX X o1 0)), (2, .ref (sdX X o2 0)), (3, .int v3), (4, .int v4)] [] G 0 0 := by
  have hP := F.P
  have K16 : ∀ (v3 v4 : Int32) (G : GH), AW E X 7 16 [(0, .ref (sdX X 5 0)), (1, .ref (sdX X o1 0)), (2, .ref (sdX X o2 0)), (3, .int v3), (4, .int v4)] [] G 0 0 → AW E X 7 16 [(0, .ref (sdX X 5 0)), (1, .ref (sdX X o1 0)), (2, .ref (sdX X o2 0)), (3, .int v3), (4, .int v4)] [] G 0 0 := fun _ _ _ q => q
  refine h (fun (v3 v4 : Int32) (G : GH) => AW E X 7 16 [(0, .ref (sdX X 5 0)), (1, .ref (sdX X o1 0)), (2, .ref (sdX X o2 0)), (3, .int v3), (4, .int v4)] [] G 0 0) (fun (v3 v4 : Int32) (G : GH) h => ?_)
  refine aw_il F 4 dX5_settle_16 rfl ?_
  refine aw_al_n F 0 dX5_settle_18 rfl rfl ?_
  refine gr5_1 F (lo_s rfl) (hP _ rfl) rfl w_210 (hP _ rfl) dX5_settle_19 ?_
  refine aw_il_n F 3 dX5_settle_22 rfl rfl ?_
  refine aw_iald F 5 2 (lo_s rfl) (hP _ rfl) rfl h.1 dX5_settle_23 ?_
  replace h := h.2
  refine aw_icmp_ge (tgt := 101) F dX5_settle_24 (by decide) (fun c_4 => ?_) (fun c_4 => ?_)
  · replace h := h.1 c_4
    exact aw_vret F T (Nat.le_of_ble_eq_true rfl) (Nat.le_of_ble_eq_true rfl) ⟨rfl, h⟩ dX5_settle_101
  · replace h := h.2 c_4
    refine aw_al_n F 0 dX5_settle_27 rfl rfl ?_
    refine aw_il_n F 3 dX5_settle_28 rfl rfl ?_
    refine aw_il F 4 dX5_settle_29 rfl ?_
    refine aw_cVi (stk := []) F T.room [.int v3, .int v4] (k_X5_inOrder hP h) mv_X5_inOrder w_854 cf5 (lo_s rfl) (hP _ rfl) rfl (by decide) rfl rfl (Nat.le_of_ble_eq_true rfl) ⟨(Nat.le_of_ble_eq_true rfl), (Nat.le_of_ble_eq_true rfl)⟩ ⟨(Nat.le_of_ble_eq_true rfl), (Nat.le_of_ble_eq_true rfl)⟩ dX5_settle_31 (fun r_6 G_5 h => ?_)
    refine aw_is (lv1 := [(5, .int r_6), (0, .ref (sdX X 5 0)), (1, .ref (sdX X o1 0)), (2, .ref (sdX X o2 0)), (3, .int v3), (4, .int v4)]) F dX5_settle_34 (by decide) rfl ?_
    refine aw_al_n F 3 dX5_settle_36 rfl rfl ?_
    refine gr1_6 F (lo_s ho2) (hP _ ho2) hc2 w_183 (hP _ ho2) dX5_settle_37 ?_
    refine aw_il F 0 dX5_settle_40 rfl ?_
    refine aw_iald F o2 7 (lo_s ho2) (hP _ ho2) (al_of hc2 rfl) h.1 dX5_settle_42 ?_
    replace h := h.2
    refine aw_al_n F 2 dX5_settle_43 rfl rfl ?_
    refine gr4_8 F (lo_s ho1) (hP _ ho1) hc1 w_111 (hP _ ho1) dX5_settle_44 ?_
    refine aw_il F 0 dX5_settle_47 rfl ?_
    refine aw_iald F o1 9 (lo_s ho1) (hP _ ho1) (al_of hc1 rfl) h.1 dX5_settle_49 ?_
    replace h := h.2
    refine aw_ic F dX5_settle_50 ic_m1 ?_
    refine aw_ixor F dX5_settle_51 ?_
    refine aw_iand F dX5_settle_52 ?_
    refine aw_al_n F 1 dX5_settle_53 rfl rfl ?_
    refine gf5_7 F (lo_s rfl) (hP _ rfl) rfl w_222 dX5_settle_54 ?_
    refine aw_iand F dX5_settle_57 ?_
    refine aw_top (fun y_7 ey_7 => ?_)
    replace h := h y_7 ey_7
    refine aw_is (lv1 := [(6, .int y_7), (5, .int r_6), (0, .ref (sdX X 5 0)), (1, .ref (sdX X o1 0)), (2, .ref (sdX X o2 0)), (3, .int v3), (4, .int v4)]) F dX5_settle_58 (by decide) rfl ?_
    refine aw_il F 0 dX5_settle_60 rfl ?_
    refine aw_if_ne (tgt := 81) F dX5_settle_62 (by decide) (fun c_8 => ?_) (fun c_8 => ?_)
    · replace h := h.2 c_8
      refine aw_al_n F 2 dX5_settle_81 rfl rfl ?_
      refine gr5_2 F (lo_s rfl) (hP _ rfl) rfl w_212 (hP _ rfl) dX5_settle_82 ?_
      refine aw_il F 1 dX5_settle_85 rfl ?_
      refine aw_al_n F 2 dX5_settle_87 rfl rfl ?_
      refine aw_il_n F 5 dX5_settle_88 rfl rfl ?_
      refine aw_il F 0 dX5_settle_89 rfl ?_
      refine aw_cVi (stk := [.int r_6, .ref (sdX X 5 3)]) F T.room [.int v3, .int y_7] (k_X5_mostSenior hP h) mv_X5_mostSenior w_858 cf5 (lo_s rfl) (hP _ rfl) rfl (by decide) rfl rfl (Nat.le_of_ble_eq_true rfl) ⟨(Nat.le_of_ble_eq_true rfl), (Nat.le_of_ble_eq_true rfl)⟩ ⟨(Nat.le_of_ble_eq_true rfl), (Nat.le_of_ble_eq_true rfl)⟩ dX5_settle_91 (fun r_10 G_9 h => ?_)
      refine aw_iast F 5 3 (lo_s rfl) (hP _ rfl) rfl h.1 dX5_settle_94 ?_
      refine aw_nG (fun G_11 eG_11 => ?_)
      replace h := h.2 G_11 eG_11
      refine aw_inc (lv1 := [(4, .int (v4 + (1 : Int32))), (6, .int y_7), (5, .int r_6), (0, .ref (sdX X 5 0)), (1, .ref (sdX X o1 0)), (2, .ref (sdX X o2 0)), (3, .int v3)]) F 6 dX5_settle_95 rfl (in_1 _) (by decide) rfl ?_
      refine aw_go (tgt := 16) F dX5_settle_98 (by decide) ?_
      refine aw_sub [3, 4, 5, 6, 0] rfl ?_
      exact K16 _ _ _ h
    · replace h := h.1 c_8
      refine aw_al_n F 2 dX5_settle_65 rfl rfl ?_
      refine aw_dup F dX5_settle_66 rfl ?_
      refine gf5_7 F (lo_s rfl) (hP _ rfl) rfl w_222 dX5_settle_67 ?_
      refine aw_ic F dX5_settle_70 ic_1 ?_
      refine aw_il F 1 dX5_settle_71 rfl ?_
      refine aw_ishl F dX5_settle_73 ?_
      refine aw_ior F dX5_settle_74 ?_
      refine pf5_7 F (lo_s rfl) (hP _ rfl) rfl w_222 dX5_settle_75 (fun G_12 eG_12 => ?_)
      replace h := h G_12 eG_12
      refine aw_go (tgt := 95) F dX5_settle_78 (by decide) ?_
      refine aw_inc (lv1 := [(4, .int (v4 + (1 : Int32))), (6, .int y_7), (5, .int r_6), (0, .ref (sdX X 5 0)), (1, .ref (sdX X o1 0)), (2, .ref (sdX X o2 0)), (3, .int v3)]) F 6 dX5_settle_95 rfl (in_1 _) (by decide) rfl ?_
      refine aw_go (tgt := 16) F dX5_settle_98 (by decide) ?_
      refine aw_sub [3, 4, 5, 6, 0] rfl ?_
      exact K16 _ _ _ h
set_option maxRecDepth 100000 in
set_option maxHeartbeats 4000000 in
theorem k_X5_settle {l : Launch} {E : Ev} {P : Nat → Prop} {sd : Nat → Nat → Nat} {G : GH} {post : GH → Prop} {o1 : Nat} {o2 : Nat} {x3 : Int32} (hPP : ∀ o, stt o = true → P o) (ho1 : stt o1 = true) (hc1 : oc o1 = 4) (ho2 : stt o2 = true) (hc2 : oc o2 = 1) (h : wp_X5_settle post o1 o2 x3 G) : Ct l yX5_settle cX5_settle 7 none 2 0 0 E P sd G [.ref (sd 5 0), .ref (sd o1 0), .ref (sd o2 0), .int x3] (pV post) := by
  refine ct_of (own := "MarkField$Standing") (by decide) rfl (Nat.le_of_ble_eq_true rfl) hPP (fun X F T el eP es => ?_)
  subst el; subst eP; subst es
  have hP := F.P
  change AW E X 7 0 [(0, .ref (sdX X 5 0)), (1, .ref (sdX X o1 0)), (2, .ref (sdX X o2 0)), (3, .int x3)] [] G 0 0
  refine aw_al_n F 0 dX5_settle_0 rfl rfl ?_
  refine aw_ic F dX5_settle_1 ic_0 ?_
  refine pf5_7 F (lo_s rfl) (hP _ rfl) rfl w_222 dX5_settle_2 (fun G_1 eG_1 => ?_)
  replace h := h G_1 eG_1
  refine aw_al_n F 0 dX5_settle_5 rfl rfl ?_
  refine gr5_2 F (lo_s rfl) (hP _ rfl) rfl w_212 (hP _ rfl) dX5_settle_6 ?_
  refine aw_ic F dX5_settle_9 ic_m1 ?_
  refine aw_cSv (stk := []) F T.room [.ref (sdX X 5 3), .int (-1 : Int32)] (k_J7_fill_53178 hP rfl rfl h) ms_J7_fill_53178 w_853 rfl rfl (Nat.le_of_ble_eq_true rfl) ⟨(Nat.le_of_ble_eq_true rfl), (Nat.le_of_ble_eq_true rfl)⟩ ⟨(Nat.le_of_ble_eq_true rfl), (Nat.le_of_ble_eq_true rfl)⟩ dX5_settle_10 (fun G_2 h => ?_)
  refine aw_ic F dX5_settle_13 ic_0 ?_
  refine aw_is (lv1 := [(4, .int (0 : Int32)), (0, .ref (sdX X 5 0)), (1, .ref (sdX X o1 0)), (2, .ref (sdX X o2 0)), (3, .int x3)]) F dX5_settle_14 (by decide) rfl ?_
  refine aw_sub [1, 2, 3, 4, 0] rfl ?_
  exact kl_X5_settle_16 F T ho1 hc1 ho2 hc2 h
-- X5_noteHalf (height 1)
def j_X5_noteHalf_63 (post : GH → Prop) (v1 : Int32) (G : GH) : Prop :=
  (vp_in v1 13 ∧ (vp_in v1 13 ∧ (∀ G_6 : GH, G_6 = gs G 5 6 (upd (G 5 6) v1.toNatClampNeg (G 5 3 v1.toNatClampNeg)) → post G_6)))
def wp_X5_noteHalf (post : GH → Prop) (x1 x2 : Int32) (G : GH) : Prop :=
  (vp_in x1 13 ∧ (vp_in x1 13 ∧ (∀ G_1 : GH, G_1 = gs G 5 4 (upd (G 5 4) x1.toNatClampNeg ((G 5 4 x1.toNatClampNeg) ||| ((1 : Int32) <<< (x2 &&& 31)))) → wp_X7_isIn (fun (b_3 : Bool) (G_2 : GH) => ((b_3 = false → (vp_in x1 13 ∧ (((G_2 5 6 x1.toNatClampNeg) = (-1 : Int32) → j_X5_noteHalf_63 post x1 G_2) ∧ (¬ (G_2 5 6 x1.toNatClampNeg) = (-1 : Int32) → (vp_in x1 13 ∧ (vp_in x1 13 ∧ (((G_2 5 6 x1.toNatClampNeg) ≤ (G_2 5 3 x1.toNatClampNeg) → post G_2) ∧ (¬ (G_2 5 6 x1.toNatClampNeg) ≤ (G_2 5 3 x1.toNatClampNeg) → j_X5_noteHalf_63 post x1 G_2)))))))) ∧ (b_3 = true → (vp_in x1 13 ∧ (vp_in x1 13 ∧ (∀ G_8 : GH, G_8 = gs G_2 5 5 (upd (G_2 5 5) x1.toNatClampNeg ((G_2 5 5 x1.toNatClampNeg) ||| ((1 : Int32) <<< (x2 &&& 31)))) → post G_8)))))) x1 (G_1 5 0 7) G_1)))
set_option maxRecDepth 100000 in
set_option maxHeartbeats 4000000 in
theorem kj_X5_noteHalf_63 {E : Ev} {X : Cx} {post : GH → Prop} {v1 : Int32} {G : GH} (F : Fx E X "MarkField$Standing" cX5_noteHalf 3) (T : RT E X 1 0 0 none (pV post)) (h : j_X5_noteHalf_63 post v1 G) : AW E X 3 63 [(0, .ref (sdX X 5 0)), (1, .int v1)] [] G 0 0 := by
  have hP := F.P
  refine aw_al_n F 0 dX5_noteHalf_63 rfl rfl ?_
  refine gr5_5 F (lo_s rfl) (hP _ rfl) rfl w_219 (hP _ rfl) dX5_noteHalf_64 ?_
  refine aw_il_n F 1 dX5_noteHalf_67 rfl rfl ?_
  refine aw_al_n F 0 dX5_noteHalf_68 rfl rfl ?_
  refine gr5_2 F (lo_s rfl) (hP _ rfl) rfl w_212 (hP _ rfl) dX5_noteHalf_69 ?_
  refine aw_il_n F 1 dX5_noteHalf_72 rfl rfl ?_
  refine aw_iald F 5 3 (lo_s rfl) (hP _ rfl) rfl h.1 dX5_noteHalf_73 ?_
  replace h := h.2
  refine aw_iast F 5 6 (lo_s rfl) (hP _ rfl) rfl h.1 dX5_noteHalf_74 ?_
  refine aw_nG (fun G_6 eG_6 => ?_)
  replace h := h.2 G_6 eG_6
  exact aw_vret F T (Nat.le_of_ble_eq_true rfl) (Nat.le_of_ble_eq_true rfl) ⟨rfl, h⟩ dX5_noteHalf_75
set_option maxRecDepth 100000 in
set_option maxHeartbeats 4000000 in
theorem k_X5_noteHalf {l : Launch} {E : Ev} {P : Nat → Prop} {sd : Nat → Nat → Nat} {G : GH} {post : GH → Prop} {x1 x2 : Int32} (hPP : ∀ o, stt o = true → P o) (h : wp_X5_noteHalf post x1 x2 G) : Ct l yX5_noteHalf cX5_noteHalf 3 none 1 0 0 E P sd G [.ref (sd 5 0), .int x1, .int x2] (pV post) := by
  refine ct_of (own := "MarkField$Standing") (by decide) rfl (Nat.le_of_ble_eq_true rfl) hPP (fun X F T el eP es => ?_)
  subst el; subst eP; subst es
  have hP := F.P
  change AW E X 3 0 [(0, .ref (sdX X 5 0)), (1, .int x1), (2, .int x2)] [] G 0 0
  refine aw_al_n F 0 dX5_noteHalf_0 rfl rfl ?_
  refine gr5_3 F (lo_s rfl) (hP _ rfl) rfl w_214 (hP _ rfl) dX5_noteHalf_1 ?_
  refine aw_il_n F 1 dX5_noteHalf_4 rfl rfl ?_
  refine aw_dup2 F dX5_noteHalf_5 rfl rfl ?_
  refine aw_iald F 5 4 (lo_s rfl) (hP _ rfl) rfl h.1 dX5_noteHalf_6 ?_
  replace h := h.2
  refine aw_ic F dX5_noteHalf_7 ic_1 ?_
  refine aw_il_n F 2 dX5_noteHalf_8 rfl rfl ?_
  refine aw_ishl F dX5_noteHalf_9 ?_
  refine aw_ior F dX5_noteHalf_10 ?_
  refine aw_iast F 5 4 (lo_s rfl) (hP _ rfl) rfl h.1 dX5_noteHalf_11 ?_
  refine aw_nG (fun G_1 eG_1 => ?_)
  replace h := h.2 G_1 eG_1
  refine aw_il_n F 1 dX5_noteHalf_12 rfl rfl ?_
  refine aw_al_n F 0 dX5_noteHalf_13 rfl rfl ?_
  refine gf5_7 F (lo_s rfl) (hP _ rfl) rfl w_222 dX5_noteHalf_14 ?_
  refine aw_cSNb (stk := []) F T.room [.int x1, .int (G_1 5 0 7)] (k_X7_isIn hP h) ms_X7_isIn (by decide) rfl rfl (Nat.le_of_ble_eq_true rfl) ⟨(Nat.le_of_ble_eq_true rfl), (Nat.le_of_ble_eq_true rfl)⟩ ⟨(Nat.le_of_ble_eq_true rfl), (Nat.le_of_ble_eq_true rfl)⟩ dX5_noteHalf_17 (fun b_3 G_2 h => ?_)
  refine aw_if_eq (tgt := 38) F dX5_noteHalf_20 (by decide) (fun c_4 => ?_) (fun c_4 => ?_)
  · replace h := h.1 (bI_2 c_4)
    refine aw_al_n F 0 dX5_noteHalf_38 rfl rfl ?_
    refine gr5_5 F (lo_s rfl) (hP _ rfl) rfl w_219 (hP _ rfl) dX5_noteHalf_39 ?_
    refine aw_il_n F 1 dX5_noteHalf_42 rfl rfl ?_
    refine aw_iald F 5 6 (lo_s rfl) (hP _ rfl) rfl h.1 dX5_noteHalf_43 ?_
    replace h := h.2
    refine aw_ic F dX5_noteHalf_44 ic_m1 ?_
    refine aw_icmp_eq (tgt := 63) F dX5_noteHalf_45 (by decide) (fun c_5 => ?_) (fun c_5 => ?_)
    · replace h := h.1 c_5
      refine aw_sub [0, 1] rfl ?_
      exact kj_X5_noteHalf_63 F T h
    · replace h := h.2 c_5
      refine aw_al_n F 0 dX5_noteHalf_48 rfl rfl ?_
      refine gr5_2 F (lo_s rfl) (hP _ rfl) rfl w_212 (hP _ rfl) dX5_noteHalf_49 ?_
      refine aw_il_n F 1 dX5_noteHalf_52 rfl rfl ?_
      refine aw_iald F 5 3 (lo_s rfl) (hP _ rfl) rfl h.1 dX5_noteHalf_53 ?_
      replace h := h.2
      refine aw_al_n F 0 dX5_noteHalf_54 rfl rfl ?_
      refine gr5_5 F (lo_s rfl) (hP _ rfl) rfl w_219 (hP _ rfl) dX5_noteHalf_55 ?_
      refine aw_il_n F 1 dX5_noteHalf_58 rfl rfl ?_
      refine aw_iald F 5 6 (lo_s rfl) (hP _ rfl) rfl h.1 dX5_noteHalf_59 ?_
      replace h := h.2
      refine aw_icmp_ge (tgt := 75) F dX5_noteHalf_60 (by decide) (fun c_7 => ?_) (fun c_7 => ?_)
      · replace h := h.1 c_7
        exact aw_vret F T (Nat.le_of_ble_eq_true rfl) (Nat.le_of_ble_eq_true rfl) ⟨rfl, h⟩ dX5_noteHalf_75
      · replace h := h.2 c_7
        refine aw_sub [0, 1] rfl ?_
        exact kj_X5_noteHalf_63 F T h
  · replace h := h.2 (bI_1 c_4)
    refine aw_al_n F 0 dX5_noteHalf_23 rfl rfl ?_
    refine gr5_4 F (lo_s rfl) (hP _ rfl) rfl w_216 (hP _ rfl) dX5_noteHalf_24 ?_
    refine aw_il_n F 1 dX5_noteHalf_27 rfl rfl ?_
    refine aw_dup2 F dX5_noteHalf_28 rfl rfl ?_
    refine aw_iald F 5 5 (lo_s rfl) (hP _ rfl) rfl h.1 dX5_noteHalf_29 ?_
    replace h := h.2
    refine aw_ic F dX5_noteHalf_30 ic_1 ?_
    refine aw_il_n F 2 dX5_noteHalf_31 rfl rfl ?_
    refine aw_ishl F dX5_noteHalf_32 ?_
    refine aw_ior F dX5_noteHalf_33 ?_
    refine aw_iast F 5 5 (lo_s rfl) (hP _ rfl) rfl h.1 dX5_noteHalf_34 ?_
    refine aw_nG (fun G_8 eG_8 => ?_)
    replace h := h.2 G_8 eG_8
    refine aw_go (tgt := 75) F dX5_noteHalf_35 (by decide) ?_
    exact aw_vret F T (Nat.le_of_ble_eq_true rfl) (Nat.le_of_ble_eq_true rfl) ⟨rfl, h⟩ dX5_noteHalf_75
-- X5_settleAll (height 4)
def lb_X5_settleAll_75 (post : GH → Prop) (P45 : Int32 → Int32 → Int32 → GH → Prop) (o1 : Nat) (o2 : Nat) (P75 : Int32 → Int32 → Int32 → Int32 → GH → Prop) (v3 v4 v5 v6 : Int32) (G : GH) : Prop :=
  (vp_in v5 12 ∧ (((G 5 2 v5.toNatClampNeg) ≤ v6 → P45 v3 v4 (v5 + (1 : Int32)) G) ∧ (¬ (G 5 2 v5.toNatClampNeg) ≤ v6 → wp_X5_inOrder (fun (r_11 : Int32) (G_10 : GH) => wp_X5_noteHalf (fun (G_12 : GH) => P75 v3 v4 v5 (v6 + (1 : Int32)) G_12) r_11 v5 G_10) v5 v6 G)))
def lp_X5_settleAll_75 (post : GH → Prop) (P45 : Int32 → Int32 → Int32 → GH → Prop) (o1 : Nat) (o2 : Nat) (v3 v4 v5 v6 : Int32) (G : GH) : Prop := ∀ P75 : Int32 → Int32 → Int32 → Int32 → GH → Prop, (∀ (v3 v4 v5 v6 : Int32) (G : GH), lb_X5_settleAll_75 post P45 o1 o2 P75 v3 v4 v5 v6 G → P75 v3 v4 v5 v6 G) → P75 v3 v4 v5 v6 G
def lb_X5_settleAll_45 (post : GH → Prop) (o1 : Nat) (o2 : Nat) (P45 : Int32 → Int32 → Int32 → GH → Prop) (v3 v4 v5 : Int32) (G : GH) : Prop :=
  wp_X4_halfCount (fun (r_3 : Int32) (G_2 : GH) => ((r_3 ≤ v5 → post G_2) ∧ (¬ r_3 ≤ v5 → wp_X5_rank (fun (G_5 : GH) => wp_X5_settle (fun (G_7 : GH) => lp_X5_settleAll_75 post P45 o1 o2 v3 v4 v5 (0 : Int32) G_7) o1 o2 v5 G_5) o1 v5 v3 v4 G_2))) o1 G
def lp_X5_settleAll_45 (post : GH → Prop) (o1 : Nat) (o2 : Nat) (v3 v4 v5 : Int32) (G : GH) : Prop := ∀ P45 : Int32 → Int32 → Int32 → GH → Prop, (∀ (v3 v4 v5 : Int32) (G : GH), lb_X5_settleAll_45 post o1 o2 P45 v3 v4 v5 G → P45 v3 v4 v5 G) → P45 v3 v4 v5 G
def lb_X5_settleAll_3 (post : GH → Prop) (o1 : Nat) (o2 : Nat) (P3 : Int32 → Int32 → Int32 → GH → Prop) (v3 v4 v5 : Int32) (G : GH) : Prop :=
  (((G o1 0 1) ≤ v5 → lp_X5_settleAll_45 post o1 o2 v3 v4 (0 : Int32) G) ∧ (¬ (G o1 0 1) ≤ v5 → (vp_in v5 13 ∧ (∀ G_14 : GH, G_14 = gs G 5 4 (upd (G 5 4) v5.toNatClampNeg (0 : Int32)) → (vp_in v5 13 ∧ (∀ G_15 : GH, G_15 = gs G_14 5 5 (upd (G_14 5 5) v5.toNatClampNeg (0 : Int32)) → (vp_in v5 13 ∧ (∀ G_16 : GH, G_16 = gs G_15 5 6 (upd (G_15 5 6) v5.toNatClampNeg (-1 : Int32)) → P3 v3 v4 (v5 + (1 : Int32)) G_16))))))))
def lp_X5_settleAll_3 (post : GH → Prop) (o1 : Nat) (o2 : Nat) (v3 v4 v5 : Int32) (G : GH) : Prop := ∀ P3 : Int32 → Int32 → Int32 → GH → Prop, (∀ (v3 v4 v5 : Int32) (G : GH), lb_X5_settleAll_3 post o1 o2 P3 v3 v4 v5 G → P3 v3 v4 v5 G) → P3 v3 v4 v5 G
def wp_X5_settleAll (post : GH → Prop) (o1 : Nat) (o2 : Nat) (x3 x4 : Int32) (G : GH) : Prop :=
  lp_X5_settleAll_3 post o1 o2 x3 x4 (0 : Int32) G
set_option maxRecDepth 100000 in
set_option maxHeartbeats 4000000 in
theorem kl_X5_settleAll_75 {E : Ev} {X : Cx} {post : GH → Prop} {P45 : Int32 → Int32 → Int32 → GH → Prop} {o1 : Nat} {o2 : Nat} {v3 v4 v5 v6 : Int32} {G : GH} (F : Fx E X "MarkField$Standing" cX5_settleAll 7) (T : RT E X 4 0 0 none (pV post)) (ho1 : stt o1 = true) (hc1 : oc o1 = 4) (ho2 : stt o2 = true) (hc2 : oc o2 = 1) (K45 : ∀ (v3 v4 v5 : Int32) (G : GH), P45 v3 v4 v5 G → AW E X 7 45 [(0, .ref (sdX X 5 0)), (1, .ref (sdX X o1 0)), (2, .ref (sdX X o2 0)), (3, .int v3), (4, .int v4), (5, .int v5)] [] G 0 0) (h : lp_X5_settleAll_75 post P45 o1 o2 v3 v4 v5 v6 G) : AW E X 7 75 [(0, .ref (sdX X 5 0)), (1, .ref (sdX X o1 0)), (2, .ref (sdX X o2 0)), (3, .int v3), (4, .int v4), (5, .int v5), (6, .int v6)] [] G 0 0 := by
  have hP := F.P
  have K75 : ∀ (v3 v4 v5 v6 : Int32) (G : GH), AW E X 7 75 [(0, .ref (sdX X 5 0)), (1, .ref (sdX X o1 0)), (2, .ref (sdX X o2 0)), (3, .int v3), (4, .int v4), (5, .int v5), (6, .int v6)] [] G 0 0 → AW E X 7 75 [(0, .ref (sdX X 5 0)), (1, .ref (sdX X o1 0)), (2, .ref (sdX X o2 0)), (3, .int v3), (4, .int v4), (5, .int v5), (6, .int v6)] [] G 0 0 := fun _ _ _ _ _ q => q
  refine h (fun (v3 v4 v5 v6 : Int32) (G : GH) => AW E X 7 75 [(0, .ref (sdX X 5 0)), (1, .ref (sdX X o1 0)), (2, .ref (sdX X o2 0)), (3, .int v3), (4, .int v4), (5, .int v5), (6, .int v6)] [] G 0 0) (fun (v3 v4 v5 v6 : Int32) (G : GH) h => ?_)
  refine aw_il F 6 dX5_settleAll_75 rfl ?_
  refine aw_al_n F 0 dX5_settleAll_77 rfl rfl ?_
  refine gr5_1 F (lo_s rfl) (hP _ rfl) rfl w_210 (hP _ rfl) dX5_settleAll_78 ?_
  refine aw_il F 5 dX5_settleAll_81 rfl ?_
  refine aw_iald F 5 2 (lo_s rfl) (hP _ rfl) rfl h.1 dX5_settleAll_83 ?_
  replace h := h.2
  refine aw_icmp_ge (tgt := 107) F dX5_settleAll_84 (by decide) (fun c_9 => ?_) (fun c_9 => ?_)
  · replace h := h.1 c_9
    refine aw_inc (lv1 := [(5, .int (v5 + (1 : Int32))), (0, .ref (sdX X 5 0)), (1, .ref (sdX X o1 0)), (2, .ref (sdX X o2 0)), (3, .int v3), (4, .int v4), (6, .int v6)]) F 5 dX5_settleAll_107 rfl (in_1 _) (by decide) rfl ?_
    refine aw_go (tgt := 45) F dX5_settleAll_110 (by decide) ?_
    refine aw_sub [1, 2, 3, 4, 5, 0] rfl ?_
    exact K45 _ _ _ _ h
  · replace h := h.2 c_9
    refine aw_al_n F 0 dX5_settleAll_87 rfl rfl ?_
    refine aw_al_n F 0 dX5_settleAll_88 rfl rfl ?_
    refine aw_il F 5 dX5_settleAll_89 rfl ?_
    refine aw_il F 6 dX5_settleAll_91 rfl ?_
    refine aw_cVi (stk := [.ref (sdX X 5 0)]) F T.room [.int v5, .int v6] (k_X5_inOrder hP h) mv_X5_inOrder w_854 cf5 (lo_s rfl) (hP _ rfl) rfl (by decide) rfl rfl (Nat.le_of_ble_eq_true rfl) ⟨(Nat.le_of_ble_eq_true rfl), (Nat.le_of_ble_eq_true rfl)⟩ ⟨(Nat.le_of_ble_eq_true rfl), (Nat.le_of_ble_eq_true rfl)⟩ dX5_settleAll_93 (fun r_11 G_10 h => ?_)
    refine aw_il F 5 dX5_settleAll_96 rfl ?_
    refine aw_cVv (stk := []) F T.room [.int r_11, .int v5] (k_X5_noteHalf hP h) mv_X5_noteHalf w_876 cf5 (lo_s rfl) (hP _ rfl) rfl (by decide) rfl rfl (Nat.le_of_ble_eq_true rfl) ⟨(Nat.le_of_ble_eq_true rfl), (Nat.le_of_ble_eq_true rfl)⟩ ⟨(Nat.le_of_ble_eq_true rfl), (Nat.le_of_ble_eq_true rfl)⟩ dX5_settleAll_98 (fun G_12 h => ?_)
    refine aw_inc (lv1 := [(6, .int (v6 + (1 : Int32))), (0, .ref (sdX X 5 0)), (1, .ref (sdX X o1 0)), (2, .ref (sdX X o2 0)), (3, .int v3), (4, .int v4), (5, .int v5)]) F 6 dX5_settleAll_101 rfl (in_1 _) (by decide) rfl ?_
    refine aw_go (tgt := 75) F dX5_settleAll_104 (by decide) ?_
    refine aw_sub [1, 2, 3, 4, 5, 6, 0] rfl ?_
    exact K75 _ _ _ _ _ h
set_option maxRecDepth 100000 in
set_option maxHeartbeats 4000000 in
theorem kl_X5_settleAll_45 {E : Ev} {X : Cx} {post : GH → Prop} {o1 : Nat} {o2 : Nat} {v3 v4 v5 : Int32} {G : GH} (F : Fx E X "MarkField$Standing" cX5_settleAll 7) (T : RT E X 4 0 0 none (pV post)) (ho1 : stt o1 = true) (hc1 : oc o1 = 4) (ho2 : stt o2 = true) (hc2 : oc o2 = 1) (h : lp_X5_settleAll_45 post o1 o2 v3 v4 v5 G) : AW E X 7 45 [(0, .ref (sdX X 5 0)), (1, .ref (sdX X o1 0)), (2, .ref (sdX X o2 0)), (3, .int v3), (4, .int v4), (5, .int v5)] [] G 0 0 := by
  have hP := F.P
  have K45 : ∀ (v3 v4 v5 : Int32) (G : GH), AW E X 7 45 [(0, .ref (sdX X 5 0)), (1, .ref (sdX X o1 0)), (2, .ref (sdX X o2 0)), (3, .int v3), (4, .int v4), (5, .int v5)] [] G 0 0 → AW E X 7 45 [(0, .ref (sdX X 5 0)), (1, .ref (sdX X o1 0)), (2, .ref (sdX X o2 0)), (3, .int v3), (4, .int v4), (5, .int v5)] [] G 0 0 := fun _ _ _ _ q => q
  refine h (fun (v3 v4 v5 : Int32) (G : GH) => AW E X 7 45 [(0, .ref (sdX X 5 0)), (1, .ref (sdX X o1 0)), (2, .ref (sdX X o2 0)), (3, .int v3), (4, .int v4), (5, .int v5)] [] G 0 0) (fun (v3 v4 v5 : Int32) (G : GH) h => ?_)
  refine aw_il F 5 dX5_settleAll_45 rfl ?_
  refine aw_al_n F 1 dX5_settleAll_47 rfl rfl ?_
  refine aw_cVi (stk := [.int v5]) F T.room [] (k_X4_halfCount hP ho1 hc1 h) mv_X4_halfCount w_873 cf4 (lo_s ho1) (hP _ ho1) hc1 (by decide) rfl rfl (Nat.le_of_ble_eq_true rfl) ⟨(Nat.le_of_ble_eq_true rfl), (Nat.le_of_ble_eq_true rfl)⟩ ⟨(Nat.le_of_ble_eq_true rfl), (Nat.le_of_ble_eq_true rfl)⟩ dX5_settleAll_48 (fun r_3 G_2 h => ?_)
  refine aw_icmp_ge (tgt := 113) F dX5_settleAll_51 (by decide) (fun c_4 => ?_) (fun c_4 => ?_)
  · replace h := h.1 c_4
    exact aw_vret F T (Nat.le_of_ble_eq_true rfl) (Nat.le_of_ble_eq_true rfl) ⟨rfl, h⟩ dX5_settleAll_113
  · replace h := h.2 c_4
    refine aw_al_n F 0 dX5_settleAll_54 rfl rfl ?_
    refine aw_al_n F 1 dX5_settleAll_55 rfl rfl ?_
    refine aw_il F 5 dX5_settleAll_56 rfl ?_
    refine aw_il_n F 3 dX5_settleAll_58 rfl rfl ?_
    refine aw_il F 4 dX5_settleAll_59 rfl ?_
    refine aw_cVv (stk := []) F T.room [.ref (sdX X o1 0), .int v5, .int v3, .int v4] (k_X5_rank hP ho1 hc1 h) mv_X5_rank w_874 cf5 (lo_s rfl) (hP _ rfl) rfl (by decide) rfl rfl (Nat.le_of_ble_eq_true rfl) ⟨(Nat.le_of_ble_eq_true rfl), (Nat.le_of_ble_eq_true rfl)⟩ ⟨(Nat.le_of_ble_eq_true rfl), (Nat.le_of_ble_eq_true rfl)⟩ dX5_settleAll_61 (fun G_5 h => ?_)
    refine aw_al_n F 0 dX5_settleAll_64 rfl rfl ?_
    refine aw_al_n F 1 dX5_settleAll_65 rfl rfl ?_
    refine aw_al_n F 2 dX5_settleAll_66 rfl rfl ?_
    refine aw_il F 5 dX5_settleAll_67 rfl ?_
    refine aw_cVv (stk := []) F T.room [.ref (sdX X o1 0), .ref (sdX X o2 0), .int v5] (k_X5_settle hP ho1 hc1 ho2 hc2 h) mv_X5_settle w_875 cf5 (lo_s rfl) (hP _ rfl) rfl (by decide) rfl rfl (Nat.le_of_ble_eq_true rfl) ⟨(Nat.le_of_ble_eq_true rfl), (Nat.le_of_ble_eq_true rfl)⟩ ⟨(Nat.le_of_ble_eq_true rfl), (Nat.le_of_ble_eq_true rfl)⟩ dX5_settleAll_69 (fun G_7 h => ?_)
    refine aw_ic F dX5_settleAll_72 ic_0 ?_
    refine aw_is (lv1 := [(6, .int (0 : Int32)), (0, .ref (sdX X 5 0)), (1, .ref (sdX X o1 0)), (2, .ref (sdX X o2 0)), (3, .int v3), (4, .int v4), (5, .int v5)]) F dX5_settleAll_73 (by decide) rfl ?_
    refine aw_sub [1, 2, 3, 4, 5, 6, 0] rfl ?_
    exact kl_X5_settleAll_75 F T ho1 hc1 ho2 hc2 K45 h
set_option maxRecDepth 100000 in
set_option maxHeartbeats 4000000 in
theorem kl_X5_settleAll_3 {E : Ev} {X : Cx} {post : GH → Prop} {o1 : Nat} {o2 : Nat} {v3 v4 v5 : Int32} {G : GH} (F : Fx E X "MarkField$Standing" cX5_settleAll 7) (T : RT E X 4 0 0 none (pV post)) (ho1 : stt o1 = true) (hc1 : oc o1 = 4) (ho2 : stt o2 = true) (hc2 : oc o2 = 1) (h : lp_X5_settleAll_3 post o1 o2 v3 v4 v5 G) : AW E X 7 3 [(0, .ref (sdX X 5 0)), (1, .ref (sdX X o1 0)), (2, .ref (sdX X o2 0)), (3, .int v3), (4, .int v4), (5, .int v5)] [] G 0 0 := by
  have hP := F.P
  have K3 : ∀ (v3 v4 v5 : Int32) (G : GH), AW E X 7 3 [(0, .ref (sdX X 5 0)), (1, .ref (sdX X o1 0)), (2, .ref (sdX X o2 0)), (3, .int v3), (4, .int v4), (5, .int v5)] [] G 0 0 → AW E X 7 3 [(0, .ref (sdX X 5 0)), (1, .ref (sdX X o1 0)), (2, .ref (sdX X o2 0)), (3, .int v3), (4, .int v4), (5, .int v5)] [] G 0 0 := fun _ _ _ _ q => q
  refine h (fun (v3 v4 v5 : Int32) (G : GH) => AW E X 7 3 [(0, .ref (sdX X 5 0)), (1, .ref (sdX X o1 0)), (2, .ref (sdX X o2 0)), (3, .int v3), (4, .int v4), (5, .int v5)] [] G 0 0) (fun (v3 v4 v5 : Int32) (G : GH) h => ?_)
  refine aw_il F 5 dX5_settleAll_3 rfl ?_
  refine aw_al_n F 1 dX5_settleAll_5 rfl rfl ?_
  refine gf4_1 F (lo_s ho1) (hP _ ho1) hc1 w_85 dX5_settleAll_6 ?_
  refine aw_icmp_ge (tgt := 42) F dX5_settleAll_9 (by decide) (fun c_1 => ?_) (fun c_1 => ?_)
  · replace h := h.1 c_1
    refine aw_ic F dX5_settleAll_42 ic_0 ?_
    refine aw_is (lv1 := [(5, .int (0 : Int32)), (0, .ref (sdX X 5 0)), (1, .ref (sdX X o1 0)), (2, .ref (sdX X o2 0)), (3, .int v3), (4, .int v4)]) F dX5_settleAll_43 (by decide) rfl ?_
    refine aw_sub [1, 2, 3, 4, 5, 0] rfl ?_
    exact kl_X5_settleAll_45 F T ho1 hc1 ho2 hc2 h
  · replace h := h.2 c_1
    refine aw_al_n F 0 dX5_settleAll_12 rfl rfl ?_
    refine gr5_3 F (lo_s rfl) (hP _ rfl) rfl w_214 (hP _ rfl) dX5_settleAll_13 ?_
    refine aw_il F 5 dX5_settleAll_16 rfl ?_
    refine aw_ic F dX5_settleAll_18 ic_0 ?_
    refine aw_iast F 5 4 (lo_s rfl) (hP _ rfl) rfl h.1 dX5_settleAll_19 ?_
    refine aw_nG (fun G_14 eG_14 => ?_)
    replace h := h.2 G_14 eG_14
    refine aw_al_n F 0 dX5_settleAll_20 rfl rfl ?_
    refine gr5_4 F (lo_s rfl) (hP _ rfl) rfl w_216 (hP _ rfl) dX5_settleAll_21 ?_
    refine aw_il F 5 dX5_settleAll_24 rfl ?_
    refine aw_ic F dX5_settleAll_26 ic_0 ?_
    refine aw_iast F 5 5 (lo_s rfl) (hP _ rfl) rfl h.1 dX5_settleAll_27 ?_
    refine aw_nG (fun G_15 eG_15 => ?_)
    replace h := h.2 G_15 eG_15
    refine aw_al_n F 0 dX5_settleAll_28 rfl rfl ?_
    refine gr5_5 F (lo_s rfl) (hP _ rfl) rfl w_219 (hP _ rfl) dX5_settleAll_29 ?_
    refine aw_il F 5 dX5_settleAll_32 rfl ?_
    refine aw_ic F dX5_settleAll_34 ic_m1 ?_
    refine aw_iast F 5 6 (lo_s rfl) (hP _ rfl) rfl h.1 dX5_settleAll_35 ?_
    refine aw_nG (fun G_16 eG_16 => ?_)
    replace h := h.2 G_16 eG_16
    refine aw_inc (lv1 := [(5, .int (v5 + (1 : Int32))), (0, .ref (sdX X 5 0)), (1, .ref (sdX X o1 0)), (2, .ref (sdX X o2 0)), (3, .int v3), (4, .int v4)]) F 5 dX5_settleAll_36 rfl (in_1 _) (by decide) rfl ?_
    refine aw_go (tgt := 3) F dX5_settleAll_39 (by decide) ?_
    refine aw_sub [1, 2, 3, 4, 5, 0] rfl ?_
    exact K3 _ _ _ _ h
set_option maxRecDepth 100000 in
set_option maxHeartbeats 4000000 in
theorem k_X5_settleAll {l : Launch} {E : Ev} {P : Nat → Prop} {sd : Nat → Nat → Nat} {G : GH} {post : GH → Prop} {o1 : Nat} {o2 : Nat} {x3 x4 : Int32} (hPP : ∀ o, stt o = true → P o) (ho1 : stt o1 = true) (hc1 : oc o1 = 4) (ho2 : stt o2 = true) (hc2 : oc o2 = 1) (h : wp_X5_settleAll post o1 o2 x3 x4 G) : Ct l yX5_settleAll cX5_settleAll 7 none 4 0 0 E P sd G [.ref (sd 5 0), .ref (sd o1 0), .ref (sd o2 0), .int x3, .int x4] (pV post) := by
  refine ct_of (own := "MarkField$Standing") (by decide) rfl (Nat.le_of_ble_eq_true rfl) hPP (fun X F T el eP es => ?_)
  subst el; subst eP; subst es
  have hP := F.P
  change AW E X 7 0 [(0, .ref (sdX X 5 0)), (1, .ref (sdX X o1 0)), (2, .ref (sdX X o2 0)), (3, .int x3), (4, .int x4)] [] G 0 0
  refine aw_ic F dX5_settleAll_0 ic_0 ?_
  refine aw_is (lv1 := [(5, .int (0 : Int32)), (0, .ref (sdX X 5 0)), (1, .ref (sdX X o1 0)), (2, .ref (sdX X o2 0)), (3, .int x3), (4, .int x4)]) F dX5_settleAll_1 (by decide) rfl ?_
  refine aw_sub [1, 2, 3, 4, 5, 0] rfl ?_
  exact kl_X5_settleAll_3 F T ho1 hc1 ho2 hc2 h
-- X5_refusedHalves (height 0)
def wp_X5_refusedHalves (post : Int32 → GH → Prop) (x1 : Int32) (G : GH) : Prop :=
  (vp_in x1 13 ∧ (vp_in x1 13 ∧ post ((G 5 4 x1.toNatClampNeg) &&& ((G 5 5 x1.toNatClampNeg) ^^^ (-1 : Int32))) G))
set_option maxRecDepth 100000 in
set_option maxHeartbeats 4000000 in
theorem k_X5_refusedHalves {l : Launch} {E : Ev} {P : Nat → Prop} {sd : Nat → Nat → Nat} {G : GH} {post : Int32 → GH → Prop} {x1 : Int32} (hPP : ∀ o, stt o = true → P o) (h : wp_X5_refusedHalves post x1 G) : Ct l yX5_refusedHalves cX5_refusedHalves 2 (some .int) 0 0 0 E P sd G [.ref (sd 5 0), .int x1] (pI post) := by
  refine ct_of (own := "MarkField$Standing") (by decide) rfl (Nat.le_of_ble_eq_true rfl) hPP (fun X F T el eP es => ?_)
  subst el; subst eP; subst es
  have hP := F.P
  change AW E X 2 0 [(0, .ref (sdX X 5 0)), (1, .int x1)] [] G 0 0
  refine aw_al_n F 0 dX5_refusedHalves_0 rfl rfl ?_
  refine gr5_3 F (lo_s rfl) (hP _ rfl) rfl w_214 (hP _ rfl) dX5_refusedHalves_1 ?_
  refine aw_il_n F 1 dX5_refusedHalves_4 rfl rfl ?_
  refine aw_iald F 5 4 (lo_s rfl) (hP _ rfl) rfl h.1 dX5_refusedHalves_5 ?_
  replace h := h.2
  refine aw_al_n F 0 dX5_refusedHalves_6 rfl rfl ?_
  refine gr5_4 F (lo_s rfl) (hP _ rfl) rfl w_216 (hP _ rfl) dX5_refusedHalves_7 ?_
  refine aw_il_n F 1 dX5_refusedHalves_10 rfl rfl ?_
  refine aw_iald F 5 5 (lo_s rfl) (hP _ rfl) rfl h.1 dX5_refusedHalves_11 ?_
  replace h := h.2
  refine aw_ic F dX5_refusedHalves_12 ic_m1 ?_
  refine aw_ixor F dX5_refusedHalves_13 ?_
  refine aw_iand F dX5_refusedHalves_14 ?_
  exact aw_iret F T (Nat.le_of_ble_eq_true rfl) (Nat.le_of_ble_eq_true rfl) ⟨_, rfl, h⟩ dX5_refusedHalves_15
