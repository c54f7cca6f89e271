theorem in_m1 (x : Int32) : x + Int32.ofInt (-1) = x + (-1 : Int32) := by rw [show Int32.ofInt (-1) = (-1 : Int32) by decide]
theorem w_221 : (Jvm.Cond.fieldLink "MarkField$Standing" (30 : Nat) "MarkField$Standing" "ranks" "I") ∈ tb := tb_of (List.mem_of_getElem? (i := 221) (by decide +kernel)) rfl
theorem w_84 : (Jvm.Cond.fieldLink "MarkField$Standing" (37 : Nat) "MarkField$Register" "marks" "I") ∈ tb := tb_of (List.mem_of_getElem? (i := 84) (by decide +kernel)) rfl
theorem w_211 : (Jvm.Cond.fieldLink "MarkField$Standing" (15 : Nat) "MarkField$Standing" "refusedFor" "[I") ∈ tb := tb_of (List.mem_of_getElem? (i := 211) (by decide +kernel)) rfl
theorem w_220 : (Jvm.Cond.fieldLink "MarkField$Standing" (27 : Nat) "MarkField$Standing" "priorities" "[I") ∈ tb := tb_of (List.mem_of_getElem? (i := 220) (by decide +kernel)) rfl
theorem w_209 : (Jvm.Cond.fieldLink "MarkField$Standing" (9 : Nat) "MarkField$Standing" "order" "[I") ∈ tb := tb_of (List.mem_of_getElem? (i := 209) (by decide +kernel)) rfl
theorem w_853 : (Jvm.Cond.methodLink "MarkField$Standing" (46 : Nat) ({ cls := "MarkField$Register", name := "priorityOf", desc := "(III)I" } : Jvm.MethodName)) ∈ tb := tb_of (List.mem_of_getElem? (i := 853) (by decide +kernel)) rfl
theorem w_851 : (Jvm.Cond.code ({ cls := "MarkField$Standing", name := "rank", desc := "(LMarkField$Register;III)V" } : Jvm.MethodName) prog_7_method_2_code (7 : Nat) (Option.none : Option Jvm.ClassFile.FieldType)) ∈ tb := tb_of (List.mem_of_getElem? (i := 851) (by decide +kernel)) rfl
theorem w_7 : (Jvm.Cond.initialized "MarkField$Standing") ∈ tb := tb_of (List.mem_of_getElem? (i := 7) (by decide +kernel)) rfl
theorem w_849 : (Jvm.Cond.instanceMethod ({ cls := "MarkField$Standing", name := "rank", desc := "(LMarkField$Register;III)V" } : Jvm.MethodName)) ∈ tb := tb_of (List.mem_of_getElem? (i := 849) (by decide +kernel)) rfl
theorem w_850 : (Jvm.Cond.selects "MarkField$Standing" ({ cls := "MarkField$Standing", name := "rank", desc := "(LMarkField$Register;III)V" } : Jvm.MethodName) ({ cls := "MarkField$Standing", name := "rank", desc := "(LMarkField$Register;III)V" } : Jvm.MethodName)) ∈ tb := tb_of (List.mem_of_getElem? (i := 850) (by decide +kernel)) rfl
theorem w_848 : (Jvm.Cond.methodLink "MarkField$Standing" (50 : Nat) ({ cls := "MarkField$Standing", name := "rank", desc := "(LMarkField$Register;III)V" } : Jvm.MethodName)) ∈ tb := tb_of (List.mem_of_getElem? (i := 848) (by decide +kernel)) rfl
theorem w_223 : (Jvm.Cond.fieldLink "MarkField$Standing" (34 : Nat) "MarkField$Standing" "holding" "I") ∈ tb := tb_of (List.mem_of_getElem? (i := 223) (by decide +kernel)) rfl
theorem w_183 : (Jvm.Cond.fieldLink "MarkField$Standing" (54 : Nat) "MarkField$Likeness" "alike" "[I") ∈ tb := tb_of (List.mem_of_getElem? (i := 183) (by decide +kernel)) rfl
theorem w_111 : (Jvm.Cond.fieldLink "MarkField$Standing" (59 : Nat) "MarkField$Register" "consents" "[I") ∈ tb := tb_of (List.mem_of_getElem? (i := 111) (by decide +kernel)) rfl
theorem w_857 : (Jvm.Cond.code ({ cls := "MarkField$Standing", name := "mostSenior", desc := "(I)I" } : Jvm.MethodName) prog_7_method_4_code (3 : Nat) (Option.some Jvm.ClassFile.FieldType.int)) ∈ tb := tb_of (List.mem_of_getElem? (i := 857) (by decide +kernel)) rfl
theorem w_856 : (Jvm.Cond.instanceMethod ({ cls := "MarkField$Standing", name := "mostSenior", desc := "(I)I" } : Jvm.MethodName)) ∈ tb := tb_of (List.mem_of_getElem? (i := 856) (by decide +kernel)) rfl
theorem ws_21 : (Jvm.Cond.selects "MarkField$Standing" ({ cls := "MarkField$Standing", name := "mostSenior", desc := "(I)I" } : Jvm.MethodName) ({ cls := "MarkField$Standing", name := "mostSenior", desc := "(I)I" } : Jvm.MethodName)) ∈ tb := tb_sel (List.mem_of_getElem? (i := 21) (by decide +kernel)) rfl
theorem w_854 : (Jvm.Cond.methodLink "MarkField$Standing" (62 : Nat) ({ cls := "MarkField$Standing", name := "mostSenior", desc := "(I)I" } : Jvm.MethodName)) ∈ tb := tb_of (List.mem_of_getElem? (i := 854) (by decide +kernel)) rfl
theorem w_213 : (Jvm.Cond.fieldLink "MarkField$Standing" (18 : Nat) "MarkField$Standing" "entitled" "[I") ∈ tb := tb_of (List.mem_of_getElem? (i := 213) (by decide +kernel)) rfl
theorem w_218 : (Jvm.Cond.fieldLink "MarkField$Standing" (24 : Nat) "MarkField$Standing" "leastRefusedFor" "[I") ∈ tb := tb_of (List.mem_of_getElem? (i := 218) (by decide +kernel)) rfl
theorem w_215 : (Jvm.Cond.fieldLink "MarkField$Standing" (21 : Nat) "MarkField$Standing" "held" "[I") ∈ tb := tb_of (List.mem_of_getElem? (i := 215) (by decide +kernel)) rfl
theorem w_869 : (Jvm.Cond.methodLink "MarkField$Standing" (66 : Nat) ({ cls := "MarkField$Register", name := "halfCount", desc := "()I" } : Jvm.MethodName)) ∈ tb := tb_of (List.mem_of_getElem? (i := 869) (by decide +kernel)) rfl
theorem w_847 : (Jvm.Cond.code ({ cls := "MarkField$Standing", name := "settle", desc := "(LMarkField$Register;LMarkField$Likeness;III)V" } : Jvm.MethodName) prog_7_method_3_code (9 : Nat) (Option.none : Option Jvm.ClassFile.FieldType)) ∈ tb := tb_of (List.mem_of_getElem? (i := 847) (by decide +kernel)) rfl
theorem w_845 : (Jvm.Cond.instanceMethod ({ cls := "MarkField$Standing", name := "settle", desc := "(LMarkField$Register;LMarkField$Likeness;III)V" } : Jvm.MethodName)) ∈ tb := tb_of (List.mem_of_getElem? (i := 845) (by decide +kernel)) rfl
theorem w_846 : (Jvm.Cond.selects "MarkField$Standing" ({ cls := "MarkField$Standing", name := "settle", desc := "(LMarkField$Register;LMarkField$Likeness;III)V" } : Jvm.MethodName) ({ cls := "MarkField$Standing", name := "settle", desc := "(LMarkField$Register;LMarkField$Likeness;III)V" } : Jvm.MethodName)) ∈ tb := tb_of (List.mem_of_getElem? (i := 846) (by decide +kernel)) rfl
theorem w_870 : (Jvm.Cond.methodLink "MarkField$Standing" (70 : Nat) ({ cls := "MarkField$Standing", name := "settle", desc := "(LMarkField$Register;LMarkField$Likeness;III)V" } : Jvm.MethodName)) ∈ tb := tb_of (List.mem_of_getElem? (i := 870) (by decide +kernel)) rfl
theorem w_874 : (Jvm.Cond.code ({ cls := "MarkField$Standing", name := "noteHalf", desc := "(II)V" } : Jvm.MethodName) prog_7_method_6_code (3 : Nat) (Option.none : Option Jvm.ClassFile.FieldType)) ∈ tb := tb_of (List.mem_of_getElem? (i := 874) (by decide +kernel)) rfl
theorem w_873 : (Jvm.Cond.instanceMethod ({ cls := "MarkField$Standing", name := "noteHalf", desc := "(II)V" } : Jvm.MethodName)) ∈ tb := tb_of (List.mem_of_getElem? (i := 873) (by decide +kernel)) rfl
theorem ws_22 : (Jvm.Cond.selects "MarkField$Standing" ({ cls := "MarkField$Standing", name := "noteHalf", desc := "(II)V" } : Jvm.MethodName) ({ cls := "MarkField$Standing", name := "noteHalf", desc := "(II)V" } : Jvm.MethodName)) ∈ tb := tb_sel (List.mem_of_getElem? (i := 22) (by decide +kernel)) rfl
theorem w_871 : (Jvm.Cond.methodLink "MarkField$Standing" (74 : Nat) ({ cls := "MarkField$Standing", name := "noteHalf", desc := "(II)V" } : Jvm.MethodName)) ∈ tb := tb_of (List.mem_of_getElem? (i := 871) (by decide +kernel)) rfl
theorem mv_X5_rank : MV yX5_rank cX5_rank 7 none 4 := ⟨⟨w_851, w_7, by decide, by decide, by decide +kernel⟩, w_849, w_850⟩
theorem mv_X5_mostSenior : MV yX5_mostSenior cX5_mostSenior 3 (some .int) 1 := ⟨⟨w_857, w_7, by decide, by decide, by decide +kernel⟩, w_856, ws_21⟩
theorem mv_X5_settle : MV yX5_settle cX5_settle 9 none 5 := ⟨⟨w_847, w_7, by decide, by decide, by decide +kernel⟩, w_845, w_846⟩
theorem mv_X5_noteHalf : MV yX5_noteHalf cX5_noteHalf 3 none 2 := ⟨⟨w_874, w_7, by decide, by decide, by decide +kernel⟩, w_873, ws_22⟩
-- X5_rank (height 3)
def j_X5_rank_122 (post : GH → Prop) (P8 : Int32 → Int32 → Int32 → Int32 → GH → Prop) (o1 : Nat) (v2 v3 v4 v5 v6 : Int32) (G : GH) : Prop :=
  (vp_in v6 13 ∧ (∀ G_11 : GH, G_11 = gs G 5 1 (upd (G 5 1) v6.toNatClampNeg v5) → (∀ G_12 : GH, G_12 = gs G_11 5 0 (upd (G_11 5 0) 6 ((G_11 5 0 6) + (1 : Int32))) → P8 v2 v3 v4 (v5 + (1 : Int32)) G_12)))
def lb_X5_rank_71 (post : GH → Prop) (P8 : Int32 → Int32 → Int32 → Int32 → GH → Prop) (o1 : Nat) (P71 : Int32 → Int32 → Int32 → Int32 → Int32 → GH → Prop) (v2 v3 v4 v5 v6 : Int32) (G : GH) : Prop :=
  ((v6 ≤ 0 → j_X5_rank_122 post P8 o1 v2 v3 v4 v5 v6 G) ∧ (¬ v6 ≤ 0 → (vp_in (v6 - (1 : Int32)) 13 ∧ (vp_in (G 5 1 (v6 - (1 : Int32)).toNatClampNeg) 13 ∧ (vp_in v5 13 ∧ (((G 5 6 (G 5 1 (v6 - (1 : Int32)).toNatClampNeg).toNatClampNeg) ≤ (G 5 6 v5.toNatClampNeg) → j_X5_rank_122 post P8 o1 v2 v3 v4 v5 v6 G) ∧ (¬ (G 5 6 (G 5 1 (v6 - (1 : Int32)).toNatClampNeg).toNatClampNeg) ≤ (G 5 6 v5.toNatClampNeg) → (vp_in (v6 - (1 : Int32)) 13 ∧ (vp_in v6 13 ∧ (∀ G_14 : GH, G_14 = gs G 5 1 (upd (G 5 1) v6.toNatClampNeg (G 5 1 (v6 - (1 : Int32)).toNatClampNeg)) → P71 v2 v3 v4 v5 (v6 + (-1 : Int32)) G_14))))))))))
def lp_X5_rank_71 (post : GH → Prop) (P8 : Int32 → Int32 → Int32 → Int32 → GH → Prop) (o1 : Nat) (v2 v3 v4 v5 v6 : Int32) (G : GH) : Prop := ∀ P71 : Int32 → Int32 → Int32 → Int32 → Int32 → GH → Prop, (∀ (v2 v3 v4 v5 v6 : Int32) (G : GH), lb_X5_rank_71 post P8 o1 P71 v2 v3 v4 v5 v6 G → P71 v2 v3 v4 v5 v6 G) → P71 v2 v3 v4 v5 v6 G
def j_X5_rank_53 (post : GH → Prop) (P8 : Int32 → Int32 → Int32 → Int32 → GH → Prop) (o1 : Nat) (v2 v3 v4 v5 s1 s2 : Int32) (G : GH) : Prop :=
  (vp_in s1 13 ∧ (∀ G_7 : GH, G_7 = gs G 5 6 (upd (G 5 6) s1.toNatClampNeg s2) → (vp_in v5 13 ∧ (((G_7 5 6 v5.toNatClampNeg) = (-1 : Int32) → P8 v2 v3 v4 (v5 + (1 : Int32)) G_7) ∧ (¬ (G_7 5 6 v5.toNatClampNeg) = (-1 : Int32) → (∀ y_9 : Int32, y_9 = (G_7 5 0 6) → lp_X5_rank_71 post P8 o1 v2 v3 v4 v5 y_9 G_7))))))
def lb_X5_rank_8 (post : GH → Prop) (o1 : Nat) (P8 : Int32 → Int32 → Int32 → Int32 → GH → Prop) (v2 v3 v4 v5 : Int32) (G : GH) : Prop :=
  (((G o1 0 1) ≤ v5 → post G) ∧ (¬ (G o1 0 1) ≤ v5 → (vp_in v5 13 ∧ (∀ G_3 : GH, G_3 = gs G 5 2 (upd (G 5 2) v5.toNatClampNeg (-1 : Int32)) → wp_X7_isIn (fun (b_5 : Bool) (G_4 : GH) => ((b_5 = false → j_X5_rank_53 post P8 o1 v2 v3 v4 v5 v5 (-1 : Int32) G_4) ∧ (b_5 = true → wp_X4_priorityOf (fun (r_16 : Int32) (G_15 : GH) => j_X5_rank_53 post P8 o1 v2 v3 v4 v5 v5 r_16 G_15) o1 v5 v2 v3 G_4))) v5 v4 G_3))))
def lp_X5_rank_8 (post : GH → Prop) (o1 : Nat) (v2 v3 v4 v5 : Int32) (G : GH) : Prop := ∀ P8 : Int32 → Int32 → Int32 → Int32 → GH → Prop, (∀ (v2 v3 v4 v5 : Int32) (G : GH), lb_X5_rank_8 post o1 P8 v2 v3 v4 v5 G → P8 v2 v3 v4 v5 G) → P8 v2 v3 v4 v5 G
def wp_X5_rank (post : GH → Prop) (o1 : Nat) (x2 x3 x4 : Int32) (G : GH) : Prop :=
  (∀ G_1 : GH, G_1 = gs G 5 0 (upd (G 5 0) 6 (0 : Int32)) → lp_X5_rank_8 post o1 x2 x3 x4 (0 : Int32) G_1)
set_option maxRecDepth 100000 in
set_option maxHeartbeats 4000000 in
theorem kj_X5_rank_122 {E : Ev} {X : Cx} {post : GH → Prop} {P8 : Int32 → Int32 → Int32 → Int32 → GH → Prop} {o1 : Nat} {v2 v3 v4 v5 v6 : Int32} {G : GH} (F : Fx E X "MarkField$Standing" cX5_rank 7) (T : RT E X 3 0 0 none (pV post)) (ho1 : stt o1 = true) (hc1 : oc o1 = 4) (K8 : ∀ (v2 v3 v4 v5 : Int32) (G : GH), P8 v2 v3 v4 v5 G → AW E X 7 8 [(0, .ref (sdX X 5 0)), (1, .ref (sdX X o1 0)), (2, .int v2), (3, .int v3), (4, .int v4), (5, .int v5)] [] G 0 0) (h : j_X5_rank_122 post P8 o1 v2 v3 v4 v5 v6 G) : AW E X 7 122 [(0, .ref (sdX X 5 0)), (1, .ref (sdX X o1 0)), (2, .int v2), (3, .int v3), (4, .int v4), (5, .int v5), (6, .int v6)] [] G 0 0 := by
  have hP := F.P
  refine aw_al_n F 0 dX5_rank_122 rfl rfl ?_
  refine gr5_0 F (lo_s rfl) (hP _ rfl) rfl w_209 (hP _ rfl) dX5_rank_123 ?_
  refine aw_il F 6 dX5_rank_126 rfl ?_
  refine aw_il F 5 dX5_rank_128 rfl ?_
  refine aw_iast F 5 1 (lo_s rfl) (hP _ rfl) rfl h.1 dX5_rank_130 ?_
  refine aw_nG (fun G_11 eG_11 => ?_)
  replace h := h.2 G_11 eG_11
  refine aw_al_n F 0 dX5_rank_131 rfl rfl ?_
  refine aw_dup F dX5_rank_132 rfl ?_
  refine gf5_6 F (lo_s rfl) (hP _ rfl) rfl w_221 dX5_rank_133 ?_
  refine aw_ic F dX5_rank_136 ic_1 ?_
  refine aw_iadd F dX5_rank_137 ?_
  refine pf5_6 F (lo_s rfl) (hP _ rfl) rfl w_221 dX5_rank_138 (fun G_12 eG_12 => ?_)
  replace h := h G_12 eG_12
  refine aw_inc (lv1 := [(5, .int (v5 + (1 : Int32))), (0, .ref (sdX X 5 0)), (1, .ref (sdX X o1 0)), (2, .int v2), (3, .int v3), (4, .int v4), (6, .int v6)]) F 5 dX5_rank_141 rfl (in_1 _) (by decide) rfl ?_
  refine aw_go (tgt := 8) F dX5_rank_144 (by decide) ?_
  refine aw_sub [1, 2, 3, 4, 5, 0] rfl ?_
  exact K8 _ _ _ _ _ h
set_option maxRecDepth 100000 in
set_option maxHeartbeats 4000000 in
theorem kl_X5_rank_71 {E : Ev} {X : Cx} {post : GH → Prop} {P8 : Int32 → Int32 → Int32 → Int32 → GH → Prop} {o1 : Nat} {v2 v3 v4 v5 v6 : Int32} {G : GH} (F : Fx E X "MarkField$Standing" cX5_rank 7) (T : RT E X 3 0 0 none (pV post)) (ho1 : stt o1 = true) (hc1 : oc o1 = 4) (K8 : ∀ (v2 v3 v4 v5 : Int32) (G : GH), P8 v2 v3 v4 v5 G → AW E X 7 8 [(0, .ref (sdX X 5 0)), (1, .ref (sdX X o1 0)), (2, .int v2), (3, .int v3), (4, .int v4), (5, .int v5)] [] G 0 0) (h : lp_X5_rank_71 post P8 o1 v2 v3 v4 v5 v6 G) : AW E X 7 71 [(0, .ref (sdX X 5 0)), (1, .ref (sdX X o1 0)), (2, .int v2), (3, .int v3), (4, .int v4), (5, .int v5), (6, .int v6)] [] G 0 0 := by
  have hP := F.P
  have K71 : ∀ (v2 v3 v4 v5 v6 : Int32) (G : GH), AW E X 7 71 [(0, .ref (sdX X 5 0)), (1, .ref (sdX X o1 0)), (2, .int v2), (3, .int v3), (4, .int v4), (5, .int v5), (6, .int v6)] [] G 0 0 → AW E X 7 71 [(0, .ref (sdX X 5 0)), (1, .ref (sdX X o1 0)), (2, .int v2), (3, .int v3), (4, .int v4), (5, .int v5), (6, .int v6)] [] G 0 0 := fun _ _ _ _ _ _ q => q
  refine h (fun (v2 v3 v4 v5 v6 : Int32) (G : GH) => AW E X 7 71 [(0, .ref (sdX X 5 0)), (1, .ref (sdX X o1 0)), (2, .int v2), (3, .int v3), (4, .int v4), (5, .int v5), (6, .int v6)] [] G 0 0) (fun (v2 v3 v4 v5 v6 : Int32) (G : GH) h => ?_)
  refine aw_il F 6 dX5_rank_71 rfl ?_
  refine aw_if_le (tgt := 122) F dX5_rank_73 (by decide) (fun c_10 => ?_) (fun c_10 => ?_)
  · replace h := h.1 c_10
    exact kj_X5_rank_122 F T ho1 hc1 K8 h
  · replace h := h.2 c_10
    refine aw_al_n F 0 dX5_rank_76 rfl rfl ?_
    refine gr5_5 F (lo_s rfl) (hP _ rfl) rfl w_220 (hP _ rfl) dX5_rank_77 ?_
    refine aw_al_n F 0 dX5_rank_80 rfl rfl ?_
    refine gr5_0 F (lo_s rfl) (hP _ rfl) rfl w_209 (hP _ rfl) dX5_rank_81 ?_
    refine aw_il F 6 dX5_rank_84 rfl ?_
    refine aw_ic F dX5_rank_86 ic_1 ?_
    refine aw_isub F dX5_rank_87 ?_
    refine aw_iald F 5 1 (lo_s rfl) (hP _ rfl) rfl h.1 dX5_rank_88 ?_
    replace h := h.2
    refine aw_iald F 5 6 (lo_s rfl) (hP _ rfl) rfl h.1 dX5_rank_89 ?_
    replace h := h.2
    refine aw_al_n F 0 dX5_rank_90 rfl rfl ?_
    refine gr5_5 F (lo_s rfl) (hP _ rfl) rfl w_220 (hP _ rfl) dX5_rank_91 ?_
    refine aw_il F 5 dX5_rank_94 rfl ?_
    refine aw_iald F 5 6 (lo_s rfl) (hP _ rfl) rfl h.1 dX5_rank_96 ?_
    replace h := h.2
    refine aw_icmp_le (tgt := 122) F dX5_rank_97 (by decide) (fun c_13 => ?_) (fun c_13 => ?_)
    · replace h := h.1 c_13
      exact kj_X5_rank_122 F T ho1 hc1 K8 h
    · replace h := h.2 c_13
      refine aw_al_n F 0 dX5_rank_100 rfl rfl ?_
      refine gr5_0 F (lo_s rfl) (hP _ rfl) rfl w_209 (hP _ rfl) dX5_rank_101 ?_
      refine aw_il F 6 dX5_rank_104 rfl ?_
      refine aw_al_n F 0 dX5_rank_106 rfl rfl ?_
      refine gr5_0 F (lo_s rfl) (hP _ rfl) rfl w_209 (hP _ rfl) dX5_rank_107 ?_
      refine aw_il F 6 dX5_rank_110 rfl ?_
      refine aw_ic F dX5_rank_112 ic_1 ?_
      refine aw_isub F dX5_rank_113 ?_
      refine aw_iald F 5 1 (lo_s rfl) (hP _ rfl) rfl h.1 dX5_rank_114 ?_
      replace h := h.2
      refine aw_iast F 5 1 (lo_s rfl) (hP _ rfl) rfl h.1 dX5_rank_115 ?_
      refine aw_nG (fun G_14 eG_14 => ?_)
      replace h := h.2 G_14 eG_14
      refine aw_inc (lv1 := [(6, .int (v6 + (-1 : Int32))), (0, .ref (sdX X 5 0)), (1, .ref (sdX X o1 0)), (2, .int v2), (3, .int v3), (4, .int v4), (5, .int v5)]) F 6 dX5_rank_116 rfl (in_m1 _) (by decide) rfl ?_
      refine aw_go (tgt := 71) F dX5_rank_119 (by decide) ?_
      refine aw_sub [1, 2, 3, 4, 5, 6, 0] rfl ?_
      exact K71 _ _ _ _ _ _ h
set_option maxRecDepth 100000 in
set_option maxHeartbeats 4000000 in
theorem kj_X5_rank_53 {E : Ev} {X : Cx} {post : GH → Prop} {P8 : Int32 → Int32 → Int32 → Int32 → GH → Prop} {o1 : Nat} {v2 v3 v4 v5 s1 s2 : Int32} {G : GH} (F : Fx E X "MarkField$Standing" cX5_rank 7) (T : RT E X 3 0 0 none (pV post)) (ho1 : stt o1 = true) (hc1 : oc o1 = 4) (K8 : ∀ (v2 v3 v4 v5 : Int32) (G : GH), P8 v2 v3 v4 v5 G → AW E X 7 8 [(0, .ref (sdX X 5 0)), (1, .ref (sdX X o1 0)), (2, .int v2), (3, .int v3), (4, .int v4), (5, .int v5)] [] G 0 0) (h : j_X5_rank_53 post P8 o1 v2 v3 v4 v5 s1 s2 G) : AW E X 7 53 [(0, .ref (sdX X 5 0)), (1, .ref (sdX X o1 0)), (2, .int v2), (3, .int v3), (4, .int v4), (5, .int v5)] [.int s2, .int s1, .ref (sdX X 5 6)] G 0 0 := by
  have hP := F.P
  refine aw_iast F 5 6 (lo_s rfl) (hP _ rfl) rfl h.1 dX5_rank_53 ?_
  refine aw_nG (fun G_7 eG_7 => ?_)
  replace h := h.2 G_7 eG_7
  refine aw_al_n F 0 dX5_rank_54 rfl rfl ?_
  refine gr5_5 F (lo_s rfl) (hP _ rfl) rfl w_220 (hP _ rfl) dX5_rank_55 ?_
  refine aw_il F 5 dX5_rank_58 rfl ?_
  refine aw_iald F 5 6 (lo_s rfl) (hP _ rfl) rfl h.1 dX5_rank_60 ?_
  replace h := h.2
  refine aw_ic F dX5_rank_61 ic_m1 ?_
  refine aw_icmp_eq (tgt := 141) F dX5_rank_62 (by decide) (fun c_8 => ?_) (fun c_8 => ?_)
  · replace h := h.1 c_8
    refine aw_inc (lv1 := [(5, .int (v5 + (1 : Int32))), (0, .ref (sdX X 5 0)), (1, .ref (sdX X o1 0)), (2, .int v2), (3, .int v3), (4, .int v4)]) F 5 dX5_rank_141 rfl (in_1 _) (by decide) rfl ?_
    refine aw_go (tgt := 8) F dX5_rank_144 (by decide) ?_
    refine aw_sub [1, 2, 3, 4, 5, 0] rfl ?_
    exact K8 _ _ _ _ _ h
  · replace h := h.2 c_8
    refine aw_al_n F 0 dX5_rank_65 rfl rfl ?_
    refine gf5_6 F (lo_s rfl) (hP _ rfl) rfl w_221 dX5_rank_66 ?_
    refine aw_top (fun y_9 ey_9 => ?_)
    replace h := h y_9 ey_9
    refine aw_is (lv1 := [(6, .int y_9), (0, .ref (sdX X 5 0)), (1, .ref (sdX X o1 0)), (2, .int v2), (3, .int v3), (4, .int v4), (5, .int v5)]) F dX5_rank_69 (by decide) rfl ?_
    refine aw_sub [1, 2, 3, 4, 5, 6, 0] rfl ?_
    exact kl_X5_rank_71 F T ho1 hc1 K8 h
set_option maxRecDepth 100000 in
set_option maxHeartbeats 4000000 in
theorem kl_X5_rank_8 {E : Ev} {X : Cx} {post : GH → Prop} {o1 : Nat} {v2 v3 v4 v5 : Int32} {G : GH} (F : Fx E X "MarkField$Standing" cX5_rank 7) (T : RT E X 3 0 0 none (pV post)) (ho1 : stt o1 = true) (hc1 : oc o1 = 4) (h : lp_X5_rank_8 post o1 v2 v3 v4 v5 G) : AW E X 7 8 [(0, .ref (sdX X 5 0)), (1, .ref (sdX X o1 0)), (2, .int v2), (3, .int v3), (4, .int v4), (5, .int v5)] [] G 0 0 := by
  have hP := F.P
  have K8 : ∀ (v2 v3 v4 v5 : Int32) (G : GH), AW E X 7 8 [(0, .ref (sdX X 5 0)), (1, .ref (sdX X o1 0)), (2, .int v2), (3, .int v3), (4, .int v4), (5, .int v5)] [] G 0 0 → AW E X 7 8 [(0, .ref (sdX X 5 0)), (1, .ref (sdX X o1 0)), (2, .int v2), (3, .int v3), (4, .int v4), (5, .int v5)] [] G 0 0 := fun _ _ _ _ _ q => q
  refine h (fun (v2 v3 v4 v5 : Int32) (G : GH) => AW E X 7 8 [(0, .ref (sdX X 5 0)), (1, .ref (sdX X o1 0)), (2, .int v2), (3, .int v3), (4, .int v4), (5, .int v5)] [] G 0 0) (fun (v2 v3 v4 v5 : Int32) (G : GH) h => ?_)
  refine aw_il F 5 dX5_rank_8 rfl ?_
  refine aw_al_n F 1 dX5_rank_10 rfl rfl ?_
  refine gf4_1 F (lo_s ho1) (hP _ ho1) hc1 w_84 dX5_rank_11 ?_
  refine aw_icmp_ge (tgt := 147) F dX5_rank_14 (by decide) (fun c_2 => ?_) (fun c_2 => ?_)
  · replace h := h.1 c_2
    exact aw_vret F T (Nat.le_of_ble_eq_true rfl) (Nat.le_of_ble_eq_true rfl) ⟨rfl, h⟩ dX5_rank_147
  · replace h := h.2 c_2
    refine aw_al_n F 0 dX5_rank_17 rfl rfl ?_
    refine gr5_1 F (lo_s rfl) (hP _ rfl) rfl w_211 (hP _ rfl) dX5_rank_18 ?_
    refine aw_il F 5 dX5_rank_21 rfl ?_
    refine aw_ic F dX5_rank_23 ic_m1 ?_
    refine aw_iast F 5 2 (lo_s rfl) (hP _ rfl) rfl h.1 dX5_rank_24 ?_
    refine aw_nG (fun G_3 eG_3 => ?_)
    replace h := h.2 G_3 eG_3
    refine aw_al_n F 0 dX5_rank_25 rfl rfl ?_
    refine gr5_5 F (lo_s rfl) (hP _ rfl) rfl w_220 (hP _ rfl) dX5_rank_26 ?_
    refine aw_il F 5 dX5_rank_29 rfl ?_
    refine aw_il F 5 dX5_rank_31 rfl ?_
    refine aw_il F 4 dX5_rank_33 rfl ?_
    refine aw_cSNb (stk := [.int v5, .ref (sdX X 5 6)]) F T.room [.int v5, .int v4] (k_X7_isIn hP h) ms_X7_isIn (by decide) rfl rfl (Nat.le_of_ble_eq_true rfl) ⟨(Nat.le_of_ble_eq_true rfl), (Nat.le_of_ble_eq_true rfl)⟩ ⟨(Nat.le_of_ble_eq_true rfl), (Nat.le_of_ble_eq_true rfl)⟩ dX5_rank_35 (fun b_5 G_4 h => ?_)
    refine aw_if_eq (tgt := 52) F dX5_rank_38 (by decide) (fun c_6 => ?_) (fun c_6 => ?_)
    · replace h := h.1 (bI_2 c_6)
      refine aw_ic F dX5_rank_52 ic_m1 ?_
      exact kj_X5_rank_53 F T ho1 hc1 K8 h
    · replace h := h.2 (bI_1 c_6)
      refine aw_al_n F 1 dX5_rank_41 rfl rfl ?_
      refine aw_il F 5 dX5_rank_42 rfl ?_
      refine aw_il_n F 2 dX5_rank_44 rfl rfl ?_
      refine aw_il_n F 3 dX5_rank_45 rfl rfl ?_
      refine aw_cVi (stk := [.int v5, .ref (sdX X 5 6)]) F T.room [.int v5, .int v2, .int v3] (k_X4_priorityOf hP ho1 hc1 h) mv_X4_priorityOf w_853 cf4 (lo_s ho1) (hP _ ho1) hc1 (by decide) rfl rfl (Nat.le_of_ble_eq_true rfl) ⟨(Nat.le_of_ble_eq_true rfl), (Nat.le_of_ble_eq_true rfl)⟩ ⟨(Nat.le_of_ble_eq_true rfl), (Nat.le_of_ble_eq_true rfl)⟩ dX5_rank_46 (fun r_16 G_15 h => ?_)
      refine aw_go (tgt := 53) F dX5_rank_49 (by decide) ?_
      exact kj_X5_rank_53 F T ho1 hc1 K8 h
set_option maxRecDepth 100000 in
set_option maxHeartbeats 4000000 in
theorem k_X5_rank {l : Launch} {E : Ev} {P : Nat → Prop} {sd : Nat → Nat → Nat} {G : GH} {post : GH → Prop} {o1 : Nat} {x2 x3 x4 : Int32} (hPP : ∀ o, stt o = true → P o) (ho1 : stt o1 = true) (hc1 : oc o1 = 4) (h : wp_X5_rank post o1 x2 x3 x4 G) : Ct l yX5_rank cX5_rank 7 none 3 0 0 E P sd G [.ref (sd 5 0), .ref (sd o1 0), .int x2, .int x3, .int x4] (pV post) := by
  refine ct_of (own := "MarkField$Standing") (by decide) rfl (Nat.le_of_ble_eq_true rfl) hPP (fun X F T el eP es => ?_)
  subst el; subst eP; subst es
  have hP := F.P
  change AW E X 7 0 [(0, .ref (sdX X 5 0)), (1, .ref (sdX X o1 0)), (2, .int x2), (3, .int x3), (4, .int x4)] [] G 0 0
  refine aw_al_n F 0 dX5_rank_0 rfl rfl ?_
  refine aw_ic F dX5_rank_1 ic_0 ?_
  refine pf5_6 F (lo_s rfl) (hP _ rfl) rfl w_221 dX5_rank_2 (fun G_1 eG_1 => ?_)
  replace h := h G_1 eG_1
  refine aw_ic F dX5_rank_5 ic_0 ?_
  refine aw_is (lv1 := [(5, .int (0 : Int32)), (0, .ref (sdX X 5 0)), (1, .ref (sdX X o1 0)), (2, .int x2), (3, .int x3), (4, .int x4)]) F dX5_rank_6 (by decide) rfl ?_
  refine aw_sub [1, 2, 3, 4, 5, 0] rfl ?_
  exact kl_X5_rank_8 F T ho1 hc1 h
-- X5_mostSenior (height 1)
def lb_X5_mostSenior_2 (post : Int32 → GH → Prop) (P2 : Int32 → Int32 → GH → Prop) (v1 v2 : Int32) (G : GH) : Prop :=
  (((G 5 0 6) ≤ v2 → post (-1 : Int32) G) ∧ (¬ (G 5 0 6) ≤ v2 → (vp_in v2 13 ∧ wp_X7_isIn (fun (b_3 : Bool) (G_2 : GH) => ((b_3 = false → P2 v1 (v2 + (1 : Int32)) G_2) ∧ (b_3 = true → (vp_in v2 13 ∧ post (G_2 5 1 v2.toNatClampNeg) G_2)))) (G 5 1 v2.toNatClampNeg) v1 G)))
def lp_X5_mostSenior_2 (post : Int32 → GH → Prop) (v1 v2 : Int32) (G : GH) : Prop := ∀ P2 : Int32 → Int32 → GH → Prop, (∀ (v1 v2 : Int32) (G : GH), lb_X5_mostSenior_2 post P2 v1 v2 G → P2 v1 v2 G) → P2 v1 v2 G
def wp_X5_mostSenior (post : Int32 → GH → Prop) (x1 : Int32) (G : GH) : Prop :=
  lp_X5_mostSenior_2 post x1 (0 : Int32) G
set_option maxRecDepth 100000 in
set_option maxHeartbeats 4000000 in
theorem kl_X5_mostSenior_2 {E : Ev} {X : Cx} {post : Int32 → GH → Prop} {v1 v2 : Int32} {G : GH} (F : Fx E X "MarkField$Standing" cX5_mostSenior 3) (T : RT E X 1 0 0 (some .int) (pI post)) (h : lp_X5_mostSenior_2 post v1 v2 G) : AW E X 3 2 [(0, .ref (sdX X 5 0)), (1, .int v1), (2, .int v2)] [] G 0 0 := by
  have hP := F.P
  have K2 : ∀ (v1 v2 : Int32) (G : GH), AW E X 3 2 [(0, .ref (sdX X 5 0)), (1, .int v1), (2, .int v2)] [] G 0 0 → AW E X 3 2 [(0, .ref (sdX X 5 0)), (1, .int v1), (2, .int v2)] [] G 0 0 := fun _ _ _ q => q
  refine h (fun (v1 v2 : Int32) (G : GH) => AW E X 3 2 [(0, .ref (sdX X 5 0)), (1, .int v1), (2, .int v2)] [] G 0 0) (fun (v1 v2 : Int32) (G : GH) h => ?_)
  refine aw_il_n F 2 dX5_mostSenior_2 rfl rfl ?_
  refine aw_al_n F 0 dX5_mostSenior_3 rfl rfl ?_
  refine gf5_6 F (lo_s rfl) (hP _ rfl) rfl w_221 dX5_mostSenior_4 ?_
  refine aw_icmp_ge (tgt := 36) F dX5_mostSenior_7 (by decide) (fun c_1 => ?_) (fun c_1 => ?_)
  · replace h := h.1 c_1
    refine aw_ic F dX5_mostSenior_36 ic_m1 ?_
    exact aw_iret F T (Nat.le_of_ble_eq_true rfl) (Nat.le_of_ble_eq_true rfl) ⟨_, rfl, h⟩ dX5_mostSenior_37
  · replace h := h.2 c_1
    refine aw_al_n F 0 dX5_mostSenior_10 rfl rfl ?_
    refine gr5_0 F (lo_s rfl) (hP _ rfl) rfl w_209 (hP _ rfl) dX5_mostSenior_11 ?_
    refine aw_il_n F 2 dX5_mostSenior_14 rfl rfl ?_
    refine aw_iald F 5 1 (lo_s rfl) (hP _ rfl) rfl h.1 dX5_mostSenior_15 ?_
    replace h := h.2
    refine aw_il_n F 1 dX5_mostSenior_16 rfl rfl ?_
    refine aw_cSNb (stk := []) F T.room [.int (G 5 1 v2.toNatClampNeg), .int v1] (k_X7_isIn hP h) ms_X7_isIn (by decide) rfl rfl (Nat.le_of_ble_eq_true rfl) ⟨(Nat.le_of_ble_eq_true rfl), (Nat.le_of_ble_eq_true rfl)⟩ ⟨(Nat.le_of_ble_eq_true rfl), (Nat.le_of_ble_eq_true rfl)⟩ dX5_mostSenior_17 (fun b_3 G_2 h => ?_)
    refine aw_if_eq (tgt := 30) F dX5_mostSenior_20 (by decide) (fun c_4 => ?_) (fun c_4 => ?_)
    · replace h := h.1 (bI_2 c_4)
      refine aw_inc (lv1 := [(2, .int (v2 + (1 : Int32))), (0, .ref (sdX X 5 0)), (1, .int v1)]) F 2 dX5_mostSenior_30 rfl (in_1 _) (by decide) rfl ?_
      refine aw_go (tgt := 2) F dX5_mostSenior_33 (by decide) ?_
      refine aw_sub [1, 2, 0] rfl ?_
      exact K2 _ _ _ h
    · replace h := h.2 (bI_1 c_4)
      refine aw_al_n F 0 dX5_mostSenior_23 rfl rfl ?_
      refine gr5_0 F (lo_s rfl) (hP _ rfl) rfl w_209 (hP _ rfl) dX5_mostSenior_24 ?_
      refine aw_il_n F 2 dX5_mostSenior_27 rfl rfl ?_
      refine aw_iald F 5 1 (lo_s rfl) (hP _ rfl) rfl h.1 dX5_mostSenior_28 ?_
      replace h := h.2
      exact aw_iret F T (Nat.le_of_ble_eq_true rfl) (Nat.le_of_ble_eq_true rfl) ⟨_, rfl, h⟩ dX5_mostSenior_29
set_option maxRecDepth 100000 in
set_option maxHeartbeats 4000000 in
theorem k_X5_mostSenior {l : Launch} {E : Ev} {P : Nat → Prop} {sd : Nat → Nat → Nat} {G : GH} {post : Int32 → GH → Prop} {x1 : Int32} (hPP : ∀ o, stt o = true → P o) (h : wp_X5_mostSenior post x1 G) : Ct l yX5_mostSenior cX5_mostSenior 3 (some .int) 1 0 0 E P sd G [.ref (sd 5 0), .int x1] (pI post) := by
  refine ct_of (own := "MarkField$Standing") (by decide) rfl (Nat.le_of_ble_eq_true rfl) hPP (fun X F T el eP es => ?_)
  subst el; subst eP; subst es
  have hP := F.P
  change AW E X 3 0 [(0, .ref (sdX X 5 0)), (1, .int x1)] [] G 0 0
  refine aw_ic F dX5_mostSenior_0 ic_0 ?_
  refine aw_is_n (lv1 := [(2, .int (0 : Int32)), (0, .ref (sdX X 5 0)), (1, .int x1)]) F dX5_mostSenior_1 rfl (by decide) rfl ?_
  refine aw_sub [1, 2, 0] rfl ?_
  exact kl_X5_mostSenior_2 F T h
-- X5_settle (height 4)
def lb_X5_settle_18 (post : GH → Prop) (o1 : Nat) (o2 : Nat) (P18 : Int32 → GH → Prop) (v6 : Int32) (G : GH) : Prop :=
  (((G 5 0 6) ≤ v6 → post G) ∧ (¬ (G 5 0 6) ≤ v6 → (vp_in v6 13 ∧ (∀ y_5 : Int32, y_5 = (G 5 1 v6.toNatClampNeg) → (vp_in y_5 13 ∧ (vp_in y_5 13 ∧ (∀ y_6 : Int32, y_6 = (((G o2 7 y_5.toNatClampNeg) &&& ((G o1 9 y_5.toNatClampNeg) ^^^ (-1 : Int32))) &&& (G 5 0 7)) → ((y_6 = 0 → (∀ G_11 : GH, G_11 = gs G 5 0 (upd (G 5 0) 7 ((G 5 0 7) ||| ((1 : Int32) <<< (y_5 &&& 31)))) → P18 (v6 + (1 : Int32)) G_11)) ∧ (¬ y_6 = 0 → wp_X5_mostSenior (fun (r_9 : Int32) (G_8 : GH) => (vp_in y_5 13 ∧ (∀ G_10 : GH, G_10 = gs G_8 5 2 (upd (G_8 5 2) y_5.toNatClampNeg r_9) → P18 (v6 + (1 : Int32)) G_10))) y_6 G)))))))))
def lp_X5_settle_18 (post : GH → Prop) (o1 : Nat) (o2 : Nat) (v6 : Int32) (G : GH) : Prop := ∀ P18 : Int32 → GH → Prop, (∀ (v6 : Int32) (G : GH), lb_X5_settle_18 post o1 o2 P18 v6 G → P18 v6 G) → P18 v6 G
def wp_X5_settle (post : GH → Prop) (o1 : Nat) (o2 : Nat) (x3 x4 x5 : Int32) (G : GH) : Prop :=
  wp_X5_rank (fun (G_1 : GH) => (∀ G_3 : GH, G_3 = gs G_1 5 0 (upd (G_1 5 0) 7 (0 : Int32)) → lp_X5_settle_18 post o1 o2 (0 : Int32) G_3)) o1 x3 x4 x5 G
set_option maxRecDepth 100000 in
set_option maxHeartbeats 4000000 in
theorem kl_X5_settle_18 {E : Ev} {X : Cx} {post : GH → Prop} {o1 : Nat} {o2 : Nat} {v6 : Int32} {G : GH} (F : Fx E X "MarkField$Standing" cX5_settle 9) (T : RT E X 4 0 0 none (pV post)) (ho1 : stt o1 = true) (hc1 : oc o1 = 4) (ho2 : stt o2 = true) (hc2 : oc o2 = 1) (h : lp_X5_settle_18 post o1 o2 v6 G) : AW E X 9 18 [(0, .ref (sdX X 5 0)), (1, .ref (sdX X o1 0)), (2, .ref (sdX X o2 0)), (6, .int v6)] [] G 0 0 := by
  have hP := F.P
  have K18 : ∀ (v6 : Int32) (G : GH), AW E X 9 18 [(0, .ref (sdX X 5 0)), (1, .ref (sdX X o1 0)), (2, .ref (sdX X o2 0)), (6, .int v6)] [] G 0 0 → AW E X 9 18 [(0, .ref (sdX X 5 0)), (1, .ref (sdX X o1 0)), (2, .ref (sdX X o2 0)), (6, .int v6)] [] G 0 0 := fun _ _ q => q
  refine h (fun (v6 : Int32) (G : GH) => AW E X 9 18 [(0, .ref (sdX X 5 0)), (1, .ref (sdX X o1 0)), (2, .ref (sdX X o2 0)), (6, .int v6)] [] G 0 0) (fun (v6 : Int32) (G : GH) h => ?_)
  refine aw_il F 3 dX5_settle_18 rfl ?_
  refine aw_al_n F 0 dX5_settle_20 rfl rfl ?_
  refine gf5_6 F (lo_s rfl) (hP _ rfl) rfl w_221 dX5_settle_21 ?_
  refine aw_icmp_ge (tgt := 100) F dX5_settle_24 (by decide) (fun c_4 => ?_) (fun c_4 => ?_)
  · replace h := h.1 c_4
    exact aw_vret F T (Nat.le_of_ble_eq_true rfl) (Nat.le_of_ble_eq_true rfl) ⟨rfl, h⟩ dX5_settle_100
  · replace h := h.2 c_4
    refine aw_al_n F 0 dX5_settle_27 rfl rfl ?_
    refine gr5_0 F (lo_s rfl) (hP _ rfl) rfl w_209 (hP _ rfl) dX5_settle_28 ?_
    refine aw_il F 3 dX5_settle_31 rfl ?_
    refine aw_iald F 5 1 (lo_s rfl) (hP _ rfl) rfl h.1 dX5_settle_33 ?_
    replace h := h.2
    refine aw_top (fun y_5 ey_5 => ?_)
    replace h := h y_5 ey_5
    refine aw_is (lv1 := [(7, .int y_5), (0, .ref (sdX X 5 0)), (1, .ref (sdX X o1 0)), (2, .ref (sdX X o2 0)), (6, .int v6)]) F dX5_settle_34 (by decide) rfl ?_
    refine aw_al_n F 3 dX5_settle_36 rfl rfl ?_
    refine gr1_6 F (lo_s ho2) (hP _ ho2) hc2 w_183 (hP _ ho2) dX5_settle_37 ?_
    refine aw_il F 0 dX5_settle_40 rfl ?_
    refine aw_iald F o2 7 (lo_s ho2) (hP _ ho2) (al_of hc2 rfl) h.1 dX5_settle_42 ?_
    replace h := h.2
    refine aw_al_n F 2 dX5_settle_43 rfl rfl ?_
    refine gr4_8 F (lo_s ho1) (hP _ ho1) hc1 w_111 (hP _ ho1) dX5_settle_44 ?_
    refine aw_il F 0 dX5_settle_47 rfl ?_
    refine aw_iald F o1 9 (lo_s ho1) (hP _ ho1) (al_of hc1 rfl) h.1 dX5_settle_49 ?_
    replace h := h.2
    refine aw_ic F dX5_settle_50 ic_m1 ?_
    refine aw_ixor F dX5_settle_51 ?_
    refine aw_iand F dX5_settle_52 ?_
    refine aw_al_n F 1 dX5_settle_53 rfl rfl ?_
    refine gf5_7 F (lo_s rfl) (hP _ rfl) rfl w_223 dX5_settle_54 ?_
    refine aw_iand F dX5_settle_57 ?_
    refine aw_top (fun y_6 ey_6 => ?_)
    replace h := h y_6 ey_6
    refine aw_is (lv1 := [(8, .int y_6), (7, .int y_5), (0, .ref (sdX X 5 0)), (1, .ref (sdX X o1 0)), (2, .ref (sdX X o2 0)), (6, .int v6)]) F dX5_settle_58 (by decide) rfl ?_
    refine aw_il F 0 dX5_settle_60 rfl ?_
    refine aw_if_ne (tgt := 81) F dX5_settle_62 (by decide) (fun c_7 => ?_) (fun c_7 => ?_)
    · replace h := h.2 c_7
      refine aw_al_n F 2 dX5_settle_81 rfl rfl ?_
      refine gr5_1 F (lo_s rfl) (hP _ rfl) rfl w_211 (hP _ rfl) dX5_settle_82 ?_
      refine aw_il F 1 dX5_settle_85 rfl ?_
      refine aw_al_n F 2 dX5_settle_87 rfl rfl ?_
      refine aw_il F 0 dX5_settle_88 rfl ?_
      refine aw_cVi (stk := [.int y_5, .ref (sdX X 5 2)]) F T.room [.int y_6] (k_X5_mostSenior hP h) mv_X5_mostSenior w_854 cf5 (lo_s rfl) (hP _ rfl) rfl (by decide) rfl rfl (Nat.le_of_ble_eq_true rfl) ⟨(Nat.le_of_ble_eq_true rfl), (Nat.le_of_ble_eq_true rfl)⟩ ⟨(Nat.le_of_ble_eq_true rfl), (Nat.le_of_ble_eq_true rfl)⟩ dX5_settle_90 (fun r_9 G_8 h => ?_)
      refine aw_iast F 5 2 (lo_s rfl) (hP _ rfl) rfl h.1 dX5_settle_93 ?_
      refine aw_nG (fun G_10 eG_10 => ?_)
      replace h := h.2 G_10 eG_10
      refine aw_inc (lv1 := [(6, .int (v6 + (1 : Int32))), (8, .int y_6), (7, .int y_5), (0, .ref (sdX X 5 0)), (1, .ref (sdX X o1 0)), (2, .ref (sdX X o2 0))]) F 5 dX5_settle_94 rfl (in_1 _) (by decide) rfl ?_
      refine aw_go (tgt := 18) F dX5_settle_97 (by decide) ?_
      refine aw_sub [3, 4, 5, 0] rfl ?_
      exact K18 _ _ h
    · replace h := h.1 c_7
      refine aw_al_n F 2 dX5_settle_65 rfl rfl ?_
      refine aw_dup F dX5_settle_66 rfl ?_
      refine gf5_7 F (lo_s rfl) (hP _ rfl) rfl w_223 dX5_settle_67 ?_
      refine aw_ic F dX5_settle_70 ic_1 ?_
      refine aw_il F 1 dX5_settle_71 rfl ?_
      refine aw_ishl F dX5_settle_73 ?_
      refine aw_ior F dX5_settle_74 ?_
      refine pf5_7 F (lo_s rfl) (hP _ rfl) rfl w_223 dX5_settle_75 (fun G_11 eG_11 => ?_)
      replace h := h G_11 eG_11
      refine aw_go (tgt := 94) F dX5_settle_78 (by decide) ?_
      refine aw_inc (lv1 := [(6, .int (v6 + (1 : Int32))), (8, .int y_6), (7, .int y_5), (0, .ref (sdX X 5 0)), (1, .ref (sdX X o1 0)), (2, .ref (sdX X o2 0))]) F 5 dX5_settle_94 rfl (in_1 _) (by decide) rfl ?_
      refine aw_go (tgt := 18) F dX5_settle_97 (by decide) ?_
      refine aw_sub [3, 4, 5, 0] rfl ?_
      exact K18 _ _ h
set_option maxRecDepth 100000 in
set_option maxHeartbeats 4000000 in
theorem k_X5_settle {l : Launch} {E : Ev} {P : Nat → Prop} {sd : Nat → Nat → Nat} {G : GH} {post : GH → Prop} {o1 : Nat} {o2 : Nat} {x3 x4 x5 : Int32} (hPP : ∀ o, stt o = true → P o) (ho1 : stt o1 = true) (hc1 : oc o1 = 4) (ho2 : stt o2 = true) (hc2 : oc o2 = 1) (h : wp_X5_settle post o1 o2 x3 x4 x5 G) : Ct l yX5_settle cX5_settle 9 none 4 0 0 E P sd G [.ref (sd 5 0), .ref (sd o1 0), .ref (sd o2 0), .int x3, .int x4, .int x5] (pV post) := by
  refine ct_of (own := "MarkField$Standing") (by decide) rfl (Nat.le_of_ble_eq_true rfl) hPP (fun X F T el eP es => ?_)
  subst el; subst eP; subst es
  have hP := F.P
  change AW E X 9 0 [(0, .ref (sdX X 5 0)), (1, .ref (sdX X o1 0)), (2, .ref (sdX X o2 0)), (3, .int x3), (4, .int x4), (5, .int x5)] [] G 0 0
  refine aw_al_n F 0 dX5_settle_0 rfl rfl ?_
  refine aw_al_n F 1 dX5_settle_1 rfl rfl ?_
  refine aw_il_n F 3 dX5_settle_2 rfl rfl ?_
  refine aw_il F 4 dX5_settle_3 rfl ?_
  refine aw_il F 5 dX5_settle_5 rfl ?_
  refine aw_cVv (stk := []) F T.room [.ref (sdX X o1 0), .int x3, .int x4, .int x5] (k_X5_rank hP ho1 hc1 h) mv_X5_rank w_848 cf5 (lo_s rfl) (hP _ rfl) rfl (by decide) rfl rfl (Nat.le_of_ble_eq_true rfl) ⟨(Nat.le_of_ble_eq_true rfl), (Nat.le_of_ble_eq_true rfl)⟩ ⟨(Nat.le_of_ble_eq_true rfl), (Nat.le_of_ble_eq_true rfl)⟩ dX5_settle_7 (fun G_1 h => ?_)
  refine aw_al_n F 0 dX5_settle_10 rfl rfl ?_
  refine aw_ic F dX5_settle_11 ic_0 ?_
  refine pf5_7 F (lo_s rfl) (hP _ rfl) rfl w_223 dX5_settle_12 (fun G_3 eG_3 => ?_)
  replace h := h G_3 eG_3
  refine aw_ic F dX5_settle_15 ic_0 ?_
  refine aw_is (lv1 := [(6, .int (0 : Int32)), (0, .ref (sdX X 5 0)), (1, .ref (sdX X o1 0)), (2, .ref (sdX X o2 0)), (3, .int x3), (4, .int x4), (5, .int x5)]) F dX5_settle_16 (by decide) rfl ?_
  refine aw_sub [1, 2, 3, 0] rfl ?_
  exact kl_X5_settle_18 F T ho1 hc1 ho2 hc2 h
-- X5_noteHalf (height 1)
def j_X5_noteHalf_63 (post : GH → Prop) (v1 : Int32) (G : GH) : Prop :=
  (vp_in v1 13 ∧ (vp_in v1 13 ∧ (∀ G_6 : GH, G_6 = gs G 5 5 (upd (G 5 5) v1.toNatClampNeg (G 5 2 v1.toNatClampNeg)) → post G_6)))
def wp_X5_noteHalf (post : GH → Prop) (x1 x2 : Int32) (G : GH) : Prop :=
  (vp_in x1 13 ∧ (vp_in x1 13 ∧ (∀ G_1 : GH, G_1 = gs G 5 3 (upd (G 5 3) x1.toNatClampNeg ((G 5 3 x1.toNatClampNeg) ||| ((1 : Int32) <<< (x2 &&& 31)))) → wp_X7_isIn (fun (b_3 : Bool) (G_2 : GH) => ((b_3 = false → (vp_in x1 13 ∧ (((G_2 5 5 x1.toNatClampNeg) = (-1 : Int32) → j_X5_noteHalf_63 post x1 G_2) ∧ (¬ (G_2 5 5 x1.toNatClampNeg) = (-1 : Int32) → (vp_in x1 13 ∧ (vp_in x1 13 ∧ (((G_2 5 5 x1.toNatClampNeg) ≤ (G_2 5 2 x1.toNatClampNeg) → post G_2) ∧ (¬ (G_2 5 5 x1.toNatClampNeg) ≤ (G_2 5 2 x1.toNatClampNeg) → j_X5_noteHalf_63 post x1 G_2)))))))) ∧ (b_3 = true → (vp_in x1 13 ∧ (vp_in x1 13 ∧ (∀ G_8 : GH, G_8 = gs G_2 5 4 (upd (G_2 5 4) x1.toNatClampNeg ((G_2 5 4 x1.toNatClampNeg) ||| ((1 : Int32) <<< (x2 &&& 31)))) → post G_8)))))) x1 (G_1 5 0 7) G_1)))
set_option maxRecDepth 100000 in
set_option maxHeartbeats 4000000 in
theorem kj_X5_noteHalf_63 {E : Ev} {X : Cx} {post : GH → Prop} {v1 : Int32} {G : GH} (F : Fx E X "MarkField$Standing" cX5_noteHalf 3) (T : RT E X 1 0 0 none (pV post)) (h : j_X5_noteHalf_63 post v1 G) : AW E X 3 63 [(0, .ref (sdX X 5 0)), (1, .int v1)] [] G 0 0 := by
  have hP := F.P
  refine aw_al_n F 0 dX5_noteHalf_63 rfl rfl ?_
  refine gr5_4 F (lo_s rfl) (hP _ rfl) rfl w_218 (hP _ rfl) dX5_noteHalf_64 ?_
  refine aw_il_n F 1 dX5_noteHalf_67 rfl rfl ?_
  refine aw_al_n F 0 dX5_noteHalf_68 rfl rfl ?_
  refine gr5_1 F (lo_s rfl) (hP _ rfl) rfl w_211 (hP _ rfl) dX5_noteHalf_69 ?_
  refine aw_il_n F 1 dX5_noteHalf_72 rfl rfl ?_
  refine aw_iald F 5 2 (lo_s rfl) (hP _ rfl) rfl h.1 dX5_noteHalf_73 ?_
  replace h := h.2
  refine aw_iast F 5 5 (lo_s rfl) (hP _ rfl) rfl h.1 dX5_noteHalf_74 ?_
  refine aw_nG (fun G_6 eG_6 => ?_)
  replace h := h.2 G_6 eG_6
  exact aw_vret F T (Nat.le_of_ble_eq_true rfl) (Nat.le_of_ble_eq_true rfl) ⟨rfl, h⟩ dX5_noteHalf_75
set_option maxRecDepth 100000 in
set_option maxHeartbeats 4000000 in
theorem k_X5_noteHalf {l : Launch} {E : Ev} {P : Nat → Prop} {sd : Nat → Nat → Nat} {G : GH} {post : GH → Prop} {x1 x2 : Int32} (hPP : ∀ o, stt o = true → P o) (h : wp_X5_noteHalf post x1 x2 G) : Ct l yX5_noteHalf cX5_noteHalf 3 none 1 0 0 E P sd G [.ref (sd 5 0), .int x1, .int x2] (pV post) := by
  refine ct_of (own := "MarkField$Standing") (by decide) rfl (Nat.le_of_ble_eq_true rfl) hPP (fun X F T el eP es => ?_)
  subst el; subst eP; subst es
  have hP := F.P
  change AW E X 3 0 [(0, .ref (sdX X 5 0)), (1, .int x1), (2, .int x2)] [] G 0 0
  refine aw_al_n F 0 dX5_noteHalf_0 rfl rfl ?_
  refine gr5_2 F (lo_s rfl) (hP _ rfl) rfl w_213 (hP _ rfl) dX5_noteHalf_1 ?_
  refine aw_il_n F 1 dX5_noteHalf_4 rfl rfl ?_
  refine aw_dup2 F dX5_noteHalf_5 rfl rfl ?_
  refine aw_iald F 5 3 (lo_s rfl) (hP _ rfl) rfl h.1 dX5_noteHalf_6 ?_
  replace h := h.2
  refine aw_ic F dX5_noteHalf_7 ic_1 ?_
  refine aw_il_n F 2 dX5_noteHalf_8 rfl rfl ?_
  refine aw_ishl F dX5_noteHalf_9 ?_
  refine aw_ior F dX5_noteHalf_10 ?_
  refine aw_iast F 5 3 (lo_s rfl) (hP _ rfl) rfl h.1 dX5_noteHalf_11 ?_
  refine aw_nG (fun G_1 eG_1 => ?_)
  replace h := h.2 G_1 eG_1
  refine aw_il_n F 1 dX5_noteHalf_12 rfl rfl ?_
  refine aw_al_n F 0 dX5_noteHalf_13 rfl rfl ?_
  refine gf5_7 F (lo_s rfl) (hP _ rfl) rfl w_223 dX5_noteHalf_14 ?_
  refine aw_cSNb (stk := []) F T.room [.int x1, .int (G_1 5 0 7)] (k_X7_isIn hP h) ms_X7_isIn (by decide) rfl rfl (Nat.le_of_ble_eq_true rfl) ⟨(Nat.le_of_ble_eq_true rfl), (Nat.le_of_ble_eq_true rfl)⟩ ⟨(Nat.le_of_ble_eq_true rfl), (Nat.le_of_ble_eq_true rfl)⟩ dX5_noteHalf_17 (fun b_3 G_2 h => ?_)
  refine aw_if_eq (tgt := 38) F dX5_noteHalf_20 (by decide) (fun c_4 => ?_) (fun c_4 => ?_)
  · replace h := h.1 (bI_2 c_4)
    refine aw_al_n F 0 dX5_noteHalf_38 rfl rfl ?_
    refine gr5_4 F (lo_s rfl) (hP _ rfl) rfl w_218 (hP _ rfl) dX5_noteHalf_39 ?_
    refine aw_il_n F 1 dX5_noteHalf_42 rfl rfl ?_
    refine aw_iald F 5 5 (lo_s rfl) (hP _ rfl) rfl h.1 dX5_noteHalf_43 ?_
    replace h := h.2
    refine aw_ic F dX5_noteHalf_44 ic_m1 ?_
    refine aw_icmp_eq (tgt := 63) F dX5_noteHalf_45 (by decide) (fun c_5 => ?_) (fun c_5 => ?_)
    · replace h := h.1 c_5
      refine aw_sub [0, 1] rfl ?_
      exact kj_X5_noteHalf_63 F T h
    · replace h := h.2 c_5
      refine aw_al_n F 0 dX5_noteHalf_48 rfl rfl ?_
      refine gr5_1 F (lo_s rfl) (hP _ rfl) rfl w_211 (hP _ rfl) dX5_noteHalf_49 ?_
      refine aw_il_n F 1 dX5_noteHalf_52 rfl rfl ?_
      refine aw_iald F 5 2 (lo_s rfl) (hP _ rfl) rfl h.1 dX5_noteHalf_53 ?_
      replace h := h.2
      refine aw_al_n F 0 dX5_noteHalf_54 rfl rfl ?_
      refine gr5_4 F (lo_s rfl) (hP _ rfl) rfl w_218 (hP _ rfl) dX5_noteHalf_55 ?_
      refine aw_il_n F 1 dX5_noteHalf_58 rfl rfl ?_
      refine aw_iald F 5 5 (lo_s rfl) (hP _ rfl) rfl h.1 dX5_noteHalf_59 ?_
      replace h := h.2
      refine aw_icmp_ge (tgt := 75) F dX5_noteHalf_60 (by decide) (fun c_7 => ?_) (fun c_7 => ?_)
      · replace h := h.1 c_7
        exact aw_vret F T (Nat.le_of_ble_eq_true rfl) (Nat.le_of_ble_eq_true rfl) ⟨rfl, h⟩ dX5_noteHalf_75
      · replace h := h.2 c_7
        refine aw_sub [0, 1] rfl ?_
        exact kj_X5_noteHalf_63 F T h
  · replace h := h.2 (bI_1 c_4)
    refine aw_al_n F 0 dX5_noteHalf_23 rfl rfl ?_
    refine gr5_3 F (lo_s rfl) (hP _ rfl) rfl w_215 (hP _ rfl) dX5_noteHalf_24 ?_
    refine aw_il_n F 1 dX5_noteHalf_27 rfl rfl ?_
    refine aw_dup2 F dX5_noteHalf_28 rfl rfl ?_
    refine aw_iald F 5 4 (lo_s rfl) (hP _ rfl) rfl h.1 dX5_noteHalf_29 ?_
    replace h := h.2
    refine aw_ic F dX5_noteHalf_30 ic_1 ?_
    refine aw_il_n F 2 dX5_noteHalf_31 rfl rfl ?_
    refine aw_ishl F dX5_noteHalf_32 ?_
    refine aw_ior F dX5_noteHalf_33 ?_
    refine aw_iast F 5 4 (lo_s rfl) (hP _ rfl) rfl h.1 dX5_noteHalf_34 ?_
    refine aw_nG (fun G_8 eG_8 => ?_)
    replace h := h.2 G_8 eG_8
    refine aw_go (tgt := 75) F dX5_noteHalf_35 (by decide) ?_
    exact aw_vret F T (Nat.le_of_ble_eq_true rfl) (Nat.le_of_ble_eq_true rfl) ⟨rfl, h⟩ dX5_noteHalf_75
-- X5_settleAll (height 5)
def lb_X5_settleAll_68 (post : GH → Prop) (P45 : Int32 → Int32 → Int32 → GH → Prop) (o1 : Nat) (o2 : Nat) (P68 : Int32 → Int32 → Int32 → Int32 → GH → Prop) (v3 v4 v5 v6 : Int32) (G : GH) : Prop :=
  (((G 5 0 6) ≤ v6 → P45 v3 v4 (v5 + (1 : Int32)) G) ∧ (¬ (G 5 0 6) ≤ v6 → (vp_in v6 13 ∧ wp_X5_noteHalf (fun (G_8 : GH) => P68 v3 v4 v5 (v6 + (1 : Int32)) G_8) (G 5 1 v6.toNatClampNeg) v5 G)))
def lp_X5_settleAll_68 (post : GH → Prop) (P45 : Int32 → Int32 → Int32 → GH → Prop) (o1 : Nat) (o2 : Nat) (v3 v4 v5 v6 : Int32) (G : GH) : Prop := ∀ P68 : Int32 → Int32 → Int32 → Int32 → GH → Prop, (∀ (v3 v4 v5 v6 : Int32) (G : GH), lb_X5_settleAll_68 post P45 o1 o2 P68 v3 v4 v5 v6 G → P68 v3 v4 v5 v6 G) → P68 v3 v4 v5 v6 G
def lb_X5_settleAll_45 (post : GH → Prop) (o1 : Nat) (o2 : Nat) (P45 : Int32 → Int32 → Int32 → GH → Prop) (v3 v4 v5 : Int32) (G : GH) : Prop :=
  wp_X4_halfCount (fun (r_3 : Int32) (G_2 : GH) => ((r_3 ≤ v5 → post G_2) ∧ (¬ r_3 ≤ v5 → wp_X5_settle (fun (G_5 : GH) => lp_X5_settleAll_68 post P45 o1 o2 v3 v4 v5 (0 : Int32) G_5) o1 o2 v5 v3 v4 G_2))) o1 G
def lp_X5_settleAll_45 (post : GH → Prop) (o1 : Nat) (o2 : Nat) (v3 v4 v5 : Int32) (G : GH) : Prop := ∀ P45 : Int32 → Int32 → Int32 → GH → Prop, (∀ (v3 v4 v5 : Int32) (G : GH), lb_X5_settleAll_45 post o1 o2 P45 v3 v4 v5 G → P45 v3 v4 v5 G) → P45 v3 v4 v5 G
def lb_X5_settleAll_3 (post : GH → Prop) (o1 : Nat) (o2 : Nat) (P3 : Int32 → Int32 → Int32 → GH → Prop) (v3 v4 v5 : Int32) (G : GH) : Prop :=
  (((G o1 0 1) ≤ v5 → lp_X5_settleAll_45 post o1 o2 v3 v4 (0 : Int32) G) ∧ (¬ (G o1 0 1) ≤ v5 → (vp_in v5 13 ∧ (∀ G_10 : GH, G_10 = gs G 5 3 (upd (G 5 3) v5.toNatClampNeg (0 : Int32)) → (vp_in v5 13 ∧ (∀ G_11 : GH, G_11 = gs G_10 5 4 (upd (G_10 5 4) v5.toNatClampNeg (0 : Int32)) → (vp_in v5 13 ∧ (∀ G_12 : GH, G_12 = gs G_11 5 5 (upd (G_11 5 5) v5.toNatClampNeg (-1 : Int32)) → P3 v3 v4 (v5 + (1 : Int32)) G_12))))))))
def lp_X5_settleAll_3 (post : GH → Prop) (o1 : Nat) (o2 : Nat) (v3 v4 v5 : Int32) (G : GH) : Prop := ∀ P3 : Int32 → Int32 → Int32 → GH → Prop, (∀ (v3 v4 v5 : Int32) (G : GH), lb_X5_settleAll_3 post o1 o2 P3 v3 v4 v5 G → P3 v3 v4 v5 G) → P3 v3 v4 v5 G
def wp_X5_settleAll (post : GH → Prop) (o1 : Nat) (o2 : Nat) (x3 x4 : Int32) (G : GH) : Prop :=
  lp_X5_settleAll_3 post o1 o2 x3 x4 (0 : Int32) G
set_option maxRecDepth 100000 in
set_option maxHeartbeats 4000000 in
theorem kl_X5_settleAll_68 {E : Ev} {X : Cx} {post : GH → Prop} {P45 : Int32 → Int32 → Int32 → GH → Prop} {o1 : Nat} {o2 : Nat} {v3 v4 v5 v6 : Int32} {G : GH} (F : Fx E X "MarkField$Standing" cX5_settleAll 7) (T : RT E X 5 0 0 none (pV post)) (ho1 : stt o1 = true) (hc1 : oc o1 = 4) (ho2 : stt o2 = true) (hc2 : oc o2 = 1) (K45 : ∀ (v3 v4 v5 : Int32) (G : GH), P45 v3 v4 v5 G → AW E X 7 45 [(0, .ref (sdX X 5 0)), (1, .ref (sdX X o1 0)), (2, .ref (sdX X o2 0)), (3, .int v3), (4, .int v4), (5, .int v5)] [] G 0 0) (h : lp_X5_settleAll_68 post P45 o1 o2 v3 v4 v5 v6 G) : AW E X 7 68 [(0, .ref (sdX X 5 0)), (1, .ref (sdX X o1 0)), (2, .ref (sdX X o2 0)), (3, .int v3), (4, .int v4), (5, .int v5), (6, .int v6)] [] G 0 0 := by
  have hP := F.P
  have K68 : ∀ (v3 v4 v5 v6 : Int32) (G : GH), AW E X 7 68 [(0, .ref (sdX X 5 0)), (1, .ref (sdX X o1 0)), (2, .ref (sdX X o2 0)), (3, .int v3), (4, .int v4), (5, .int v5), (6, .int v6)] [] G 0 0 → AW E X 7 68 [(0, .ref (sdX X 5 0)), (1, .ref (sdX X o1 0)), (2, .ref (sdX X o2 0)), (3, .int v3), (4, .int v4), (5, .int v5), (6, .int v6)] [] G 0 0 := fun _ _ _ _ _ q => q
  refine h (fun (v3 v4 v5 v6 : Int32) (G : GH) => AW E X 7 68 [(0, .ref (sdX X 5 0)), (1, .ref (sdX X o1 0)), (2, .ref (sdX X o2 0)), (3, .int v3), (4, .int v4), (5, .int v5), (6, .int v6)] [] G 0 0) (fun (v3 v4 v5 v6 : Int32) (G : GH) h => ?_)
  refine aw_il F 6 dX5_settleAll_68 rfl ?_
  refine aw_al_n F 0 dX5_settleAll_70 rfl rfl ?_
  refine gf5_6 F (lo_s rfl) (hP _ rfl) rfl w_221 dX5_settleAll_71 ?_
  refine aw_icmp_ge (tgt := 96) F dX5_settleAll_74 (by decide) (fun c_7 => ?_) (fun c_7 => ?_)
  · replace h := h.1 c_7
    refine aw_inc (lv1 := [(5, .int (v5 + (1 : Int32))), (0, .ref (sdX X 5 0)), (1, .ref (sdX X o1 0)), (2, .ref (sdX X o2 0)), (3, .int v3), (4, .int v4), (6, .int v6)]) F 5 dX5_settleAll_96 rfl (in_1 _) (by decide) rfl ?_
    refine aw_go (tgt := 45) F dX5_settleAll_99 (by decide) ?_
    refine aw_sub [1, 2, 3, 4, 5, 0] rfl ?_
    exact K45 _ _ _ _ h
  · replace h := h.2 c_7
    refine aw_al_n F 0 dX5_settleAll_77 rfl rfl ?_
    refine aw_al_n F 0 dX5_settleAll_78 rfl rfl ?_
    refine gr5_0 F (lo_s rfl) (hP _ rfl) rfl w_209 (hP _ rfl) dX5_settleAll_79 ?_
    refine aw_il F 6 dX5_settleAll_82 rfl ?_
    refine aw_iald F 5 1 (lo_s rfl) (hP _ rfl) rfl h.1 dX5_settleAll_84 ?_
    replace h := h.2
    refine aw_il F 5 dX5_settleAll_85 rfl ?_
    refine aw_cVv (stk := []) F T.room [.int (G 5 1 v6.toNatClampNeg), .int v5] (k_X5_noteHalf hP h) mv_X5_noteHalf w_871 cf5 (lo_s rfl) (hP _ rfl) rfl (by decide) rfl rfl (Nat.le_of_ble_eq_true rfl) ⟨(Nat.le_of_ble_eq_true rfl), (Nat.le_of_ble_eq_true rfl)⟩ ⟨(Nat.le_of_ble_eq_true rfl), (Nat.le_of_ble_eq_true rfl)⟩ dX5_settleAll_87 (fun G_8 h => ?_)
    refine aw_inc (lv1 := [(6, .int (v6 + (1 : Int32))), (0, .ref (sdX X 5 0)), (1, .ref (sdX X o1 0)), (2, .ref (sdX X o2 0)), (3, .int v3), (4, .int v4), (5, .int v5)]) F 6 dX5_settleAll_90 rfl (in_1 _) (by decide) rfl ?_
    refine aw_go (tgt := 68) F dX5_settleAll_93 (by decide) ?_
    refine aw_sub [1, 2, 3, 4, 5, 6, 0] rfl ?_
    exact K68 _ _ _ _ _ h
set_option maxRecDepth 100000 in
set_option maxHeartbeats 4000000 in
theorem kl_X5_settleAll_45 {E : Ev} {X : Cx} {post : GH → Prop} {o1 : Nat} {o2 : Nat} {v3 v4 v5 : Int32} {G : GH} (F : Fx E X "MarkField$Standing" cX5_settleAll 7) (T : RT E X 5 0 0 none (pV post)) (ho1 : stt o1 = true) (hc1 : oc o1 = 4) (ho2 : stt o2 = true) (hc2 : oc o2 = 1) (h : lp_X5_settleAll_45 post o1 o2 v3 v4 v5 G) : AW E X 7 45 [(0, .ref (sdX X 5 0)), (1, .ref (sdX X o1 0)), (2, .ref (sdX X o2 0)), (3, .int v3), (4, .int v4), (5, .int v5)] [] G 0 0 := by
  have hP := F.P
  have K45 : ∀ (v3 v4 v5 : Int32) (G : GH), AW E X 7 45 [(0, .ref (sdX X 5 0)), (1, .ref (sdX X o1 0)), (2, .ref (sdX X o2 0)), (3, .int v3), (4, .int v4), (5, .int v5)] [] G 0 0 → AW E X 7 45 [(0, .ref (sdX X 5 0)), (1, .ref (sdX X o1 0)), (2, .ref (sdX X o2 0)), (3, .int v3), (4, .int v4), (5, .int v5)] [] G 0 0 := fun _ _ _ _ q => q
  refine h (fun (v3 v4 v5 : Int32) (G : GH) => AW E X 7 45 [(0, .ref (sdX X 5 0)), (1, .ref (sdX X o1 0)), (2, .ref (sdX X o2 0)), (3, .int v3), (4, .int v4), (5, .int v5)] [] G 0 0) (fun (v3 v4 v5 : Int32) (G : GH) h => ?_)
  refine aw_il F 5 dX5_settleAll_45 rfl ?_
  refine aw_al_n F 1 dX5_settleAll_47 rfl rfl ?_
  refine aw_cVi (stk := [.int v5]) F T.room [] (k_X4_halfCount hP ho1 hc1 h) mv_X4_halfCount w_869 cf4 (lo_s ho1) (hP _ ho1) hc1 (by decide) rfl rfl (Nat.le_of_ble_eq_true rfl) ⟨(Nat.le_of_ble_eq_true rfl), (Nat.le_of_ble_eq_true rfl)⟩ ⟨(Nat.le_of_ble_eq_true rfl), (Nat.le_of_ble_eq_true rfl)⟩ dX5_settleAll_48 (fun r_3 G_2 h => ?_)
  refine aw_icmp_ge (tgt := 102) F dX5_settleAll_51 (by decide) (fun c_4 => ?_) (fun c_4 => ?_)
  · replace h := h.1 c_4
    exact aw_vret F T (Nat.le_of_ble_eq_true rfl) (Nat.le_of_ble_eq_true rfl) ⟨rfl, h⟩ dX5_settleAll_102
  · replace h := h.2 c_4
    refine aw_al_n F 0 dX5_settleAll_54 rfl rfl ?_
    refine aw_al_n F 1 dX5_settleAll_55 rfl rfl ?_
    refine aw_al_n F 2 dX5_settleAll_56 rfl rfl ?_
    refine aw_il F 5 dX5_settleAll_57 rfl ?_
    refine aw_il_n F 3 dX5_settleAll_59 rfl rfl ?_
    refine aw_il F 4 dX5_settleAll_60 rfl ?_
    refine aw_cVv (stk := []) F T.room [.ref (sdX X o1 0), .ref (sdX X o2 0), .int v5, .int v3, .int v4] (k_X5_settle hP ho1 hc1 ho2 hc2 h) mv_X5_settle w_870 cf5 (lo_s rfl) (hP _ rfl) rfl (by decide) rfl rfl (Nat.le_of_ble_eq_true rfl) ⟨(Nat.le_of_ble_eq_true rfl), (Nat.le_of_ble_eq_true rfl)⟩ ⟨(Nat.le_of_ble_eq_true rfl), (Nat.le_of_ble_eq_true rfl)⟩ dX5_settleAll_62 (fun G_5 h => ?_)
    refine aw_ic F dX5_settleAll_65 ic_0 ?_
    refine aw_is (lv1 := [(6, .int (0 : Int32)), (0, .ref (sdX X 5 0)), (1, .ref (sdX X o1 0)), (2, .ref (sdX X o2 0)), (3, .int v3), (4, .int v4), (5, .int v5)]) F dX5_settleAll_66 (by decide) rfl ?_
    refine aw_sub [1, 2, 3, 4, 5, 6, 0] rfl ?_
    exact kl_X5_settleAll_68 F T ho1 hc1 ho2 hc2 K45 h
set_option maxRecDepth 100000 in
set_option maxHeartbeats 4000000 in
theorem kl_X5_settleAll_3 {E : Ev} {X : Cx} {post : GH → Prop} {o1 : Nat} {o2 : Nat} {v3 v4 v5 : Int32} {G : GH} (F : Fx E X "MarkField$Standing" cX5_settleAll 7) (T : RT E X 5 0 0 none (pV post)) (ho1 : stt o1 = true) (hc1 : oc o1 = 4) (ho2 : stt o2 = true) (hc2 : oc o2 = 1) (h : lp_X5_settleAll_3 post o1 o2 v3 v4 v5 G) : AW E X 7 3 [(0, .ref (sdX X 5 0)), (1, .ref (sdX X o1 0)), (2, .ref (sdX X o2 0)), (3, .int v3), (4, .int v4), (5, .int v5)] [] G 0 0 := by
  have hP := F.P
  have K3 : ∀ (v3 v4 v5 : Int32) (G : GH), AW E X 7 3 [(0, .ref (sdX X 5 0)), (1, .ref (sdX X o1 0)), (2, .ref (sdX X o2 0)), (3, .int v3), (4, .int v4), (5, .int v5)] [] G 0 0 → AW E X 7 3 [(0, .ref (sdX X 5 0)), (1, .ref (sdX X o1 0)), (2, .ref (sdX X o2 0)), (3, .int v3), (4, .int v4), (5, .int v5)] [] G 0 0 := fun _ _ _ _ q => q
  refine h (fun (v3 v4 v5 : Int32) (G : GH) => AW E X 7 3 [(0, .ref (sdX X 5 0)), (1, .ref (sdX X o1 0)), (2, .ref (sdX X o2 0)), (3, .int v3), (4, .int v4), (5, .int v5)] [] G 0 0) (fun (v3 v4 v5 : Int32) (G : GH) h => ?_)
  refine aw_il F 5 dX5_settleAll_3 rfl ?_
  refine aw_al_n F 1 dX5_settleAll_5 rfl rfl ?_
  refine gf4_1 F (lo_s ho1) (hP _ ho1) hc1 w_84 dX5_settleAll_6 ?_
  refine aw_icmp_ge (tgt := 42) F dX5_settleAll_9 (by decide) (fun c_1 => ?_) (fun c_1 => ?_)
  · replace h := h.1 c_1
    refine aw_ic F dX5_settleAll_42 ic_0 ?_
    refine aw_is (lv1 := [(5, .int (0 : Int32)), (0, .ref (sdX X 5 0)), (1, .ref (sdX X o1 0)), (2, .ref (sdX X o2 0)), (3, .int v3), (4, .int v4)]) F dX5_settleAll_43 (by decide) rfl ?_
    refine aw_sub [1, 2, 3, 4, 5, 0] rfl ?_
    exact kl_X5_settleAll_45 F T ho1 hc1 ho2 hc2 h
  · replace h := h.2 c_1
    refine aw_al_n F 0 dX5_settleAll_12 rfl rfl ?_
    refine gr5_2 F (lo_s rfl) (hP _ rfl) rfl w_213 (hP _ rfl) dX5_settleAll_13 ?_
    refine aw_il F 5 dX5_settleAll_16 rfl ?_
    refine aw_ic F dX5_settleAll_18 ic_0 ?_
    refine aw_iast F 5 3 (lo_s rfl) (hP _ rfl) rfl h.1 dX5_settleAll_19 ?_
    refine aw_nG (fun G_10 eG_10 => ?_)
    replace h := h.2 G_10 eG_10
    refine aw_al_n F 0 dX5_settleAll_20 rfl rfl ?_
    refine gr5_3 F (lo_s rfl) (hP _ rfl) rfl w_215 (hP _ rfl) dX5_settleAll_21 ?_
    refine aw_il F 5 dX5_settleAll_24 rfl ?_
    refine aw_ic F dX5_settleAll_26 ic_0 ?_
    refine aw_iast F 5 4 (lo_s rfl) (hP _ rfl) rfl h.1 dX5_settleAll_27 ?_
    refine aw_nG (fun G_11 eG_11 => ?_)
    replace h := h.2 G_11 eG_11
    refine aw_al_n F 0 dX5_settleAll_28 rfl rfl ?_
    refine gr5_4 F (lo_s rfl) (hP _ rfl) rfl w_218 (hP _ rfl) dX5_settleAll_29 ?_
    refine aw_il F 5 dX5_settleAll_32 rfl ?_
    refine aw_ic F dX5_settleAll_34 ic_m1 ?_
    refine aw_iast F 5 5 (lo_s rfl) (hP _ rfl) rfl h.1 dX5_settleAll_35 ?_
    refine aw_nG (fun G_12 eG_12 => ?_)
    replace h := h.2 G_12 eG_12
    refine aw_inc (lv1 := [(5, .int (v5 + (1 : Int32))), (0, .ref (sdX X 5 0)), (1, .ref (sdX X o1 0)), (2, .ref (sdX X o2 0)), (3, .int v3), (4, .int v4)]) F 5 dX5_settleAll_36 rfl (in_1 _) (by decide) rfl ?_
    refine aw_go (tgt := 3) F dX5_settleAll_39 (by decide) ?_
    refine aw_sub [1, 2, 3, 4, 5, 0] rfl ?_
    exact K3 _ _ _ _ h
set_option maxRecDepth 100000 in
set_option maxHeartbeats 4000000 in
theorem k_X5_settleAll {l : Launch} {E : Ev} {P : Nat → Prop} {sd : Nat → Nat → Nat} {G : GH} {post : GH → Prop} {o1 : Nat} {o2 : Nat} {x3 x4 : Int32} (hPP : ∀ o, stt o = true → P o) (ho1 : stt o1 = true) (hc1 : oc o1 = 4) (ho2 : stt o2 = true) (hc2 : oc o2 = 1) (h : wp_X5_settleAll post o1 o2 x3 x4 G) : Ct l yX5_settleAll cX5_settleAll 7 none 5 0 0 E P sd G [.ref (sd 5 0), .ref (sd o1 0), .ref (sd o2 0), .int x3, .int x4] (pV post) := by
  refine ct_of (own := "MarkField$Standing") (by decide) rfl (Nat.le_of_ble_eq_true rfl) hPP (fun X F T el eP es => ?_)
  subst el; subst eP; subst es
  have hP := F.P
  change AW E X 7 0 [(0, .ref (sdX X 5 0)), (1, .ref (sdX X o1 0)), (2, .ref (sdX X o2 0)), (3, .int x3), (4, .int x4)] [] G 0 0
  refine aw_ic F dX5_settleAll_0 ic_0 ?_
  refine aw_is (lv1 := [(5, .int (0 : Int32)), (0, .ref (sdX X 5 0)), (1, .ref (sdX X o1 0)), (2, .ref (sdX X o2 0)), (3, .int x3), (4, .int x4)]) F dX5_settleAll_1 (by decide) rfl ?_
  refine aw_sub [1, 2, 3, 4, 5, 0] rfl ?_
  exact kl_X5_settleAll_3 F T ho1 hc1 ho2 hc2 h
-- X5_refusedHalves (height 0)
def wp_X5_refusedHalves (post : Int32 → GH → Prop) (x1 : Int32) (G : GH) : Prop :=
  (vp_in x1 13 ∧ (vp_in x1 13 ∧ post ((G 5 3 x1.toNatClampNeg) &&& ((G 5 4 x1.toNatClampNeg) ^^^ (-1 : Int32))) G))
set_option maxRecDepth 100000 in
set_option maxHeartbeats 4000000 in
theorem k_X5_refusedHalves {l : Launch} {E : Ev} {P : Nat → Prop} {sd : Nat → Nat → Nat} {G : GH} {post : Int32 → GH → Prop} {x1 : Int32} (hPP : ∀ o, stt o = true → P o) (h : wp_X5_refusedHalves post x1 G) : Ct l yX5_refusedHalves cX5_refusedHalves 2 (some .int) 0 0 0 E P sd G [.ref (sd 5 0), .int x1] (pI post) := by
  refine ct_of (own := "MarkField$Standing") (by decide) rfl (Nat.le_of_ble_eq_true rfl) hPP (fun X F T el eP es => ?_)
  subst el; subst eP; subst es
  have hP := F.P
  change AW E X 2 0 [(0, .ref (sdX X 5 0)), (1, .int x1)] [] G 0 0
  refine aw_al_n F 0 dX5_refusedHalves_0 rfl rfl ?_
  refine gr5_2 F (lo_s rfl) (hP _ rfl) rfl w_213 (hP _ rfl) dX5_refusedHalves_1 ?_
  refine aw_il_n F 1 dX5_refusedHalves_4 rfl rfl ?_
  refine aw_iald F 5 3 (lo_s rfl) (hP _ rfl) rfl h.1 dX5_refusedHalves_5 ?_
  replace h := h.2
  refine aw_al_n F 0 dX5_refusedHalves_6 rfl rfl ?_
  refine gr5_3 F (lo_s rfl) (hP _ rfl) rfl w_215 (hP _ rfl) dX5_refusedHalves_7 ?_
  refine aw_il_n F 1 dX5_refusedHalves_10 rfl rfl ?_
  refine aw_iald F 5 4 (lo_s rfl) (hP _ rfl) rfl h.1 dX5_refusedHalves_11 ?_
  replace h := h.2
  refine aw_ic F dX5_refusedHalves_12 ic_m1 ?_
  refine aw_ixor F dX5_refusedHalves_13 ?_
  refine aw_iand F dX5_refusedHalves_14 ?_
  exact aw_iret F T (Nat.le_of_ble_eq_true rfl) (Nat.le_of_ble_eq_true rfl) ⟨_, rfl, h⟩ dX5_refusedHalves_15
