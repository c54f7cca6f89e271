theorem v_4 : (Jvm.Cond.initialized "java/lang/System") ∈ tb := tb_of (List.mem_of_getElem? (i := 4) (by decide +kernel)) rfl
theorem v_29 : (Jvm.Cond.instanceMethod ({ cls := "java/lang/Object", name := "<init>", desc := "()V" } : Jvm.MethodName)) ∈ tb := tb_of (List.mem_of_getElem? (i := 29) (by decide +kernel)) rfl
theorem v_30 : (Jvm.Cond.code ({ cls := "java/lang/Object", name := "<init>", desc := "()V" } : Jvm.MethodName) object_method_1_code (1 : Nat) (Option.none : Option Jvm.ClassFile.FieldType)) ∈ tb := tb_of (List.mem_of_getElem? (i := 30) (by decide +kernel)) rfl
theorem v_68 : (Jvm.Cond.arrayClass Jvm.ClassFile.FieldType.byte) ∈ tb := tb_of (List.mem_of_getElem? (i := 68) (by decide +kernel)) rfl
theorem v_74 : (Jvm.Cond.methodLink "MarkField$Register" (3 : Nat) ({ cls := "java/lang/Object", name := "<init>", desc := "()V" } : Jvm.MethodName)) ∈ tb := tb_of (List.mem_of_getElem? (i := 74) (by decide +kernel)) rfl
theorem v_77 : (Jvm.Cond.methodLink "MarkField$Register" (50 : Nat) ({ cls := "java/lang/System", name := "arraycopy", desc := "(Ljava/lang/Object;ILjava/lang/Object;II)V" } : Jvm.MethodName)) ∈ tb := tb_of (List.mem_of_getElem? (i := 77) (by decide +kernel)) rfl
theorem v_78 : (Jvm.Cond.static ({ cls := "java/lang/System", name := "arraycopy", desc := "(Ljava/lang/Object;ILjava/lang/Object;II)V" } : Jvm.MethodName)) ∈ tb := tb_of (List.mem_of_getElem? (i := 78) (by decide +kernel)) rfl
theorem v_79 : (Jvm.Cond.native ({ cls := "java/lang/System", name := "arraycopy", desc := "(Ljava/lang/Object;ILjava/lang/Object;II)V" } : Jvm.MethodName)) ∈ tb := tb_of (List.mem_of_getElem? (i := 79) (by decide +kernel)) rfl
theorem v_80 : (Jvm.Cond.fieldLink "MarkField$Register" (40 : Nat) "MarkField$Register" "lands" "I") ∈ tb := tb_of (List.mem_of_getElem? (i := 80) (by decide +kernel)) rfl
theorem v_83 : (Jvm.Cond.fieldLink "MarkField$Register" (44 : Nat) "MarkField$Register" "marks" "I") ∈ tb := tb_of (List.mem_of_getElem? (i := 83) (by decide +kernel)) rfl
theorem v_89 : (Jvm.Cond.fieldLink "MarkField$Register" (9 : Nat) "MarkField$Register" "filed" "[I") ∈ tb := tb_of (List.mem_of_getElem? (i := 89) (by decide +kernel)) rfl
theorem v_92 : (Jvm.Cond.fieldLink "MarkField$Register" (15 : Nat) "MarkField$Register" "classes" "[I") ∈ tb := tb_of (List.mem_of_getElem? (i := 92) (by decide +kernel)) rfl
theorem v_97 : (Jvm.Cond.fieldLink "MarkField$Register" (18 : Nat) "MarkField$Register" "lengths" "[I") ∈ tb := tb_of (List.mem_of_getElem? (i := 97) (by decide +kernel)) rfl
theorem v_101 : (Jvm.Cond.fieldLink "MarkField$Register" (21 : Nat) "MarkField$Register" "letters" "[B") ∈ tb := tb_of (List.mem_of_getElem? (i := 101) (by decide +kernel)) rfl
theorem v_104 : (Jvm.Cond.fieldLink "MarkField$Register" (25 : Nat) "MarkField$Register" "useCounts" "[I") ∈ tb := tb_of (List.mem_of_getElem? (i := 104) (by decide +kernel)) rfl
theorem v_108 : (Jvm.Cond.fieldLink "MarkField$Register" (28 : Nat) "MarkField$Register" "uses" "[I") ∈ tb := tb_of (List.mem_of_getElem? (i := 108) (by decide +kernel)) rfl
theorem v_110 : (Jvm.Cond.fieldLink "MarkField$Register" (31 : Nat) "MarkField$Register" "consents" "[I") ∈ tb := tb_of (List.mem_of_getElem? (i := 110) (by decide +kernel)) rfl
theorem v_114 : (Jvm.Cond.fieldLink "MarkField$Register" (34 : Nat) "MarkField$Register" "neighbours" "[I") ∈ tb := tb_of (List.mem_of_getElem? (i := 114) (by decide +kernel)) rfl
theorem v_117 : (Jvm.Cond.fieldLink "MarkField$Register" (37 : Nat) "MarkField$Register" "rules" "[I") ∈ tb := tb_of (List.mem_of_getElem? (i := 117) (by decide +kernel)) rfl
theorem v_144 : (Jvm.Cond.arrayClass Jvm.ClassFile.FieldType.int) ∈ tb := tb_of (List.mem_of_getElem? (i := 144) (by decide +kernel)) rfl
/-! ===== a new register ===== -/
def rgF (A : Nat → Nat) : List Value := [.int 1, .int 0, .ref (A 3), .ref (A 4), .ref (A 5), .ref (A 6), .ref (A 7), .ref (A 8), .ref (A 9), .ref (A 10), .ref (A 11)]
def rgW (E : Ev) (A : Nat → Nat) : va_W := [(A 0, .inr (4, rgF A)), (A 3, .inl (E.2.1 0, 13, .inl (rI 3))), (A 4, .inl (E.2.1 0, 13, .inl (rI 4))), (A 5, .inl (E.2.1 0, 13, .inl (rI 5))), (A 6, .inl (E.2.1 1, 130, .inl (fun j => nb (rI 6 j)))), (A 7, .inl (E.2.1 0, 13, .inl (rI 7))), (A 8, .inl (E.2.1 0, 468, .inl (rI 8))), (A 9, .inl (E.2.1 0, 13, .inl (rI 9))), (A 10, .inl (E.2.1 0, 10, .inl (rI 10))), (A 11, .inl (E.2.1 0, 6, .inl (rI 11)))]
theorem rI_z {k : Nat} (h0 : k ≠ 0) (h11 : k ≠ 11) : rI k = fun _ => 0 := by
  funext j
  unfold rI
  split
  · exact absurd rfl h0
  · exact absurd rfl h11
  · rfl
theorem rI_11 : va_cpy (fun j => (sTb 0).getD j 0) (fun _ => (0 : Int32)) 0 0 6 = rI 11 := by
  funext j
  unfold va_cpy
  show _ = (sTb 0).getD j 0
  split
  · rename_i h
    congr 1
    omega
  · rename_i h
    have hj : 6 ≤ j := by omega
    rw [List.getD_eq_getElem?_getD, List.getElem?_eq_none (by show 6 ≤ j; exact hj)]
    rfl
set_option maxRecDepth 100000 in
set_option maxHeartbeats 4000000 in
theorem k_X4_init {l : Launch} {E : Ev} {w0 : va_W} {a : Nat} : CtL l yX4_init cX4_init 1 1 9 679 E w0 [(a, .inr (4, [.int 0, .int 0, .null, .null, .null, .null, .null, .null, .null, .null, .null]))] [.ref a] (fun wx => ∃ A : Nat → Nat, A 0 = a ∧ wx = rgW E A) := by
  refine ctl_of (own := "MarkField$Register") (by decide) rfl rfl (Nat.le_of_ble_eq_true rfl) (fun X F T el => ?_)
  subst el
  change LW E X 1 0 [(0, .ref a)] [] w0 _ 0 0
  refine lw_al_n F 0 dX4_init_0 rfl rfl ?_
  refine lw_ini F T.room v_74 v_29 v_30 (by decide) (by decide) dX4_init_1 ?_
  refine lw_al_n F 0 dX4_init_4 rfl rfl ?_
  refine lw_bi F dX4_init_5 (v := (13 : Int32)) (by decide) ?_
  refine lw_naI (N := 13) F T.room v_144 (by decide) (by decide) (by decide) (Nat.le_of_ble_eq_true rfl) (Nat.le_of_ble_eq_true rfl) dX4_init_7 (fun q3 => ?_)
  refine lw_pF F T.ini 0 2 (fs := [.int 0, .int 0, .null, .null, .null, .null, .null, .null, .null, .null, .null]) cf4 rfl (by decide) v_89 rfl rfl rfl rfl (Nat.le_of_ble_eq_true rfl) (wy := [(a, .inr (4, [.int 0, .int 0, .ref q3, .null, .null, .null, .null, .null, .null, .null, .null])), (q3, .inl (E.2.1 0, 13, .inl (fun _ => 0)))]) rfl dX4_init_9 ?_
  refine lw_al_n F 0 dX4_init_12 rfl rfl ?_
  refine lw_bi F dX4_init_13 (v := (13 : Int32)) (by decide) ?_
  refine lw_naI (N := 13) F T.room v_144 (by decide) (by decide) (by decide) (Nat.le_of_ble_eq_true rfl) (Nat.le_of_ble_eq_true rfl) dX4_init_15 (fun q4 => ?_)
  refine lw_pF F T.ini 0 3 (fs := [.int 0, .int 0, .ref q3, .null, .null, .null, .null, .null, .null, .null, .null]) cf4 rfl (by decide) v_92 rfl rfl rfl rfl (Nat.le_of_ble_eq_true rfl) (wy := [(a, .inr (4, [.int 0, .int 0, .ref q3, .ref q4, .null, .null, .null, .null, .null, .null, .null])), (q3, .inl (E.2.1 0, 13, .inl (fun _ => 0))), (q4, .inl (E.2.1 0, 13, .inl (fun _ => 0)))]) rfl dX4_init_17 ?_
  refine lw_al_n F 0 dX4_init_20 rfl rfl ?_
  refine lw_bi F dX4_init_21 (v := (13 : Int32)) (by decide) ?_
  refine lw_naI (N := 13) F T.room v_144 (by decide) (by decide) (by decide) (Nat.le_of_ble_eq_true rfl) (Nat.le_of_ble_eq_true rfl) dX4_init_23 (fun q5 => ?_)
  refine lw_pF F T.ini 0 4 (fs := [.int 0, .int 0, .ref q3, .ref q4, .null, .null, .null, .null, .null, .null, .null]) cf4 rfl (by decide) v_97 rfl rfl rfl rfl (Nat.le_of_ble_eq_true rfl) (wy := [(a, .inr (4, [.int 0, .int 0, .ref q3, .ref q4, .ref q5, .null, .null, .null, .null, .null, .null])), (q3, .inl (E.2.1 0, 13, .inl (fun _ => 0))), (q4, .inl (E.2.1 0, 13, .inl (fun _ => 0))), (q5, .inl (E.2.1 0, 13, .inl (fun _ => 0)))]) rfl dX4_init_25 ?_
  refine lw_al_n F 0 dX4_init_28 rfl rfl ?_
  refine lw_si F dX4_init_29 (v := (130 : Int32)) (by decide) ?_
  refine lw_naB (N := 130) F T.room v_68 (by decide) (by decide) (by decide) (Nat.le_of_ble_eq_true rfl) (Nat.le_of_ble_eq_true rfl) dX4_init_32 (fun q6 => ?_)
  refine lw_pF F T.ini 0 5 (fs := [.int 0, .int 0, .ref q3, .ref q4, .ref q5, .null, .null, .null, .null, .null, .null]) cf4 rfl (by decide) v_101 rfl rfl rfl rfl (Nat.le_of_ble_eq_true rfl) (wy := [(a, .inr (4, [.int 0, .int 0, .ref q3, .ref q4, .ref q5, .ref q6, .null, .null, .null, .null, .null])), (q3, .inl (E.2.1 0, 13, .inl (fun _ => 0))), (q4, .inl (E.2.1 0, 13, .inl (fun _ => 0))), (q5, .inl (E.2.1 0, 13, .inl (fun _ => 0))), (q6, .inl (E.2.1 1, 130, .inl (fun _ => 0)))]) rfl dX4_init_34 ?_
  refine lw_al_n F 0 dX4_init_37 rfl rfl ?_
  refine lw_bi F dX4_init_38 (v := (13 : Int32)) (by decide) ?_
  refine lw_naI (N := 13) F T.room v_144 (by decide) (by decide) (by decide) (Nat.le_of_ble_eq_true rfl) (Nat.le_of_ble_eq_true rfl) dX4_init_40 (fun q7 => ?_)
  refine lw_pF F T.ini 0 6 (fs := [.int 0, .int 0, .ref q3, .ref q4, .ref q5, .ref q6, .null, .null, .null, .null, .null]) cf4 rfl (by decide) v_104 rfl rfl rfl rfl (Nat.le_of_ble_eq_true rfl) (wy := [(a, .inr (4, [.int 0, .int 0, .ref q3, .ref q4, .ref q5, .ref q6, .ref q7, .null, .null, .null, .null])), (q3, .inl (E.2.1 0, 13, .inl (fun _ => 0))), (q4, .inl (E.2.1 0, 13, .inl (fun _ => 0))), (q5, .inl (E.2.1 0, 13, .inl (fun _ => 0))), (q6, .inl (E.2.1 1, 130, .inl (fun _ => 0))), (q7, .inl (E.2.1 0, 13, .inl (fun _ => 0)))]) rfl dX4_init_42 ?_
  refine lw_al_n F 0 dX4_init_45 rfl rfl ?_
  refine lw_si F dX4_init_46 (v := (468 : Int32)) (by decide) ?_
  refine lw_naI (N := 468) F T.room v_144 (by decide) (by decide) (by decide) (Nat.le_of_ble_eq_true rfl) (Nat.le_of_ble_eq_true rfl) dX4_init_49 (fun q8 => ?_)
  refine lw_pF F T.ini 0 7 (fs := [.int 0, .int 0, .ref q3, .ref q4, .ref q5, .ref q6, .ref q7, .null, .null, .null, .null]) cf4 rfl (by decide) v_108 rfl rfl rfl rfl (Nat.le_of_ble_eq_true rfl) (wy := [(a, .inr (4, [.int 0, .int 0, .ref q3, .ref q4, .ref q5, .ref q6, .ref q7, .ref q8, .null, .null, .null])), (q3, .inl (E.2.1 0, 13, .inl (fun _ => 0))), (q4, .inl (E.2.1 0, 13, .inl (fun _ => 0))), (q5, .inl (E.2.1 0, 13, .inl (fun _ => 0))), (q6, .inl (E.2.1 1, 130, .inl (fun _ => 0))), (q7, .inl (E.2.1 0, 13, .inl (fun _ => 0))), (q8, .inl (E.2.1 0, 468, .inl (fun _ => 0)))]) rfl dX4_init_51 ?_
  refine lw_al_n F 0 dX4_init_54 rfl rfl ?_
  refine lw_bi F dX4_init_55 (v := (13 : Int32)) (by decide) ?_
  refine lw_naI (N := 13) F T.room v_144 (by decide) (by decide) (by decide) (Nat.le_of_ble_eq_true rfl) (Nat.le_of_ble_eq_true rfl) dX4_init_57 (fun q9 => ?_)
  refine lw_pF F T.ini 0 8 (fs := [.int 0, .int 0, .ref q3, .ref q4, .ref q5, .ref q6, .ref q7, .ref q8, .null, .null, .null]) cf4 rfl (by decide) v_110 rfl rfl rfl rfl (Nat.le_of_ble_eq_true rfl) (wy := [(a, .inr (4, [.int 0, .int 0, .ref q3, .ref q4, .ref q5, .ref q6, .ref q7, .ref q8, .ref q9, .null, .null])), (q3, .inl (E.2.1 0, 13, .inl (fun _ => 0))), (q4, .inl (E.2.1 0, 13, .inl (fun _ => 0))), (q5, .inl (E.2.1 0, 13, .inl (fun _ => 0))), (q6, .inl (E.2.1 1, 130, .inl (fun _ => 0))), (q7, .inl (E.2.1 0, 13, .inl (fun _ => 0))), (q8, .inl (E.2.1 0, 468, .inl (fun _ => 0))), (q9, .inl (E.2.1 0, 13, .inl (fun _ => 0)))]) rfl dX4_init_59 ?_
  refine lw_al_n F 0 dX4_init_62 rfl rfl ?_
  refine lw_bi F dX4_init_63 (v := (10 : Int32)) (by decide) ?_
  refine lw_naI (N := 10) F T.room v_144 (by decide) (by decide) (by decide) (Nat.le_of_ble_eq_true rfl) (Nat.le_of_ble_eq_true rfl) dX4_init_65 (fun q10 => ?_)
  refine lw_pF F T.ini 0 9 (fs := [.int 0, .int 0, .ref q3, .ref q4, .ref q5, .ref q6, .ref q7, .ref q8, .ref q9, .null, .null]) cf4 rfl (by decide) v_114 rfl rfl rfl rfl (Nat.le_of_ble_eq_true rfl) (wy := [(a, .inr (4, [.int 0, .int 0, .ref q3, .ref q4, .ref q5, .ref q6, .ref q7, .ref q8, .ref q9, .ref q10, .null])), (q3, .inl (E.2.1 0, 13, .inl (fun _ => 0))), (q4, .inl (E.2.1 0, 13, .inl (fun _ => 0))), (q5, .inl (E.2.1 0, 13, .inl (fun _ => 0))), (q6, .inl (E.2.1 1, 130, .inl (fun _ => 0))), (q7, .inl (E.2.1 0, 13, .inl (fun _ => 0))), (q8, .inl (E.2.1 0, 468, .inl (fun _ => 0))), (q9, .inl (E.2.1 0, 13, .inl (fun _ => 0))), (q10, .inl (E.2.1 0, 10, .inl (fun _ => 0)))]) rfl dX4_init_67 ?_
  refine lw_al_n F 0 dX4_init_70 rfl rfl ?_
  refine lw_bi F dX4_init_71 (v := (6 : Int32)) (by decide) ?_
  refine lw_naI (N := 6) F T.room v_144 (by decide) (by decide) (by decide) (Nat.le_of_ble_eq_true rfl) (Nat.le_of_ble_eq_true rfl) dX4_init_73 (fun q11 => ?_)
  refine lw_pF F T.ini 0 10 (fs := [.int 0, .int 0, .ref q3, .ref q4, .ref q5, .ref q6, .ref q7, .ref q8, .ref q9, .ref q10, .null]) cf4 rfl (by decide) v_117 rfl rfl rfl rfl (Nat.le_of_ble_eq_true rfl) (wy := [(a, .inr (4, [.int 0, .int 0, .ref q3, .ref q4, .ref q5, .ref q6, .ref q7, .ref q8, .ref q9, .ref q10, .ref q11])), (q3, .inl (E.2.1 0, 13, .inl (fun _ => 0))), (q4, .inl (E.2.1 0, 13, .inl (fun _ => 0))), (q5, .inl (E.2.1 0, 13, .inl (fun _ => 0))), (q6, .inl (E.2.1 1, 130, .inl (fun _ => 0))), (q7, .inl (E.2.1 0, 13, .inl (fun _ => 0))), (q8, .inl (E.2.1 0, 468, .inl (fun _ => 0))), (q9, .inl (E.2.1 0, 13, .inl (fun _ => 0))), (q10, .inl (E.2.1 0, 10, .inl (fun _ => 0))), (q11, .inl (E.2.1 0, 6, .inl (fun _ => 0)))]) rfl dX4_init_75 ?_
  refine lw_al_n F 0 dX4_init_78 rfl rfl ?_
  refine lw_ic F dX4_init_79 ic_1 ?_
  refine lw_p F 0 0 (fs := [.int 0, .int 0, .ref q3, .ref q4, .ref q5, .ref q6, .ref q7, .ref q8, .ref q9, .ref q10, .ref q11]) cf4 rfl (by decide) v_80 rfl rfl rfl (Nat.le_of_ble_eq_true rfl) (wy := [(a, .inr (4, [.int 1, .int 0, .ref q3, .ref q4, .ref q5, .ref q6, .ref q7, .ref q8, .ref q9, .ref q10, .ref q11])), (q3, .inl (E.2.1 0, 13, .inl (fun _ => 0))), (q4, .inl (E.2.1 0, 13, .inl (fun _ => 0))), (q5, .inl (E.2.1 0, 13, .inl (fun _ => 0))), (q6, .inl (E.2.1 1, 130, .inl (fun _ => 0))), (q7, .inl (E.2.1 0, 13, .inl (fun _ => 0))), (q8, .inl (E.2.1 0, 468, .inl (fun _ => 0))), (q9, .inl (E.2.1 0, 13, .inl (fun _ => 0))), (q10, .inl (E.2.1 0, 10, .inl (fun _ => 0))), (q11, .inl (E.2.1 0, 6, .inl (fun _ => 0)))]) rfl dX4_init_80 ?_
  refine lw_al_n F 0 dX4_init_83 rfl rfl ?_
  refine lw_ic F dX4_init_84 ic_0 ?_
  refine lw_p F 0 1 (fs := [.int 1, .int 0, .ref q3, .ref q4, .ref q5, .ref q6, .ref q7, .ref q8, .ref q9, .ref q10, .ref q11]) cf4 rfl (by decide) v_83 rfl rfl rfl (Nat.le_of_ble_eq_true rfl) (wy := [(a, .inr (4, [.int 1, .int 0, .ref q3, .ref q4, .ref q5, .ref q6, .ref q7, .ref q8, .ref q9, .ref q10, .ref q11])), (q3, .inl (E.2.1 0, 13, .inl (fun _ => 0))), (q4, .inl (E.2.1 0, 13, .inl (fun _ => 0))), (q5, .inl (E.2.1 0, 13, .inl (fun _ => 0))), (q6, .inl (E.2.1 1, 130, .inl (fun _ => 0))), (q7, .inl (E.2.1 0, 13, .inl (fun _ => 0))), (q8, .inl (E.2.1 0, 468, .inl (fun _ => 0))), (q9, .inl (E.2.1 0, 13, .inl (fun _ => 0))), (q10, .inl (E.2.1 0, 10, .inl (fun _ => 0))), (q11, .inl (E.2.1 0, 6, .inl (fun _ => 0)))]) rfl dX4_init_85 ?_
  refine lw_gst F 0 (by decide) (by decide) dX4_init_88 ?_
  refine lw_ic F dX4_init_91 ic_0 ?_
  refine lw_al_n F 0 dX4_init_92 rfl rfl ?_
  refine lw_g F 0 10 (fs := [.int 1, .int 0, .ref q3, .ref q4, .ref q5, .ref q6, .ref q7, .ref q8, .ref q9, .ref q10, .ref q11]) cf4 rfl (by decide) v_117 rfl dX4_init_93 ?_
  refine lw_ic F dX4_init_96 ic_0 ?_
  refine lw_bi F dX4_init_97 (v := (6 : Int32)) (by decide) ?_
  refine lw_cpT F 0 (by decide) 9 rfl v_77 v_79 v_78 v_4 (by decide) (by decide) (by decide) (by decide) (by decide) (by rw [T.room]; decide) (by rw [T.room]; decide) (wy := [(a, .inr (4, [.int 1, .int 0, .ref q3, .ref q4, .ref q5, .ref q6, .ref q7, .ref q8, .ref q9, .ref q10, .ref q11])), (q3, .inl (E.2.1 0, 13, .inl (fun _ => 0))), (q4, .inl (E.2.1 0, 13, .inl (fun _ => 0))), (q5, .inl (E.2.1 0, 13, .inl (fun _ => 0))), (q6, .inl (E.2.1 1, 130, .inl (fun _ => 0))), (q7, .inl (E.2.1 0, 13, .inl (fun _ => 0))), (q8, .inl (E.2.1 0, 468, .inl (fun _ => 0))), (q9, .inl (E.2.1 0, 13, .inl (fun _ => 0))), (q10, .inl (E.2.1 0, 10, .inl (fun _ => 0))), (q11, .inl (E.2.1 0, 6, .inl (va_cpy (fun j => (sTb 0).getD j 0) (fun _ => (0 : Int32)) 0 0 6)))]) rfl dX4_init_99 ?_
  refine lw_vret F T (Nat.le_of_ble_eq_true rfl) (Nat.le_of_ble_eq_true rfl) ⟨fun k => if k = 0 then a else if k = 3 then q3 else if k = 4 then q4 else if k = 5 then q5 else if k = 6 then q6 else if k = 7 then q7 else if k = 8 then q8 else if k = 9 then q9 else if k = 10 then q10 else q11, rfl, ?_⟩ dX4_init_102
  unfold rgW
  rw [← rI_11, rI_z (k := 3) (by decide) (by decide), rI_z (k := 4) (by decide) (by decide), rI_z (k := 5) (by decide) (by decide), rI_z (k := 6) (by decide) (by decide), rI_z (k := 7) (by decide) (by decide), rI_z (k := 8) (by decide) (by decide), rI_z (k := 9) (by decide) (by decide), rI_z (k := 10) (by decide) (by decide)]
  rfl
