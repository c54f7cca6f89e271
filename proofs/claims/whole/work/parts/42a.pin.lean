theorem v_3 : (Jvm.Cond.initialized "MarkField$Register") ∈ tb := tb_of (List.mem_of_getElem? (i := 3) (by decide +kernel)) rfl
theorem v_153 : (Jvm.Cond.fieldLink "MarkField$Acts" (11 : Nat) "MarkField$Acts" "before" "[LMarkField$Register;") ∈ tb := tb_of (List.mem_of_getElem? (i := 153) (by decide +kernel)) rfl
theorem v_154 : (Jvm.Cond.fieldLink "MarkField$Acts" (17 : Nat) "MarkField$Acts" "next" "I") ∈ tb := tb_of (List.mem_of_getElem? (i := 154) (by decide +kernel)) rfl
theorem v_155 : (Jvm.Cond.fieldLink "MarkField$Acts" (21 : Nat) "MarkField$Acts" "size" "I") ∈ tb := tb_of (List.mem_of_getElem? (i := 155) (by decide +kernel)) rfl
theorem v_354 : (Jvm.Cond.methodLink "MarkField$Acts" (25 : Nat) ({ cls := "MarkField$Register", name := "copy", desc := "(LMarkField$Register;)V" } : Jvm.MethodName)) ∈ tb := tb_of (List.mem_of_getElem? (i := 354) (by decide +kernel)) rfl
theorem v_355 : (Jvm.Cond.instanceMethod ({ cls := "MarkField$Register", name := "copy", desc := "(LMarkField$Register;)V" } : Jvm.MethodName)) ∈ tb := tb_of (List.mem_of_getElem? (i := 355) (by decide +kernel)) rfl
theorem v_356 : (Jvm.Cond.selects "MarkField$Register" ({ cls := "MarkField$Register", name := "copy", desc := "(LMarkField$Register;)V" } : Jvm.MethodName) ({ cls := "MarkField$Register", name := "copy", desc := "(LMarkField$Register;)V" } : Jvm.MethodName)) ∈ tb := tb_of (List.mem_of_getElem? (i := 356) (by decide +kernel)) rfl
theorem v_357 : (Jvm.Cond.code ({ cls := "MarkField$Register", name := "copy", desc := "(LMarkField$Register;)V" } : Jvm.MethodName) prog_6_method_3_code (2 : Nat) (Option.none : Option Jvm.ClassFile.FieldType)) ∈ tb := tb_of (List.mem_of_getElem? (i := 357) (by decide +kernel)) rfl
/-! ===== a method comes to know where more objects lie ===== -/
def wX (X : Cx) (ad : Nat → Nat → Nat) (P : Nat → Prop) : Cx := match X with
  | (p, l, e, R, s, m, args, below, meth, c, Q, _, _) => (p, l, e, R, s, m, args, below, meth, c, Q, ad, P)
section
variable {E : Ev} {X : Cx} {own : String} {cc : ByteArray} {nL pc : Nat} {lv : List (Nat × Value)} {stk : List Value} {G : GH} {n1 n2 h mc ms : Nat} {ad : Nat → Nat → Nat} {P : Nat → Prop}
theorem Fx.w (F : Fx E X own cc nL) (hp : ∀ o, stt o = true → P o) : Fx E (wX X ad P) own cc nL := by
  obtain ⟨p, l, e, R, s, m, args, below, meth, c2, Q, sd, P1⟩ := X
  exact ⟨F.1, F.2.1, F.2.2.1, F.2.2.2.1, F.2.2.2.2.1, F.2.2.2.2.2.1, F.2.2.2.2.2.2.1, F.2.2.2.2.2.2.2.1, F.2.2.2.2.2.2.2.2.1, hp⟩
theorem RT.w {ret : Option FieldType} {post : Option Value → GH → Prop} (T : RT E X h mc ms ret post) (hp : ∀ o, PX X o → P o) (hs : ∀ o k, PX X o → ad o k = sdX X o k) : RT E (wX X ad P) h mc ms ret post := by
  obtain ⟨p, l, e, R, s, m, args, below, meth, c2, Q, sd, P1⟩ := X
  obtain ⟨t1, t2, P0, sd0, t3, t4, t5⟩ := T
  exact ⟨t1, t2, P0, sd0, fun o ho => hp o (t3 o ho), fun o k ho => (hs o k (t3 o ho)).trans (t4 o k ho), t5⟩
theorem wX_l : lX (wX X ad P) = lX X := by
  obtain ⟨p, l, e, R, s, m, args, below, meth, c2, Q, sd, P1⟩ := X
  rfl
theorem wX_s : sdX (wX X ad P) = ad := by
  obtain ⟨p, l, e, R, s, m, args, below, meth, c2, Q, sd, P1⟩ := X
  rfl
theorem wX_P : PX (wX X ad P) = P := by
  obtain ⟨p, l, e, R, s, m, args, below, meth, c2, Q, sd, P1⟩ := X
  rfl
theorem aw_pin (P : Nat → Prop) (kk : ∀ ad : Nat → Nat → Nat, (∀ o k, PX X o → ad o k = sdX X o k) → AW E (wX X ad P) nL pc lv stk G n1 n2) : AW E X nL pc lv stk G n1 n2 := by
  obtain ⟨p, l, e, R, s, m, args, below, meth, c2, Q, sd, P1⟩ := X
  intro ls H locs ad hag hl hH hS
  exact kk ad hag ls H locs ad (fun _ _ _ => rfl) hl hH hS
/-- a place in the row of registers -/
theorem aw_aldq (F : Fx E X own cc nL) {i : Int32} (h4 : PX X 4) (hP : PX X (12 + i.toNatClampNeg)) (hin : vp_in i 12) (d : decode cc pc = .ok (.aaload, 1)) (k0 : G 4 1 i.toNatClampNeg = 0 → AW E X nL (pc + 1) lv (.null :: stk) G n1 n2) (k1 : ¬ G 4 1 i.toNatClampNeg = 0 → AW E X nL (pc + 1) lv (.ref (sdX X (12 + i.toNatClampNeg) 0) :: stk) G n1 n2) : AW E X nL pc lv (.int i :: .ref (sdX X 4 1) :: stk) G n1 n2 := by
  obtain ⟨p, l, e, R, s, m, args, below, meth, c2, Q, sd, P1⟩ := X
  intro ls H locs ad hag hl hH hS
  obtain ⟨L, f, j, h1, h2, hi, -⟩ := hH.opn (o := 4) (k := 1) (lo_s rfl) rfl
  have e1 : sd 4 1 = ad 4 1 := (hag 4 1 h4).symm
  have e2 : ad (12 + i.toNatClampNeg) 0 = sd (12 + i.toNatClampNeg) 0 := hag _ 0 hP
  show W p l e R s m args below meth c2 H locs n1 n2 Q (F0 m pc ls (.int i :: .ref (sd 4 1) :: stk))
  rw [e1]
  refine va_aldq (f := fun j => if G 4 1 j = 0 then none else some (ad (12 + j) 0)) F.1 F.2.1 F.2.2.2.2.2.1 h1 j 3 hi rfl hin d ?_
  by_cases z : G 4 1 i.toNatClampNeg = 0
  · rw [if_pos z]
    exact k0 z ls H locs ad hag hl hH hS
  · rw [if_neg z, e2]
    exact k1 z ls H locs ad hag hl hH hS
theorem aw_ald0 (F : Fx E X own cc nL) {i : Int32} (h4 : PX X 4) (hin : vp_in i 12) (d : decode cc pc = .ok (.aaload, 1)) (k0 : G 4 1 i.toNatClampNeg = 0 → AW E X nL (pc + 1) lv (.null :: stk) G n1 n2) (k1 : ¬ G 4 1 i.toNatClampNeg = 0 → ∀ a : Nat, AW E X nL (pc + 1) lv (.ref a :: stk) G n1 n2) : AW E X nL pc lv (.int i :: .ref (sdX X 4 1) :: stk) G n1 n2 := by
  obtain ⟨p, l, e, R, s, m, args, below, meth, c2, Q, sd, P1⟩ := X
  intro ls H locs ad hag hl hH hS
  obtain ⟨L, f, j, h1, h2, hi, -⟩ := hH.opn (o := 4) (k := 1) (lo_s rfl) rfl
  have e1 : sd 4 1 = ad 4 1 := (hag 4 1 h4).symm
  show W p l e R s m args below meth c2 H locs n1 n2 Q (F0 m pc ls (.int i :: .ref (sd 4 1) :: stk))
  rw [e1]
  refine va_aldq (f := fun j => if G 4 1 j = 0 then none else some (ad (12 + j) 0)) F.1 F.2.1 F.2.2.2.2.2.1 h1 j 3 hi rfl hin d ?_
  by_cases z : G 4 1 i.toNatClampNeg = 0
  · rw [if_pos z]
    exact k0 z ls H locs ad hag hl hH hS
  · rw [if_neg z]
    exact k1 z _ ls H locs ad hag hl hH hS
theorem aw_inn (F : Fx E X own cc nL) {a : Nat} {off : Int} {tgt : Nat} (d : decode cc pc = .ok (.ifnonnull off, 3)) (ht : (pc : Int) + off = (tgt : Int)) (kk : AW E X nL tgt lv stk G n1 n2) : AW E X nL pc lv (.ref a :: stk) G n1 n2 := by
  obtain ⟨p, l, e, R, s, m, args, below, meth, c2, Q, sd, P1⟩ := X
  intro ls H locs ad hag hl hH hS
  exact lv_ifnonnull F.1 F.2.1 d ht (kk ls H locs ad hag hl hH hS)
theorem aw_innN (F : Fx E X own cc nL) {off : Int} (d : decode cc pc = .ok (.ifnonnull off, 3)) (kk : AW E X nL (pc + 3) lv stk G n1 n2) : AW E X nL pc lv (.null :: stk) G n1 n2 := by
  obtain ⟨p, l, e, R, s, m, args, below, meth, c2, Q, sd, P1⟩ := X
  intro ls H locs ad hag hl hH hS
  exact lv_ifnonnullN F.1 F.2.1 d (kk ls H locs ad hag hl hH hS)
theorem aw_inu (F : Fx E X own cc nL) {a : Nat} {off : Int} (d : decode cc pc = .ok (.ifnull off, 3)) (kk : AW E X nL (pc + 3) lv stk G n1 n2) : AW E X nL pc lv (.ref a :: stk) G n1 n2 := by
  obtain ⟨p, l, e, R, s, m, args, below, meth, c2, Q, sd, P1⟩ := X
  intro ls H locs ad hag hl hH hS
  exact lv_ifnull F.1 F.2.1 d (kk ls H locs ad hag hl hH hS)
theorem aw_inuN (F : Fx E X own cc nL) {off : Int} {tgt : Nat} (d : decode cc pc = .ok (.ifnull off, 3)) (ht : (pc : Int) + off = (tgt : Int)) (kk : AW E X nL tgt lv stk G n1 n2) : AW E X nL pc lv (.null :: stk) G n1 n2 := by
  obtain ⟨p, l, e, R, s, m, args, below, meth, c2, Q, sd, P1⟩ := X
  intro ls H locs ad hag hl hH hS
  exact lv_ifnullN F.1 F.2.1 d ht (kk ls H locs ad hag hl hH hS)
end
theorem mvR4c : MV yX4_copy cX4_copy 2 none 1 := ⟨⟨v_357, v_3, by decide, by decide, by decide +kernel⟩, v_355, v_356⟩
theorem oc12 {i : Nat} (h : i < 12) : oc (12 + i) = 4 := (by decide : ∀ i : Fin 12, oc (12 + i.val) = 4) ⟨i, h⟩
set_option maxRecDepth 100000 in
set_option maxHeartbeats 4000000 in
theorem k_X0_takeBack {l : Launch} {E : Ev} {P : Nat → Prop} {sd : Nat → Nat → Nat} {G : GH} {post : GH → Prop} {o1 : Nat} (hPP : ∀ o, stt o = true → P o) (ho1 : stt o1 = true) (hc1 : oc o1 = 4) (h : wp_X0_takeBack post o1 G) : Ct l yX0_takeBack cX0_takeBack 3 none 3 0 0 E P sd G [.ref (sd 4 0), .ref (sd o1 0)] (pV post) := by
  refine ct_of (own := "MarkField$Acts") (by decide) rfl (Nat.le_of_ble_eq_true rfl) hPP (fun X F0 T0 el eP es => ?_)
  subst el; subst eP; subst es
  have hP0 := F0.P
  change AW E X 3 0 [(0, .ref (sdX X 4 0)), (1, .ref (sdX X o1 0))] [] G 0 0
  refine aw_pin (fun o => PX X o ∨ 12 ≤ o ∧ o < 24) (fun ad hs => ?_)
  have F : Fx E (wX X ad (fun o => PX X o ∨ 12 ≤ o ∧ o < 24)) _ _ _ := F0.w (fun o ho => Or.inl (hP0 o ho))
  have T : RT E (wX X ad (fun o => PX X o ∨ 12 ≤ o ∧ o < 24)) 3 0 0 none (pV post) := T0.w (fun o ho => Or.inl ho) hs
  have hP := F.P
  have h12 : ∀ i, i < 12 → PX (wX X ad (fun o => PX X o ∨ 12 ≤ o ∧ o < 24)) (12 + i) := fun i hi => by
    rw [wX_P]
    exact Or.inr (by omega)
  have e4 : sdX X 4 0 = sdX (wX X ad (fun o => PX X o ∨ 12 ≤ o ∧ o < 24)) 4 0 := by
    rw [wX_s]
    exact (hs 4 0 (hP0 4 rfl)).symm
  have e1 : sdX X o1 0 = sdX (wX X ad (fun o => PX X o ∨ 12 ≤ o ∧ o < 24)) o1 0 := by
    rw [wX_s]
    exact (hs o1 0 (hP0 o1 ho1)).symm
  rw [e4, e1]
  clear e4 e1 T0 F0 hs
  generalize wX X ad (fun o => PX X o ∨ 12 ≤ o ∧ o < 24) = Y at F T hP h12
  refine aw_al_n F 0 dX0_takeBack_0 rfl rfl ?_
  refine gf0_1 F (lo_s rfl) (hP _ rfl) rfl v_154 dX0_takeBack_1 ?_
  refine aw_bi F dX0_takeBack_4 bi_12 ?_
  refine aw_iadd F dX0_takeBack_6 ?_
  refine aw_ic F dX0_takeBack_7 ic_1 ?_
  refine aw_isub F dX0_takeBack_8 ?_
  refine aw_bi F dX0_takeBack_9 bi_12 ?_
  refine aw_irem F dX0_takeBack_11 (by decide) ?_
  have h := h _ rfl
  generalize (G 4 0 1 + (12 : Int32) - (1 : Int32)) - (G 4 0 1 + (12 : Int32) - (1 : Int32)) / (12 : Int32) * (12 : Int32) = x at h ⊢
  refine aw_is_n (lv1 := [(2, .int x), (0, .ref (sdX Y 4 0)), (1, .ref (sdX Y o1 0))]) F dX0_takeBack_12 rfl (by decide) rfl ?_
  refine aw_al_n F 1 dX0_takeBack_13 rfl rfl ?_
  refine gf0_2 F (lo_s rfl) (hP _ rfl) rfl v_155 dX0_takeBack_14 ?_
  refine aw_if_le (tgt := 54) F dX0_takeBack_17 rfl (fun z => ?_) (fun z => ?_)
  · exact aw_vret F T (Nat.le_of_ble_eq_true rfl) (Nat.le_of_ble_eq_true rfl) ⟨rfl, h.1 z⟩ dX0_takeBack_54
  obtain ⟨hin, h⟩ := h.2 z
  have hx : x.toNatClampNeg < 12 := Nat.not_le.mp (fun q => hin (Or.inr q))
  refine aw_al_n F 1 dX0_takeBack_20 rfl rfl ?_
  refine gr0_0 F (lo_s rfl) (hP _ rfl) rfl v_153 (hP _ rfl) dX0_takeBack_21 ?_
  refine aw_il_n F 0 dX0_takeBack_24 rfl rfl ?_
  refine aw_aldq F (hP 4 rfl) (h12 _ hx) hin dX0_takeBack_25 (fun y => ?_) (fun y => ?_)
  · refine aw_inuN (tgt := 54) F dX0_takeBack_26 rfl ?_
    exact aw_vret F T (Nat.le_of_ble_eq_true rfl) (Nat.le_of_ble_eq_true rfl) ⟨rfl, h.1 y⟩ dX0_takeBack_54
  have h := h.2 y
  refine aw_inu F dX0_takeBack_26 ?_
  refine aw_al_n F 2 dX0_takeBack_29 rfl rfl ?_
  refine aw_al_n F 1 dX0_takeBack_30 rfl rfl ?_
  refine gr0_0 F (lo_s rfl) (hP _ rfl) rfl v_153 (hP _ rfl) dX0_takeBack_31 ?_
  refine aw_il_n F 0 dX0_takeBack_34 rfl rfl ?_
  refine aw_aldq F (hP 4 rfl) (h12 _ hx) hin dX0_takeBack_35 (fun y2 => absurd y2 y) (fun _ => ?_)
  have lo12 : lo G (12 + x.toNatClampNeg) := Or.inr (Or.inr ⟨by omega, by omega, by rw [Nat.add_sub_cancel_left]; exact y⟩)
  refine aw_cVv (stk := []) F T.room [.ref (sdX Y (12 + x.toNatClampNeg) 0)] (k_X4_copy hP (hP _ ho1) (lo_s ho1) hc1 (h12 _ hx) lo12 (oc12 hx) h) mvR4c v_354 cf4 (lo_s ho1) (hP _ ho1) hc1 (by decide) rfl rfl (Nat.le_of_ble_eq_true rfl) ⟨(Nat.le_of_ble_eq_true rfl), (Nat.le_of_ble_eq_true rfl)⟩ ⟨(Nat.le_of_ble_eq_true rfl), (Nat.le_of_ble_eq_true rfl)⟩ dX0_takeBack_36 (fun G2 h => ?_)
  refine aw_al_n F 1 dX0_takeBack_39 rfl rfl ?_
  refine aw_il_n F 0 dX0_takeBack_40 rfl rfl ?_
  refine pf0_1 F (lo_s rfl) (hP _ rfl) rfl v_154 dX0_takeBack_41 (fun G3 e3 => ?_)
  have h := h G3 e3
  refine aw_al_n F 1 dX0_takeBack_44 rfl rfl ?_
  refine aw_dup F dX0_takeBack_45 rfl ?_
  refine gf0_2 F (lo_s rfl) (hP _ rfl) rfl v_155 dX0_takeBack_46 ?_
  refine aw_ic F dX0_takeBack_49 ic_1 ?_
  refine aw_isub F dX0_takeBack_50 ?_
  refine pf0_2 F (lo_s rfl) (hP _ rfl) rfl v_155 dX0_takeBack_51 (fun G4 e4 => ?_)
  exact aw_vret F T (Nat.le_of_ble_eq_true rfl) (Nat.le_of_ble_eq_true rfl) ⟨rfl, h G4 e4⟩ dX0_takeBack_54
