theorem v_16 : (Jvm.Cond.initialized "java/lang/Math") ∈ tb := tb_of (List.mem_of_getElem? (i := 16) (by decide +kernel)) rfl
theorem v_70 : (Jvm.Cond.instantiable "MarkField$Register" (11 : Nat)) ∈ tb := tb_of (List.mem_of_getElem? (i := 70) (by decide +kernel)) rfl
theorem v_72 : (Jvm.Cond.instanceMethod ({ cls := "MarkField$Register", name := "<init>", desc := "()V" } : Jvm.MethodName)) ∈ tb := tb_of (List.mem_of_getElem? (i := 72) (by decide +kernel)) rfl
theorem v_73 : (Jvm.Cond.code ({ cls := "MarkField$Register", name := "<init>", desc := "()V" } : Jvm.MethodName) prog_6_method_1_code (1 : Nat) (Option.none : Option Jvm.ClassFile.FieldType)) ∈ tb := tb_of (List.mem_of_getElem? (i := 73) (by decide +kernel)) rfl
theorem v_151 : (Jvm.Cond.classLink "MarkField$Acts" (9 : Nat) "MarkField$Register") ∈ tb := tb_of (List.mem_of_getElem? (i := 151) (by decide +kernel)) rfl
theorem v_479 : (Jvm.Cond.static ({ cls := "java/lang/Math", name := "min", desc := "(II)I" } : Jvm.MethodName)) ∈ tb := tb_of (List.mem_of_getElem? (i := 479) (by decide +kernel)) rfl
theorem v_480 : (Jvm.Cond.code ({ cls := "java/lang/Math", name := "min", desc := "(II)I" } : Jvm.MethodName) prog_17_method_69_code (2 : Nat) (Option.some Jvm.ClassFile.FieldType.int)) ∈ tb := tb_of (List.mem_of_getElem? (i := 480) (by decide +kernel)) rfl
theorem v_1034 : (Jvm.Cond.methodLink "MarkField$Acts" (24 : Nat) ({ cls := "MarkField$Register", name := "<init>", desc := "()V" } : Jvm.MethodName)) ∈ tb := tb_of (List.mem_of_getElem? (i := 1034) (by decide +kernel)) rfl
theorem v_1035 : (Jvm.Cond.methodLink "MarkField$Acts" (29 : Nat) ({ cls := "java/lang/Math", name := "min", desc := "(II)I" } : Jvm.MethodName)) ∈ tb := tb_of (List.mem_of_getElem? (i := 1035) (by decide +kernel)) rfl
/-! ===== a register made and put into acts ===== -/
def fs4 : List Value := [.int 0, .int 0, .null, .null, .null, .null, .null, .null, .null, .null, .null]
theorem fs4_ok : ∀ j, j < 11 → defaultValue (tyX4 j) = vp_V fs4 j := by
  intro j hj
  have j11 : j = 0 ∨ j = 1 ∨ j = 2 ∨ j = 3 ∨ j = 4 ∨ j = 5 ∨ j = 6 ∨ j = 7 ∨ j = 8 ∨ j = 9 ∨ j = 10 := by omega
  rcases j11 with rfl | rfl | rfl | rfl | rfl | rfl | rfl | rfl | rfl | rfl | rfl <;> rfl
theorem fv_ag {ad ad' : Nat → Nat → Nat} {G G' : GH} {o : Nat} (h : ∀ x k, x = o ∨ x ≤ 11 → ad' x k = ad x k) (h0 : ∀ j, G' o 0 j = G o 0 j) (c : Nat) : fv ad' G' o c = fv ad G o c := by
  have ho : ∀ k, ad' o k = ad o k := fun k => h o k (Or.inl rfl)
  have h1 : ad' 1 0 = ad 1 0 := h 1 0 (Or.inr (by omega))
  have h2 : ad' 2 0 = ad 2 0 := h 2 0 (Or.inr (by omega))
  have h3 : ad' 3 0 = ad 3 0 := h 3 0 (Or.inr (by omega))
  have h4 : ad' 4 0 = ad 4 0 := h 4 0 (Or.inr (by omega))
  have h5 : ad' 5 0 = ad 5 0 := h 5 0 (Or.inr (by omega))
  have h6 : ad' 6 0 = ad 6 0 := h 6 0 (Or.inr (by omega))
  have h7 : ad' 7 0 = ad 7 0 := h 7 0 (Or.inr (by omega))
  have h8 : ad' 8 0 = ad 8 0 := h 8 0 (Or.inr (by omega))
  have h9 : ad' 9 0 = ad 9 0 := h 9 0 (Or.inr (by omega))
  have h10 : ad' 10 0 = ad 10 0 := h 10 0 (Or.inr (by omega))
  have h11 : ad' 11 0 = ad 11 0 := h 11 0 (Or.inr (by omega))
  unfold fv
  split <;> simp only [h0, ho, h1, h2, h3, h4, h5, h6, h7, h8, h9, h10, h11]
/-- what a cell holds, where no reference of it has moved -/
theorem ct_ag {E : Ev} {ad ad' : Nat → Nat → Nat} {G G' : GH} {o k : Nat} (h : ∀ x k, x = o ∨ x ≤ 11 → ad' x k = ad x k) (h0 : ∀ j, G' o 0 j = G o 0 j) (h1 : ∀ j, G' o k j = G o k j) (h41 : ∀ t, al (oc o) k = some t → t.1 < 3) : ct E ad' G' o k = ct E ad G o k := by
  unfold ct
  rw [show G' o k = G o k from funext h1]
  cases ha : al (oc o) k with
  | none =>
    show Sum.inr (oc o, _) = Sum.inr (oc o, _)
    rw [fv_ag h h0]
  | some t =>
    have := h41 t ha
    obtain ⟨t1, t2⟩ := t
    match t1, this with
    | 0, _ => rfl
    | 1, _ => rfl
    | 2, _ => rfl
theorem al3 {c k : Nat} {t : Nat × Nat} (h : al c k = some t) (hk : ¬ (c = 0 ∧ k = 1)) : t.1 < 3 := by
  unfold al at h
  split at h <;> first | (cases h; decide) | (exact absurd ⟨rfl, rfl⟩ hk) | cases h
theorem oc0 {o : Nat} (h : oc o = 0) : o = 4 := by
  unfold oc at h
  split at h <;> first | rfl | omega
set_option maxRecDepth 100000 in
set_option maxHeartbeats 4000000 in
theorem aw_newA {E : Ev} {X : Cx} {nL : Nat} {lv : List (Nat × Value)} {G : GH} (F : Fx E X "MarkField$Acts" cX0_keep nL) (hR : RX X = rmh 3 10 690) {i : Int32} (hin : vp_in i 12) (hz : G 4 1 i.toNatClampNeg = 0) (h4 : PX X 4) (h12 : ¬ PX X (12 + i.toNatClampNeg)) (kk : AW E X nL 28 lv [] (gNew G i.toNatClampNeg) 10 690) : AW E X nL 20 lv [.int i, .ref (sdX X 4 1)] G 0 0 := by
  obtain ⟨p, l, e, R, s, m, args, below, meth, c2, Q, sd, P⟩ := X
  have hx : i.toNatClampNeg < 12 := Nat.not_le.mp (fun q => hin (Or.inr q))
  intro ls H locs ad hag hl hH hS
  obtain ⟨⟨L, f, h1, hP, hD⟩, hi⟩ := hH
  have e1 : sd 4 1 = ad 4 1 := (hag 4 1 h4).symm
  have main : LW E (p, l, e, R, s, m, args, below, meth, c2, Q, sd, P) nL 20 lv [.int i, .ref (ad 4 1)] (va_pl L f) [] 0 0 := by
    refine lw_new F hR (ci := 4) (fs := fs4) cf4 v_151 v_70 v_3 fs4_ok (Nat.le_of_ble_eq_true rfl) (Nat.le_of_ble_eq_true rfl) dX0_keep_20 (fun q => ?_)
    refine lw_dup F dX0_keep_23 rfl ?_
    refine lw_cI F hR (wr := []) (wc := [(q, .inr (4, fs4))]) (stk := [.ref q, .int i, .ref (ad 4 1)]) [] k_X4_init ⟨v_73, v_3, by decide, by decide, by decide +kernel⟩ rfl v_72 (Or.inl v_1034) rfl rfl rfl (Nat.le_of_ble_eq_true rfl) ⟨(Nat.le_of_ble_eq_true rfl), (Nat.le_of_ble_eq_true rfl)⟩ ⟨(Nat.le_of_ble_eq_true rfl), (Nat.le_of_ble_eq_true rfl)⟩ dX0_keep_24 (fun wd hp => ?_)
    obtain ⟨A, hA, rfl⟩ := hp
    intro ls H1 locs1 hl hP1 hD1 hS1
    have hP1 : va_P E.1 vwCl (va_pl L f ++ rgW E A) H1 := hP1
    have hD1 : va_D (rg E) (va_pl L f ++ rgW E A) := hD1
    have hw0 : ∀ o k, lo G o → lk o k = true → ∃ j : Nat, (va_pl L f)[j]? = some (ad o k, ct E ad G o k) := fun o k g1 g2 => by
      obtain ⟨a1, a2⟩ := h1 o k g1 g2
      obtain ⟨j, hj⟩ := va_pl_get (X := []) (f := f) a1
      rw [a2] at hj
      exact ⟨j, hj⟩
    obtain ⟨j, hj⟩ := hw0 4 1 (lo_s rfl) rfl
    have jl : j < (va_pl L f).length := (List.getElem?_eq_some_iff.mp hj).1
    have ha : (va_pl L f ++ rgW E A)[j]? = some (ad 4 1, .inl (E.2.1 3, 12, .inr (.inr (.inr (.inr (fun j => if G 4 1 j = 0 then none else some (ad (12 + j) 0))))))) := by
      rw [List.getElem?_append_left jl]
      exact hj
    have hv : (va_pl L f ++ rgW E A)[(va_pl L f).length + 0]? = some (q, .inr (4, rgF A)) := by
      rw [← hA]
      exact lw_at rfl
    refine va_astq (r := (RX4, TX4, 11)) F.1 F.2.1 F.2.2.2.2.2.1 hP1 hD1 hS1 j 3 ((va_pl L f).length + 0) 4 ha rfl hv cf4.1 hin dX0_keep_27 (fun H2 locs2 q1 q2 q3 => ?_)
    have hg : ∀ o k, o ≠ 12 + i.toNatClampNeg → ¬ (o = 4 ∧ k = 1) → gNew G i.toNatClampNeg o k = G o k := fun o k h1 h2 => by
      unfold gNew
      rw [if_neg h1, if_neg h2]
    have hg41 : gNew G i.toNatClampNeg 4 1 = upd (G 4 1) i.toNatClampNeg 1 := by
      unfold gNew
      rw [if_neg (by omega), if_pos ⟨rfl, rfl⟩]
    have lnx : ¬ lo G (12 + i.toNatClampNeg) := by
      rintro (h | h | h)
      · have : ∀ i : Fin 12, stt (12 + i.val) = false := by decide
        have := this ⟨i.toNatClampNeg, hx⟩
        rw [show stt (12 + i.toNatClampNeg) = false from this] at h
        cases h
      · omega
      · rw [Nat.add_sub_cancel_left] at h
        exact h.2.2 hz
    have e3 : ct E (fun o k => if o = 12 + i.toNatClampNeg then A k else ad o k) (gNew G i.toNatClampNeg) 4 1 = .inl (E.2.1 3, 12, .inr (.inr (.inr (.inr (va_up (fun j => if G 4 1 j = 0 then none else some (ad (12 + j) 0)) i.toNatClampNeg (some q)))))) := by
      rw [ctk (t := (3, 12)) rfl, hg41]
      have : (fun j => if upd (G 4 1) i.toNatClampNeg 1 j = 0 then none else some (if 12 + j = 12 + i.toNatClampNeg then A 0 else ad (12 + j) 0)) = va_up (fun j => if G 4 1 j = 0 then none else some (ad (12 + j) 0)) i.toNatClampNeg (some q) := by
        funext j
        by_cases w : j = i.toNatClampNeg
        · subst w
          rw [va_up_self, upd_eq, if_neg (by decide), if_pos rfl, hA]
        · rw [va_up_ne _ _ w, upd_ne w, if_neg (show ¬ (12 + j = 12 + i.toNatClampNeg) by omega)]
      show (Sum.inl (E.2.1 3, 12, .inr (.inr (.inr (.inr _)))) : va_E) = _
      rw [this]
    rw [← e3] at q1 q2
    refine kk ls H2 locs2 (fun o k => if o = 12 + i.toNatClampNeg then A k else ad o k) (fun o k hPo => ?_) hl (hd_grow (x := 12 + i.toNatClampNeg) (A := A) hw0 hi lnx (oc12 hx) (fun o ho => ?_) (lo_s rfl) rfl hj (fun o k ho hk hne => ?_) ?_ (fun o k => rfl) q1 q2) q3
    · show (if o = 12 + i.toNatClampNeg then A k else ad o k) = sd o k
      have hne : o ≠ 12 + i.toNatClampNeg := fun e => h12 (e ▸ hPo)
      rw [if_neg hne]
      exact hag o k hPo
    · rcases ho with h | h | h
      · exact Or.inr (lo_s h)
      · rw [hg 0 0 (by omega) (by omega)] at h
        exact Or.inr (Or.inr (Or.inl h))
      · by_cases w : o = 12 + i.toNatClampNeg
        · exact Or.inl w
        · rw [hg41, upd_ne (by omega)] at h
          exact Or.inr (Or.inr (Or.inr h))
    · have ho2 : o ≠ 12 + i.toNatClampNeg := fun e => lnx (e ▸ ho)
      refine ct_ag (fun x k hx2 => if_neg (by rcases hx2 with h | h <;> omega)) (fun j => by rw [hg o 0 ho2 (by omega)]) (fun j => by rw [hg o k ho2 hne]) (fun t ht => al3 ht (fun w => hne ⟨oc0 w.1, w.2⟩))
    · funext k
      unfold gNew
      rw [if_pos rfl]
  show W p l e R s m args below meth c2 H locs 0 0 Q (F0 m 20 ls [.int i, .ref (sd 4 1)])
  rw [e1]
  exact main ls H locs hl (by rw [List.append_nil]; exact hP) (by rw [List.append_nil]; exact hD) hS
set_option maxRecDepth 100000 in
set_option maxHeartbeats 4000000 in
/-- keep, once the place has its register -/
theorem kj_X0_keep {E : Ev} {X : Cx} {G : GH} {post : GH → Prop} {o1 : Nat} {i : Int32} {n1 n2 : Nat} (h1 : n1 ≤ 10) (h2 : n2 ≤ 690) (F0 : Fx E X "MarkField$Acts" cX0_keep 2) (T0 : RT E X 3 10 690 none (pV post)) (ho1 : stt o1 = true) (hc1 : oc o1 = 4) (hi : G 4 0 1 = i) (hin : vp_in i 12) (hne : ¬ G 4 1 i.toNatClampNeg = 0) (h : wp_X4_copy (fun (G2 : GH) => ∀ G3 : GH, G3 = gs G2 4 0 (upd (G2 4 0) 1 ((G2 4 0 1 + (1 : Int32)) - (G2 4 0 1 + (1 : Int32)) / (12 : Int32) * (12 : Int32))) → ∀ G4 : GH, G4 = gs G3 4 0 (upd (G3 4 0) 2 (imin (G3 4 0 2 + (1 : Int32)) (12 : Int32))) → post G4) (12 + i.toNatClampNeg) o1 G) : AW E X 2 28 [(0, .ref (sdX X 4 0)), (1, .ref (sdX X o1 0))] [] G n1 n2 := by
  have hP0 := F0.P
  refine aw_pin (fun o => PX X o ∨ 12 ≤ o ∧ o < 24) (fun ad hs => ?_)
  have F : Fx E (wX X ad (fun o => PX X o ∨ 12 ≤ o ∧ o < 24)) _ _ _ := F0.w (fun o ho => Or.inl (hP0 o ho))
  have T : RT E (wX X ad (fun o => PX X o ∨ 12 ≤ o ∧ o < 24)) 3 10 690 none (pV post) := T0.w (fun o ho => Or.inl ho) hs
  have hP := F.P
  have h12 : ∀ i, i < 12 → PX (wX X ad (fun o => PX X o ∨ 12 ≤ o ∧ o < 24)) (12 + i) := fun i hi => by
    rw [wX_P]
    exact Or.inr (by omega)
  have e4 : sdX X 4 0 = sdX (wX X ad (fun o => PX X o ∨ 12 ≤ o ∧ o < 24)) 4 0 := by
    rw [wX_s]
    exact (hs 4 0 (hP0 4 rfl)).symm
  have e1 : sdX X o1 0 = sdX (wX X ad (fun o => PX X o ∨ 12 ≤ o ∧ o < 24)) o1 0 := by
    rw [wX_s]
    exact (hs o1 0 (hP0 o1 ho1)).symm
  rw [e4, e1]
  clear e4 e1 T0 F0 hs
  generalize wX X ad (fun o => PX X o ∨ 12 ≤ o ∧ o < 24) = Y at F T hP h12
  have hx : i.toNatClampNeg < 12 := Nat.not_le.mp (fun q => hin (Or.inr q))
  have lo12 : lo G (12 + i.toNatClampNeg) := Or.inr (Or.inr ⟨by omega, by omega, by rw [Nat.add_sub_cancel_left]; exact hne⟩)
  refine aw_al_n F 0 dX0_keep_28 rfl rfl ?_
  refine gr0_0 F (lo_s rfl) (hP _ rfl) rfl v_153 (hP _ rfl) dX0_keep_29 ?_
  refine aw_al_n F 0 dX0_keep_32 rfl rfl ?_
  refine gf0_1 F (lo_s rfl) (hP _ rfl) rfl v_154 dX0_keep_33 ?_
  rw [hi]
  refine aw_aldq F (hP 4 rfl) (h12 _ hx) hin dX0_keep_36 (fun y2 => absurd y2 hne) (fun _ => ?_)
  refine aw_al_n F 1 dX0_keep_37 rfl rfl ?_
  refine aw_cVv (stk := []) F T.room [.ref (sdX Y o1 0)] (k_X4_copy hP (h12 _ hx) lo12 (oc12 hx) (hP _ ho1) (lo_s ho1) hc1 h) mvR4c v_354 cf4 lo12 (h12 _ hx) (oc12 hx) (by decide) rfl rfl (Nat.le_of_ble_eq_true rfl) ⟨(Nat.le_of_ble_eq_true rfl), (Nat.le_of_ble_eq_true rfl)⟩ ⟨h1, h2⟩ dX0_keep_38 (fun G2 h => ?_)
  refine aw_al_n F 0 dX0_keep_41 rfl rfl ?_
  refine aw_al_n F 0 dX0_keep_42 rfl rfl ?_
  refine gf0_1 F (lo_s rfl) (hP _ rfl) rfl v_154 dX0_keep_43 ?_
  refine aw_ic F dX0_keep_46 ic_1 ?_
  refine aw_iadd F dX0_keep_47 ?_
  refine aw_bi F dX0_keep_48 bi_12 ?_
  refine aw_irem F dX0_keep_50 (by decide) ?_
  refine pf0_1 F (lo_s rfl) (hP _ rfl) rfl v_154 dX0_keep_51 (fun G3 e3 => ?_)
  have h := h G3 e3
  refine aw_al_n F 0 dX0_keep_54 rfl rfl ?_
  refine aw_al_n F 0 dX0_keep_55 rfl rfl ?_
  refine gf0_2 F (lo_s rfl) (hP _ rfl) rfl v_155 dX0_keep_56 ?_
  refine aw_ic F dX0_keep_59 ic_1 ?_
  refine aw_iadd F dX0_keep_60 ?_
  refine aw_bi F dX0_keep_61 bi_12 ?_
  refine aw_min F T.room v_1035 v_479 v_16 v_480 (by decide) (Nat.le_of_ble_eq_true rfl) ⟨h1, h2⟩ dX0_keep_63 ?_
  refine pf0_2 F (lo_s rfl) (hP _ rfl) rfl v_155 dX0_keep_66 (fun G4 e4 => ?_)
  exact aw_vret F T h1 h2 ⟨rfl, h G4 e4⟩ dX0_keep_69
set_option maxRecDepth 100000 in
set_option maxHeartbeats 4000000 in
theorem k_X0_keep {l : Launch} {E : Ev} {P : Nat → Prop} {sd : Nat → Nat → Nat} {G : GH} {post : GH → Prop} {o1 : Nat} (hPP : ∀ o, stt o = true → P o) (hPe : P = pS) (ho1 : stt o1 = true) (hc1 : oc o1 = 4) (h : wp_X0_keep post o1 G) : Ct l yX0_keep cX0_keep 2 none 3 10 690 E P sd G [.ref (sd 4 0), .ref (sd o1 0)] (pV post) := by
  refine ct_of (own := "MarkField$Acts") (by decide) rfl (Nat.le_of_ble_eq_true rfl) hPP (fun X F T el eP es => ?_)
  subst el
  have hPx : PX X = pS := eP.symm.trans hPe
  subst eP; subst es
  have hP := F.P
  change AW E X 2 0 [(0, .ref (sdX X 4 0)), (1, .ref (sdX X o1 0))] [] G 0 0
  obtain ⟨hin, h⟩ := h
  have hx : (G 4 0 1).toNatClampNeg < 12 := Nat.not_le.mp (fun q => hin (Or.inr q))
  refine aw_al_n F 0 dX0_keep_0 rfl rfl ?_
  refine gr0_0 F (lo_s rfl) (hP _ rfl) rfl v_153 (hP _ rfl) dX0_keep_1 ?_
  refine aw_al_n F 0 dX0_keep_4 rfl rfl ?_
  refine gf0_1 F (lo_s rfl) (hP _ rfl) rfl v_154 dX0_keep_5 ?_
  refine aw_ald0 F (hP 4 rfl) hin dX0_keep_8 (fun z => ?_) (fun z a => ?_)
  · have h := h _ rfl
    rw [if_pos z] at h
    refine aw_innN F dX0_keep_9 ?_
    refine aw_al_n F 0 dX0_keep_12 rfl rfl ?_
    refine gr0_0 F (lo_s rfl) (hP _ rfl) rfl v_153 (hP _ rfl) dX0_keep_13 ?_
    refine aw_al_n F 0 dX0_keep_16 rfl rfl ?_
    refine gf0_1 F (lo_s rfl) (hP _ rfl) rfl v_154 dX0_keep_17 ?_
    have g40 : gNew G (G 4 0 1).toNatClampNeg 4 0 = G 4 0 := by
      unfold gNew
      rw [if_neg (by omega), if_neg (by omega)]
    have g41 : gNew G (G 4 0 1).toNatClampNeg 4 1 (G 4 0 1).toNatClampNeg = 1 := by
      unfold gNew
      rw [if_neg (by omega), if_pos ⟨rfl, rfl⟩, upd_eq]
    refine aw_newA F T.room hin z (hP 4 rfl) (fun w => ?_) (kj_X0_keep (i := G 4 0 1) (Nat.le_refl _) (Nat.le_refl _) F T ho1 hc1 (by rw [g40]) hin (by rw [g41]; decide) h)
    rw [hPx] at w
    have : ∀ i : Fin 12, stt (12 + i.val) = false := by decide
    have := this ⟨(G 4 0 1).toNatClampNeg, hx⟩
    rw [show pS (12 + (G 4 0 1).toNatClampNeg) = (stt (12 + (G 4 0 1).toNatClampNeg) = true) from rfl, show stt (12 + (G 4 0 1).toNatClampNeg) = false from this] at w
    cases w
  · have h := h _ rfl
    rw [if_neg z] at h
    refine aw_inn (tgt := 28) F dX0_keep_9 rfl ?_
    exact kj_X0_keep (i := G 4 0 1) (by omega) (by omega) F T ho1 hc1 rfl hin z h
