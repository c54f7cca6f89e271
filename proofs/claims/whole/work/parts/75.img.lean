theorem v_69 : (Jvm.Cond.classLink "MarkField" (16 : Nat) "MarkField$Register") ∈ tb := tb_of (List.mem_of_getElem? (i := 69) (by decide +kernel)) rfl
theorem v_71 : (Jvm.Cond.methodLink "MarkField" (18 : Nat) ({ cls := "MarkField$Register", name := "<init>", desc := "()V" } : Jvm.MethodName)) ∈ tb := tb_of (List.mem_of_getElem? (i := 71) (by decide +kernel)) rfl
theorem v_297 : (Jvm.Cond.fieldLink "MarkField" (35 : Nat) "MarkField" "acts" "LMarkField$Acts;") ∈ tb := tb_of (List.mem_of_getElem? (i := 297) (by decide +kernel)) rfl
theorem v_301 : (Jvm.Cond.fieldLink "MarkField" (19 : Nat) "MarkField" "now" "LMarkField$Register;") ∈ tb := tb_of (List.mem_of_getElem? (i := 301) (by decide +kernel)) rfl
theorem v_304 : (Jvm.Cond.fieldLink "MarkField" (29 : Nat) "MarkField" "kept" "LMarkField$Register;") ∈ tb := tb_of (List.mem_of_getElem? (i := 304) (by decide +kernel)) rfl
theorem v_306 : (Jvm.Cond.fieldLink "MarkField" (78 : Nat) "MarkField" "stale" "I") ∈ tb := tb_of (List.mem_of_getElem? (i := 306) (by decide +kernel)) rfl
theorem v_362 : (Jvm.Cond.methodLink "MarkField" (98 : Nat) ({ cls := "MarkField$Register", name := "copy", desc := "(LMarkField$Register;)V" } : Jvm.MethodName)) ∈ tb := tb_of (List.mem_of_getElem? (i := 362) (by decide +kernel)) rfl
theorem v_367 : (Jvm.Cond.methodLink "MarkField" (102 : Nat) ({ cls := "MarkField$Acts", name := "clear", desc := "()V" } : Jvm.MethodName)) ∈ tb := tb_of (List.mem_of_getElem? (i := 367) (by decide +kernel)) rfl
/-! ===== image and back ===== -/
section
variable {E : Ev} {X : Cx} {own : String} {cc : ByteArray} {nL pc : Nat} {lv : List (Nat × Value)} {stk : List Value} {G : GH} {n1 n2 h mc ms : Nat}
theorem aw_gk (F : Fx E X own cc nL) {index : Nat} (h0 : PX X 0) (h11 : PX X 11) (hw : Cond.fieldLink own index "MarkField" "kept" "LMarkField$Register;" ∈ tb) (d : decode cc pc = .ok (.getfield index, 3)) (k0 : G 0 0 10 = 0 → AW E X nL (pc + 3) lv (.null :: stk) G n1 n2) (k1 : ¬ G 0 0 10 = 0 → AW E X nL (pc + 3) lv (.ref (sdX X 11 0) :: stk) G n1 n2) : AW E X nL pc lv (.ref (sdX X 0 0) :: stk) G n1 n2 := by
  obtain ⟨p, l, e, R, s, m, args, below, meth, c2, Q, sd, P⟩ := X
  intro ls H locs ad hag hl hH hS
  obtain ⟨L, f, i, h1, h2, hi, -⟩ := hH.opn (o := 0) (k := 0) (lo_s rfl) rfl
  rw [ct0] at hi
  have e1 : sd 0 0 = ad 0 0 := (hag 0 0 h0).symm
  have e2 : ad 11 0 = sd 11 0 := hag 11 0 h11
  show W p l e R s m args below meth c2 H locs n1 n2 Q (F0 m pc ls (.ref (sd 0 0) :: stk))
  rw [e1]
  refine va_get F.1 F.2.1 F.2.2.2.2.1 cf7.2.1 F.2.2.2.1 F.2.2.2.2.2.1 h1 i hi cf7.1 10 (by decide) (F.2.2.2.2.1 _ hw) (fun _ h => h) (v := va_rf (if G 0 0 10 = 0 then none else some (ad 11 0))) rfl d ?_
  by_cases z : G 0 0 10 = 0
  · rw [if_pos z]
    exact k0 z ls H locs ad hag hl hH hS
  · rw [if_neg z, e2]
    exact k1 z ls H locs ad hag hl hH hS
theorem aw_gk0 (F : Fx E X own cc nL) {index : Nat} (h0 : PX X 0) (hw : Cond.fieldLink own index "MarkField" "kept" "LMarkField$Register;" ∈ tb) (d : decode cc pc = .ok (.getfield index, 3)) (k0 : G 0 0 10 = 0 → AW E X nL (pc + 3) lv (.null :: stk) G n1 n2) (k1 : ¬ G 0 0 10 = 0 → ∀ a : Nat, AW E X nL (pc + 3) lv (.ref a :: stk) G n1 n2) : AW E X nL pc lv (.ref (sdX X 0 0) :: stk) G n1 n2 := by
  obtain ⟨p, l, e, R, s, m, args, below, meth, c2, Q, sd, P⟩ := X
  intro ls H locs ad hag hl hH hS
  obtain ⟨L, f, i, h1, h2, hi, -⟩ := hH.opn (o := 0) (k := 0) (lo_s rfl) rfl
  rw [ct0] at hi
  have e1 : sd 0 0 = ad 0 0 := (hag 0 0 h0).symm
  show W p l e R s m args below meth c2 H locs n1 n2 Q (F0 m pc ls (.ref (sd 0 0) :: stk))
  rw [e1]
  refine va_get F.1 F.2.1 F.2.2.2.2.1 cf7.2.1 F.2.2.2.1 F.2.2.2.2.2.1 h1 i hi cf7.1 10 (by decide) (F.2.2.2.2.1 _ hw) (fun _ h => h) (v := va_rf (if G 0 0 10 = 0 then none else some (ad 11 0))) rfl d ?_
  by_cases z : G 0 0 10 = 0
  · rw [if_pos z]
    exact k0 z ls H locs ad hag hl hH hS
  · rw [if_neg z]
    exact k1 z _ ls H locs ad hag hl hH hS
end
set_option maxRecDepth 100000 in
set_option maxHeartbeats 4000000 in
theorem aw_newK {E : Ev} {X : Cx} {nL : Nat} {lv : List (Nat × Value)} {G : GH} (F : Fx E X "MarkField" cX7_image nL) (hR : RX X = rmh 3 10 690) (hz : G 0 0 10 = 0) (h0 : PX X 0) (h11 : ¬ PX X 11) (kk : AW E X nL 18 lv [] (gKp G) 10 690) : AW E X nL 8 lv [.ref (sdX X 0 0)] G 0 0 := by
  obtain ⟨p, l, e, R, s, m, args, below, meth, c2, Q, sd, P⟩ := X
  intro ls H locs ad hag hl hH hS
  obtain ⟨⟨L, f, h1, hP, hD⟩, hi⟩ := hH
  have e1 : sd 0 0 = ad 0 0 := (hag 0 0 h0).symm
  have main : LW E (p, l, e, R, s, m, args, below, meth, c2, Q, sd, P) nL 8 lv [.ref (ad 0 0)] (va_pl L f) [] 0 0 := by
    refine lw_new F hR (ci := 4) (fs := fs4) cf4 v_69 v_70 v_3 fs4_ok (Nat.le_of_ble_eq_true rfl) (Nat.le_of_ble_eq_true rfl) dX7_image_8 (fun q => ?_)
    refine lw_dup F dX7_image_11 rfl ?_
    refine lw_cI F hR (wr := []) (wc := [(q, .inr (4, fs4))]) (stk := [.ref q, .ref (ad 0 0)]) [] k_X4_init ⟨v_73, v_3, by decide, by decide, by decide +kernel⟩ rfl v_72 (Or.inl v_71) rfl rfl rfl (Nat.le_of_ble_eq_true rfl) ⟨(Nat.le_of_ble_eq_true rfl), (Nat.le_of_ble_eq_true rfl)⟩ ⟨(Nat.le_of_ble_eq_true rfl), (Nat.le_of_ble_eq_true rfl)⟩ dX7_image_12 (fun wd hp => ?_)
    obtain ⟨A, hA, rfl⟩ := hp
    intro ls H1 locs1 hl hP1 hD1 hS1
    have hP1 : va_P E.1 vwCl (va_pl L f ++ rgW E A) H1 := hP1
    have hD1 : va_D (rg E) (va_pl L f ++ rgW E A) := hD1
    have hw0 : ∀ o k, lo G o → lk o k = true → ∃ j : Nat, (va_pl L f)[j]? = some (ad o k, ct E ad G o k) := fun o k g1 g2 => by
      obtain ⟨a1, a2⟩ := h1 o k g1 g2
      obtain ⟨j, hj⟩ := va_pl_get (X := []) (f := f) a1
      rw [a2] at hj
      exact ⟨j, hj⟩
    obtain ⟨j, hj⟩ := hw0 0 0 (lo_s rfl) rfl
    have jl : j < (va_pl L f).length := (List.getElem?_eq_some_iff.mp hj).1
    have ha : (va_pl L f ++ rgW E A)[j]? = some (ad 0 0, .inr (7, fv ad G 0 7)) := by
      rw [List.getElem?_append_left jl, hj, ct0]
      rfl
    refine va_put F.1 F.2.1 F.2.2.2.2.1 cf7.2.1 tyX7 cf7.2.2.1 cf7.2.2.2 F.2.2.2.1 F.2.2.2.2.2.1 hP1 hD1 hS1 j ha cf7.1 10 (by decide) (F.2.2.2.2.1 _ v_304) (fun _ h => h) rfl (cf7.2.2.1 10 (by decide)) rfl rfl (Nat.le_of_ble_eq_true rfl) dX7_image_15 (fun H2 locs2 q1 q2 q3 => ?_)
    have hg : ∀ o k, o ≠ 11 → ¬ (o = 0 ∧ k = 0) → gKp G o k = G o k := fun o k h1 h2 => by
      unfold gKp
      rw [if_neg h1, if_neg h2]
    have hg00 : gKp G 0 0 = upd (G 0 0) 10 1 := by
      unfold gKp
      rw [if_neg (by omega), if_pos ⟨rfl, rfl⟩]
    have lnx : ¬ lo G 11 := by
      rintro (h | h | h)
      · cases h
      · exact h.2 hz
      · omega
    have e3 : ct E (fun o k => if o = 11 then A k else ad o k) (gKp G) 0 0 = .inr (7, (fv ad G 0 7).set 10 (.ref q)) := by
      rw [ct0]
      show (Sum.inr (7, fv (fun o k => if o = 11 then A k else ad o k) (gKp G) 0 7) : va_E) = _
      congr 2
      unfold fv
      rw [hg00, ← hA]
      rfl
    rw [← e3] at q1 q2
    refine kk ls H2 locs2 (fun o k => if o = 11 then A k else ad o k) (fun o k hPo => ?_) hl (hd_grow (x := 11) (A := A) hw0 hi lnx rfl (fun o ho => ?_) (lo_s rfl) rfl hj (fun o k ho hk hne => ?_) ?_ (fun o k => rfl) q1 q2) q3
    · show (if o = 11 then A k else ad o k) = sd o k
      have hne : o ≠ 11 := fun e => h11 (e ▸ hPo)
      rw [if_neg hne]
      exact hag o k hPo
    · rcases ho with h | h | h
      · exact Or.inr (lo_s h)
      · exact Or.inl h.1
      · rw [hg 4 1 (by omega) (by omega)] at h
        exact Or.inr (Or.inr (Or.inr h))
    · have ho2 : o ≠ 11 := fun e => lnx (e ▸ ho)
      by_cases o00 : o = 0
      · subst o00
        have hk0 : k ≠ 0 := fun e => hne ⟨rfl, e⟩
        exfalso
        have : lk 0 k = true := hk
        unfold lk at this
        rw [show oc 0 = 7 from rfl] at this
        have a7 : al 7 k = none := by
          unfold al
          split <;> first | rfl | omega
        rw [a7] at this
        simp [hk0] at this
      · by_cases o41 : o = 4 ∧ k = 1
        · obtain ⟨rfl, rfl⟩ := o41
          rw [ctk (t := (3, 12)) rfl, ctk (t := (3, 12)) rfl, hg 4 1 (by omega) (by omega)]
          show (Sum.inl (E.2.1 3, 12, .inr (.inr (.inr (.inr (fun j => if G 4 1 j = 0 then none else some (if 12 + j = 11 then A 0 else ad (12 + j) 0)))))) : va_E) = _
          have : (fun j => if G 4 1 j = 0 then none else some (if 12 + j = 11 then A 0 else ad (12 + j) 0)) = fun j => if G 4 1 j = 0 then none else some (ad (12 + j) 0) := by
            funext j
            rw [if_neg (show ¬ 12 + j = 11 by omega)]
          rw [this]
          rfl
        · have hfv : fv (fun o k => if o = 11 then A k else ad o k) (gKp G) o (oc o) = fv ad G o (oc o) := by
            have g0 : ∀ j, gKp G o 0 j = G o 0 j := fun j => by rw [hg o 0 ho2 (by omega)]
            have oc7 : oc o ≠ 7 := by
              unfold oc
              split <;> omega
            unfold fv
            split <;> first | (exfalso; exact oc7 ‹_›) | simp only [g0, if_neg ho2, show ¬ ((1 : Nat) = 11) by omega, show ¬ ((8 : Nat) = 11) by omega, show ¬ ((6 : Nat) = 11) by omega, show ¬ ((5 : Nat) = 11) by omega, show ¬ ((10 : Nat) = 11) by omega, if_false]
          unfold ct
          rw [hg o k ho2 (by omega), hfv]
          cases hal : al (oc o) k with
          | none => rfl
          | some t =>
            have h3 := al3 hal (fun w => o41 ⟨oc0 w.1, w.2⟩)
            obtain ⟨t1, t2⟩ := t
            match t1, h3 with
            | 0, _ => rfl
            | 1, _ => rfl
            | 2, _ => rfl
    · funext k
      unfold gKp
      rw [if_pos rfl]
  show W p l e R s m args below meth c2 H locs 0 0 Q (F0 m 8 ls [.ref (sd 0 0)])
  rw [e1]
  exact main ls H locs hl (by rw [List.append_nil]; exact hP) (by rw [List.append_nil]; exact hD) hS
set_option maxRecDepth 100000 in
set_option maxHeartbeats 4000000 in
theorem kj_X7_image {E : Ev} {X : Cx} {G : GH} {post : GH → Prop} {n1 n2 : Nat} (h1 : n1 ≤ 10) (h2 : n2 ≤ 690) (F0 : Fx E X "MarkField" cX7_image 1) (T0 : RT E X 3 10 690 none (pV post)) (hne : ¬ G 0 0 10 = 0) (h : wp_X4_copy (fun (G2 : GH) => post G2) 11 8 G) : AW E X 1 18 [(0, .ref (sdX X 0 0))] [] G n1 n2 := by
  have hP0 := F0.P
  refine aw_pin (fun o => PX X o ∨ o = 11) (fun ad hs => ?_)
  have F : Fx E (wX X ad (fun o => PX X o ∨ o = 11)) _ _ _ := F0.w (fun o ho => Or.inl (hP0 o ho))
  have T : RT E (wX X ad (fun o => PX X o ∨ o = 11)) 3 10 690 none (pV post) := T0.w (fun o ho => Or.inl ho) hs
  have hP := F.P
  have h11 : PX (wX X ad (fun o => PX X o ∨ o = 11)) 11 := by
    rw [wX_P]
    exact Or.inr rfl
  have e0 : sdX X 0 0 = sdX (wX X ad (fun o => PX X o ∨ o = 11)) 0 0 := by
    rw [wX_s]
    exact (hs 0 0 (hP0 0 rfl)).symm
  rw [e0]
  clear e0 T0 F0 hs
  generalize wX X ad (fun o => PX X o ∨ o = 11) = Y at F T hP h11
  have lo11 : lo G 11 := Or.inr (Or.inl ⟨rfl, hne⟩)
  refine aw_al_n F 0 dX7_image_18 rfl rfl ?_
  refine aw_gk F (hP 0 rfl) h11 v_304 dX7_image_19 (fun z => absurd z hne) (fun _ => ?_)
  refine aw_al_n F 0 dX7_image_22 rfl rfl ?_
  refine gr7_7 F (lo_s rfl) (hP _ rfl) rfl v_301 (hP 8 rfl) dX7_image_23 ?_
  refine aw_cVv (stk := []) F T.room [.ref (sdX Y 8 0)] (k_X4_copy hP h11 lo11 rfl (hP _ rfl) (lo_s rfl) rfl h) mvR4c v_362 cf4 lo11 h11 rfl (by decide) rfl rfl (Nat.le_of_ble_eq_true rfl) ⟨(Nat.le_of_ble_eq_true rfl), (Nat.le_of_ble_eq_true rfl)⟩ ⟨h1, h2⟩ dX7_image_26 (fun G2 h => ?_)
  exact aw_vret F T h1 h2 ⟨rfl, h⟩ dX7_image_29
set_option maxRecDepth 100000 in
set_option maxHeartbeats 4000000 in
theorem k_X7_image {l : Launch} {E : Ev} {P : Nat → Prop} {sd : Nat → Nat → Nat} {G : GH} {post : GH → Prop} (hPP : ∀ o, stt o = true → P o) (hPe : P = pS) (h : wp_X7_image post G) : Ct l yX7_image cX7_image 1 none 3 10 690 E P sd G [.ref (sd 0 0)] (pV post) := by
  refine ct_of (own := "MarkField") (by decide) rfl (Nat.le_of_ble_eq_true rfl) hPP (fun X F T el eP es => ?_)
  subst el
  have hPx : PX X = pS := eP.symm.trans hPe
  subst eP; subst es
  have hP := F.P
  change AW E X 1 0 [(0, .ref (sdX X 0 0))] [] G 0 0
  refine aw_al_n F 0 dX7_image_0 rfl rfl ?_
  refine aw_gk0 F (hP 0 rfl) v_304 dX7_image_1 (fun z => ?_) (fun z a => ?_)
  · have h := h _ rfl
    rw [if_pos z] at h
    refine aw_innN F dX7_image_4 ?_
    refine aw_al_n F 0 dX7_image_7 rfl rfl ?_
    refine aw_newK F T.room z (hP 0 rfl) (fun w => ?_) (kj_X7_image (Nat.le_refl _) (Nat.le_refl _) F T ?_ h)
    · rw [hPx] at w
      cases w
    · have : gKp G 0 0 10 = 1 := by
        unfold gKp
        rw [if_neg (by omega), if_pos ⟨rfl, rfl⟩, upd_eq]
      rw [this]
      decide
  · have h := h _ rfl
    rw [if_neg z] at h
    refine aw_inn (tgt := 18) F dX7_image_4 rfl ?_
    exact kj_X7_image (by omega) (by omega) F T z h
set_option maxRecDepth 100000 in
set_option maxHeartbeats 4000000 in
theorem k_X7_back {l : Launch} {E : Ev} {P : Nat → Prop} {sd : Nat → Nat → Nat} {G : GH} {post : Bool → GH → Prop} (hPP : ∀ o, stt o = true → P o) (h : wp_X7_back post G) : Ct l yX7_back cX7_back 1 (some .boolean) 3 0 0 E P sd G [.ref (sd 0 0)] (pB post) := by
  refine ct_of (own := "MarkField") (by decide) rfl (Nat.le_of_ble_eq_true rfl) hPP (fun X F0 T0 el eP es => ?_)
  subst el; subst eP; subst es
  have hP0 := F0.P
  change AW E X 1 0 [(0, .ref (sdX X 0 0))] [] G 0 0
  refine aw_pin (fun o => PX X o ∨ o = 11) (fun ad hs => ?_)
  have F : Fx E (wX X ad (fun o => PX X o ∨ o = 11)) _ _ _ := F0.w (fun o ho => Or.inl (hP0 o ho))
  have T : RT E (wX X ad (fun o => PX X o ∨ o = 11)) 3 0 0 (some .boolean) (pB post) := T0.w (fun o ho => Or.inl ho) hs
  have hP := F.P
  have h11 : PX (wX X ad (fun o => PX X o ∨ o = 11)) 11 := by
    rw [wX_P]
    exact Or.inr rfl
  have e0 : sdX X 0 0 = sdX (wX X ad (fun o => PX X o ∨ o = 11)) 0 0 := by
    rw [wX_s]
    exact (hs 0 0 (hP0 0 rfl)).symm
  rw [e0]
  clear e0 T0 F0 hs
  generalize wX X ad (fun o => PX X o ∨ o = 11) = Y at F T hP h11
  refine aw_al_n F 0 dX7_back_0 rfl rfl ?_
  refine aw_gk F (hP 0 rfl) h11 v_304 dX7_back_1 (fun z => ?_) (fun z => ?_)
  · refine aw_innN F dX7_back_4 ?_
    refine aw_ic F dX7_back_7 ic_0 ?_
    exact aw_zret F T false rfl (Nat.le_of_ble_eq_true rfl) (Nat.le_of_ble_eq_true rfl) ⟨false, rfl, h.1 z⟩ dX7_back_8
  have h := h.2 z
  have lo11 : lo G 11 := Or.inr (Or.inl ⟨rfl, z⟩)
  refine aw_inn (tgt := 9) F dX7_back_4 rfl ?_
  refine aw_al_n F 0 dX7_back_9 rfl rfl ?_
  refine gr7_7 F (lo_s rfl) (hP _ rfl) rfl v_301 (hP 8 rfl) dX7_back_10 ?_
  refine aw_al_n F 0 dX7_back_13 rfl rfl ?_
  refine aw_gk F (hP 0 rfl) h11 v_304 dX7_back_14 (fun y => absurd y z) (fun _ => ?_)
  refine aw_cVv (stk := []) F T.room [.ref (sdX Y 11 0)] (k_X4_copy hP (hP _ rfl) (lo_s rfl) rfl h11 lo11 rfl h) mvR4c v_362 cf4 (lo_s rfl) (hP _ rfl) rfl (by decide) rfl rfl (Nat.le_of_ble_eq_true rfl) ⟨(Nat.le_of_ble_eq_true rfl), (Nat.le_of_ble_eq_true rfl)⟩ ⟨(Nat.le_of_ble_eq_true rfl), (Nat.le_of_ble_eq_true rfl)⟩ dX7_back_17 (fun G1 h => ?_)
  refine aw_al_n F 0 dX7_back_20 rfl rfl ?_
  refine gr7_3 F (lo_s rfl) (hP _ rfl) rfl v_297 (hP 4 rfl) dX7_back_21 ?_
  refine aw_cVv (stk := []) F T.room [] (k_X0_clear hP h) mv_X0_clear v_367 cf0 (lo_s rfl) (hP _ rfl) rfl (by decide) rfl rfl (Nat.le_of_ble_eq_true rfl) ⟨(Nat.le_of_ble_eq_true rfl), (Nat.le_of_ble_eq_true rfl)⟩ ⟨(Nat.le_of_ble_eq_true rfl), (Nat.le_of_ble_eq_true rfl)⟩ dX7_back_24 (fun G2 h => ?_)
  refine aw_al_n F 0 dX7_back_27 rfl rfl ?_
  refine aw_ic F dX7_back_28 ic_3 ?_
  refine pf7_12 F (lo_s rfl) (hP _ rfl) rfl v_306 dX7_back_29 (fun G3 e3 => ?_)
  refine aw_ic F dX7_back_32 ic_1 ?_
  exact aw_zret F T true rfl (Nat.le_of_ble_eq_true rfl) (Nat.le_of_ble_eq_true rfl) ⟨true, rfl, h G3 e3⟩ dX7_back_33
