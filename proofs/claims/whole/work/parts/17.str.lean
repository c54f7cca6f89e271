/-! ===== String.length, String.charAt of the texts ===== -/
section AWS
variable {E : Ev} {X : Cx} {own : String} {cc : ByteArray} {nL pc : Nat} {lv : List (Nat × Value)} {stk : List Value} {G : GH} {n1 n2 h mc ms : Nat}
theorem aw_ldcS (F : Fx E X own cc nL) (i : Nat) (hi : i < nsx) {index : Nat} {tx : String} (hq : sxT[i]? = some (own, index, tx)) (d : decode cc pc = .ok (.ldc index, 2)) (kk : AW E X nL (pc + 2) lv (.ref (E.2.2.2.1 i) :: stk) G n1 n2) : AW E X nL pc lv stk G n1 n2 := by
  obtain ⟨p, l, e, R, s, m, args, below, meth, c2, Q, sd, P⟩ := X
  intro ls H locs ad hag hl hH hS
  exact va_ldcS F.1 F.2.1 F.2.2.2.1 ((F.2.2.2.2.2.2.1.2.2.1 i hi).1 _ hq) d (kk ls H locs ad hag hl hH hS)
theorem aw_gsC (F : Fx E X own cc nL) {index : Nat} (hw : Cond.fieldLink own index "java/lang/String" "COMPACT_STRINGS" "Z" ∈ tb) (d : decode cc pc = .ok (.getstatic index, 3)) (kk : AW E X nL (pc + 3) lv (.int 1 :: stk) G n1 n2) : AW E X nL pc lv stk G n1 n2 := by
  obtain ⟨p, l, e, R, s, m, args, below, meth, c2, Q, sd, P⟩ := X
  intro ls H locs ad hag hl hH hS
  exact va_gets F.1 F.2.1 F.2.2.2.2.2.2.1.2.2.2.2.2.1 hS F.2.2.2.1 (F.2.2.2.2.1 _ hw) (fun _ h => h) d (kk ls H locs ad hag hl hH hS)
theorem aw_gsq (F : Fx E X own cc nL) {index : Nat} (hw : Cond.fieldLink own index "jdk/internal/util/Preconditions" "SIOOBE_FORMATTER" "Ljava/util/function/BiFunction;" ∈ tb) (d : decode cc pc = .ok (.getstatic index, 3)) (kk : ∀ v : Value, (v = .null ∨ ∃ a, v = .ref a) → AW E X nL (pc + 3) lv (v :: stk) G n1 n2) : AW E X nL pc lv stk G n1 n2 := by
  obtain ⟨p, l, e, R, s, m, args, below, meth, c2, Q, sd, P⟩ := X
  intro ls H locs ad hag hl hH hS
  rcases F.2.2.2.2.2.2.1.2.2.2.2.2.2.1 with hZ | ⟨t, hZ⟩
  · exact va_gets F.1 F.2.1 hZ hS F.2.2.2.1 (F.2.2.2.2.1 _ hw) (fun _ h => h) d (kk _ (Or.inl rfl) ls H locs ad hag hl hH hS)
  · exact va_gets F.1 F.2.1 hZ hS F.2.2.2.1 (F.2.2.2.2.1 _ hw) (fun _ h => h) d (kk _ (Or.inr ⟨t, rfl⟩) ls H locs ad hag hl hH hS)
theorem aw_gsc (F : Fx E X own cc nL) {i : Nat} (hi : i < nsx) {index : Nat} (hw : Cond.fieldLink own index "java/lang/String" "coder" "B" ∈ tb) (d : decode cc pc = .ok (.getfield index, 3)) (kk : AW E X nL (pc + 3) lv (.int 0 :: stk) G n1 n2) : AW E X nL pc lv (.ref (E.2.2.2.1 i) :: stk) G n1 n2 := by
  obtain ⟨p, l, e, R, s, m, args, below, meth, c2, Q, sd, P⟩ := X
  intro ls H locs ad hag hl hH hS
  exact vk_getf F.1 F.2.1 (F.2.2.2.2.2.2.1.2.2.1 i hi).2.2.1 hS F.2.2.2.1 (F.2.2.2.2.1 _ hw) (fun _ h => h) d (kk ls H locs ad hag hl hH hS)
theorem aw_gsv (F : Fx E X own cc nL) {i : Nat} (hi : i < nsx) {index : Nat} (hw : Cond.fieldLink own index "java/lang/String" "value" "[B" ∈ tb) (d : decode cc pc = .ok (.getfield index, 3)) (kk : AW E X nL (pc + 3) lv (.ref (E.2.2.2.2.1 i) :: stk) G n1 n2) : AW E X nL pc lv (.ref (E.2.2.2.1 i) :: stk) G n1 n2 := by
  obtain ⟨p, l, e, R, s, m, args, below, meth, c2, Q, sd, P⟩ := X
  intro ls H locs ad hag hl hH hS
  exact vk_getf F.1 F.2.1 (F.2.2.2.2.2.2.1.2.2.1 i hi).2.2.2.1 hS F.2.2.2.1 (F.2.2.2.2.1 _ hw) (fun _ h => h) d (kk ls H locs ad hag hl hH hS)
theorem aw_sln (F : Fx E X own cc nL) {i : Nat} (hi : i < nsx) (d : decode cc pc = .ok (.arraylength, 1)) (kk : AW E X nL (pc + 1) lv (.int (nI (sxL i)) :: stk) G n1 n2) : AW E X nL pc lv (.ref (E.2.2.2.2.1 i) :: stk) G n1 n2 := by
  obtain ⟨p, l, e, R, s, m, args, below, meth, c2, Q, sd, P⟩ := X
  intro ls H locs ad hag hl hH hS
  exact va_tlen F.1 F.2.1 (F.2.2.2.2.2.2.1.2.2.1 i hi).2.2.2.2 hS rfl d (kk ls H locs ad hag hl hH hS)
theorem aw_sbl (F : Fx E X own cc nL) {i : Nat} (hi : i < nsx) {j : Int32} (hin : vp_in j (sxL i)) (d : decode cc pc = .ok (.baload, 1)) (kk : AW E X nL (pc + 1) lv (.int (nI (sxC i j.toNatClampNeg)) :: stk) G n1 n2) : AW E X nL pc lv (.int j :: .ref (E.2.2.2.2.1 i) :: stk) G n1 n2 := by
  obtain ⟨p, l, e, R, s, m, args, below, meth, c2, Q, sd, P⟩ := X
  intro ls H locs ad hag hl hH hS
  exact va_tb F.1 F.2.1 (F.2.2.2.2.2.2.1.2.2.1 i hi).2.2.2.2 hS hin rfl d (kk ls H locs ad hag hl hH hS)
theorem aw_tret (F : Fx E X own cc nL) {post : Option Value → GH → Prop} {ty : FieldType} (T : RT E X h mc ms (some ty) post) {v : Int32} (hn : narrow ty (.int v) = .int v) (h1 : n1 ≤ mc) (h2 : n2 ≤ ms) (hp : post (some (.int v)) G) (d : decode cc pc = .ok (.ireturn, 1)) : AW E X nL pc lv [.int v] G n1 n2 := by
  obtain ⟨p, l, e, R, s, m, args, below, meth, c2, Q, sd, P⟩ := X
  obtain ⟨rfl, hr, P0, sd0, g1, g2, rfl⟩ := T
  intro ls H locs ad hag hl hH hS
  have hlocks : meth.locks = false := F.2.2.2.2.2.2.2.2.1
  refine W.widen (k := mc) (n := ms) h1 h2 ?_
  exact W.zret F.1 F.2.1 hr hn (fun t ht hW => ⟨⟨_, G, rfl, hp, ad, agr hag g1 g2, by rw [ht]; exact hH⟩, hS.F ht⟩) hS.2.2 d
/-- a call of a text's method -/
theorem aw_cVs (F : Fx E X own cc nL) (hR : RX X = rmh h mc ms) {y : MethodName} {bytes : ByteArray} {maxL : Nat} {ret : Option FieldType} {n index h2 i : Nat} {post : Int32 → GH → Prop} (As : List Value)
    (hM : Ct (lX X) y bytes maxL ret h2 0 0 E (PX X) (sdX X) G (.ref (E.2.2.2.1 i) :: As) (pI post)) (mv : MV y bytes maxL ret n) (hw : Cond.methodLink own index y ∈ tb) (hi : i < nsx) (hyc : y.cls = "java/lang/String")
    (hn : As.length = n) {st0 : List Value} (hst : st0 = As.reverse ++ .ref (E.2.2.2.1 i) :: stk) (hrm : (stk.map fun v => v.category).sum ≤ 8) (hfr : h2 + 1 ≤ h ∧ 8 + (maxL + 11) + 64 * h2 ≤ 64 * h) (hce : n1 ≤ mc ∧ n2 ≤ ms) (d : decode cc pc = .ok (.invokevirtual index, 3))
    (kk : ∀ (r : Int32) (G1 : GH), post r G1 → AW E X nL (pc + 3) lv (.int r :: stk) G1 n1 n2) : AW E X nL pc lv st0 G n1 n2 := by
  have kk2 : ∀ (v : Option Value) (G1 : GH), pI post v G1 → AW E X nL (pc + 3) lv (v.toList ++ stk) G1 (n1 + 0) (n2 + 0) := fun v G1 hp => by
    obtain ⟨r, rfl, hp⟩ := hp
    exact kk r G1 hp
  have af := aw_after (st0 := st0) (a := (Value.ref (E.2.2.2.1 i) :: As).toArray) F kk2
  obtain ⟨p, l, e, R, s, m, args, below, meth, c2, Q, sd, P⟩ := X
  have hR : R = rmh h mc ms := hR
  subst hR
  intro ls H locs ad hag hl hH hS
  refine af ls H locs hl hS ?_
  have hts := F.2.2.2.2.1
  have cb : CallB (rmh h mc ms) s args own index y bytes maxL ret (.code y bytes maxL ret :: tb) (rmh h2 0 0) 0 0 n :=
    callB_of n hts (tb_in0 mv.1.1) rfl rfl rfl (hts _ mv.1.2.1) (hts _ hw) ⟨mv.1.2.2.1, mv.1.2.2.2.1, mv.1.2.2.2.2⟩ hfr
  refine va_runV (C := y.cls) (As := As) (b := E.2.2.2.1 i) (rest := stk) (Ts := tb) ⟨F.1, F.2.1, F.2.2.1, F.2.2.2.1, hts⟩ hM ⟨cb, hts _ mv.2.1, hts _ mv.2.2⟩ ⟨qP_blind, ?_, qP_pre hag F.2.2.2.2.2.1 F.2.2.2.2.2.2.1 F.2.2.2.2.2.2.2.1 hH hS⟩ rfl hn hl.1 hst (lv_room (m := m) (pc := pc) (ls := ls) (rest := st0) hrm) d ⟨hce.1, hce.2⟩
  obtain ⟨cell, g1, g2, g3, -⟩ := (F.2.2.2.2.2.2.1.2.2.1 i hi).2.1.kept hS.2.1
  rw [hyc]
  exact ⟨cell, g1, g2, g3⟩
end AWS
theorem k_coder {l : Launch} {E : Ev} {P : Nat → Prop} {sd : Nat → Nat → Nat} {G : GH} {post : Int32 → GH → Prop} {w : Nat} (hPP : ∀ o, stt o = true → P o) (hw : w < nsx) (h : post 0 G) : Ct l yJ0_coder_7d493 cJ0_coder_7d493 1 (some .byte) 0 0 0 E P sd G [.ref (E.2.2.2.1 w)] (pI post) := by
  refine ct_of (own := "java/lang/String") (by decide) rfl (Nat.le_of_ble_eq_true rfl) hPP (fun X F T el eP es => ?_)
  subst el; subst eP; subst es
  change AW E X 1 0 [(0, .ref (E.2.2.2.1 w))] [] G 0 0
  refine aw_gsC F w_498 dJ0_coder_7d493_0 ?_
  refine aw_if_eq (tgt := 13) F dJ0_coder_7d493_3 (by decide) (fun c => absurd c (by decide)) (fun _ => ?_)
  refine aw_al_n F 0 dJ0_coder_7d493_6 rfl rfl ?_
  refine aw_gsc F hw w_1815 dJ0_coder_7d493_7 ?_
  refine aw_go (tgt := 14) F dJ0_coder_7d493_10 (by decide) ?_
  exact aw_tret F T rfl (Nat.le_refl _) (Nat.le_refl _) ⟨_, rfl, h⟩ dJ0_coder_7d493_14
theorem k_isLatin1 {l : Launch} {E : Ev} {P : Nat → Prop} {sd : Nat → Nat → Nat} {G : GH} {post : Int32 → GH → Prop} {w : Nat} (hPP : ∀ o, stt o = true → P o) (hw : w < nsx) (h : post 1 G) : Ct l yJ0_isLatin1_aae02 cJ0_isLatin1_aae02 1 (some .boolean) 0 0 0 E P sd G [.ref (E.2.2.2.1 w)] (pI post) := by
  refine ct_of (own := "java/lang/String") (by decide) rfl (Nat.le_of_ble_eq_true rfl) hPP (fun X F T el eP es => ?_)
  subst el; subst eP; subst es
  change AW E X 1 0 [(0, .ref (E.2.2.2.1 w))] [] G 0 0
  refine aw_gsC F w_498 dJ0_isLatin1_aae02_0 ?_
  refine aw_if_eq (tgt := 17) F dJ0_isLatin1_aae02_3 (by decide) (fun c => absurd c (by decide)) (fun _ => ?_)
  refine aw_al_n F 0 dJ0_isLatin1_aae02_6 rfl rfl ?_
  refine aw_gsc F hw w_1815 dJ0_isLatin1_aae02_7 ?_
  refine aw_if_ne (tgt := 17) F dJ0_isLatin1_aae02_10 (by decide) (fun c => absurd rfl c) (fun _ => ?_)
  refine aw_ic (v := 1) F dJ0_isLatin1_aae02_13 (by decide) ?_
  refine aw_go (tgt := 18) F dJ0_isLatin1_aae02_14 (by decide) ?_
  exact aw_tret F T rfl (Nat.le_refl _) (Nat.le_refl _) ⟨_, rfl, h⟩ dJ0_isLatin1_aae02_18
theorem sxL_lt : ∀ i, i < nsx → sxL i < 64 := by decide +kernel
theorem k_slength {l : Launch} {E : Ev} {P : Nat → Prop} {sd : Nat → Nat → Nat} {G : GH} {post : Int32 → GH → Prop} {w : Nat} (hPP : ∀ o, stt o = true → P o) (hw : w < nsx) (h : post (nI (sxL w)) G) : Ct l yJ0_length_8abf5 cJ0_length_8abf5 1 (some .int) 1 0 0 E P sd G [.ref (E.2.2.2.1 w)] (pI post) := by
  refine ct_of (own := "java/lang/String") (by decide) rfl (Nat.le_of_ble_eq_true rfl) hPP (fun X F T el eP es => ?_)
  subst el; subst eP; subst es
  change AW E X 1 0 [(0, .ref (E.2.2.2.1 w))] [] G 0 0
  refine aw_al_n F 0 dJ0_length_8abf5_0 rfl rfl ?_
  refine aw_gsv F hw w_1814 dJ0_length_8abf5_1 ?_
  refine aw_sln F hw dJ0_length_8abf5_4 ?_
  refine aw_al_n F 0 dJ0_length_8abf5_5 rfl rfl ?_
  refine aw_cVs (post := fun r G1 => r = 0 ∧ G1 = G) (stk := [.int (nI (sxL w))]) F T.room [] (k_coder F.P hw ⟨rfl, rfl⟩) mv_J0_coder_7d493 w_494 hw rfl rfl rfl (Nat.le_of_ble_eq_true rfl) ⟨Nat.le_of_ble_eq_true rfl, Nat.le_of_ble_eq_true rfl⟩ ⟨Nat.le_refl _, Nat.le_refl _⟩ dJ0_length_8abf5_6 (fun r G1 hr => ?_)
  obtain ⟨rfl, rfl⟩ := hr
  refine aw_ishr F dJ0_length_8abf5_9 ?_
  rw [sc_shr0 (Nat.lt_trans (sxL_lt w hw) (by decide))]
  exact aw_iret F T (Nat.le_refl _) (Nat.le_refl _) ⟨_, rfl, h⟩ dJ0_length_8abf5_10
theorem k_preCheck {l : Launch} {E : Ev} {P : Nat → Prop} {sd : Nat → Nat → Nat} {G : GH} {post : Int32 → GH → Prop} {i n : Int32} {v : Value} (hPP : ∀ o, stt o = true → P o) (hv : v = .null ∨ ∃ a, v = .ref a) (h0 : ¬ i < 0) (h1 : i < n) (h : post i G) : Ct l yJ3_checkIndex_8e157 cJ3_checkIndex_8e157 3 (some .int) 0 0 0 E P sd G [.int i, .int n, v] (pI post) := by
  have hlen : (lg_sl [.int i, .int n, v]).length ≤ 3 := by
    rcases hv with rfl | ⟨a, rfl⟩ <;> exact Nat.le_of_ble_eq_true rfl
  refine ct_of (own := "jdk/internal/util/Preconditions") (by decide) rfl hlen hPP (fun X F T el eP es => ?_)
  subst el; subst eP; subst es
  have key : AW E X 3 0 [(0, .int i), (1, .int n)] [] G 0 0 := by
    refine aw_il_n F 0 dJ3_checkIndex_8e157_0 rfl rfl ?_
    refine aw_if_lt (tgt := 9) F dJ3_checkIndex_8e157_1 (by decide) (fun c => absurd c h0) (fun _ => ?_)
    refine aw_il_n F 0 dJ3_checkIndex_8e157_4 rfl rfl ?_
    refine aw_il_n F 1 dJ3_checkIndex_8e157_5 rfl rfl ?_
    refine aw_icmp_lt (tgt := 16) F dJ3_checkIndex_8e157_6 (by decide) (fun _ => ?_) (fun c => absurd h1 c)
    refine aw_il_n F 0 dJ3_checkIndex_8e157_16 rfl rfl ?_
    exact aw_iret F T (Nat.le_refl _) (Nat.le_refl _) ⟨_, rfl, h⟩ dJ3_checkIndex_8e157_17
  rcases hv with rfl | ⟨a, rfl⟩ <;> exact aw_sub [0, 1] rfl key
theorem k_sCheck {l : Launch} {E : Ev} {P : Nat → Prop} {sd : Nat → Nat → Nat} {G : GH} {post : GH → Prop} {i n : Int32} (hPP : ∀ o, stt o = true → P o) (h0 : ¬ i < 0) (h1 : i < n) (h : post G) : Ct l yJ0_checkIndex_df160 cJ0_checkIndex_df160 2 none 1 0 0 E P sd G [.int i, .int n] (pV post) := by
  refine ct_of (own := "java/lang/String") (by decide) rfl (Nat.le_of_ble_eq_true rfl) hPP (fun X F T el eP es => ?_)
  subst el; subst eP; subst es
  change AW E X 2 0 [(0, .int i), (1, .int n)] [] G 0 0
  refine aw_il_n F 0 dJ0_checkIndex_df160_0 rfl rfl ?_
  refine aw_il_n F 1 dJ0_checkIndex_df160_1 rfl rfl ?_
  refine aw_gsq F w_514 dJ0_checkIndex_df160_2 (fun v hv => ?_)
  refine aw_cSi (post := fun r G1 => G1 = G) (stk := []) F T.room [.int i, .int n, v] (k_preCheck F.P hv h0 h1 rfl) ms_J3_checkIndex_8e157 w_516 rfl rfl (Nat.le_of_ble_eq_true rfl) ⟨Nat.le_of_ble_eq_true rfl, Nat.le_of_ble_eq_true rfl⟩ ⟨Nat.le_refl _, Nat.le_refl _⟩ dJ0_checkIndex_df160_5 (fun r G1 hr => ?_)
  subst hr
  refine aw_pop F dJ0_checkIndex_df160_8 rfl ?_
  exact aw_vret F T (Nat.le_refl _) (Nat.le_refl _) ⟨rfl, h⟩ dJ0_checkIndex_df160_9
theorem sx_ch : ∀ c, c < 128 → ((nI c &&& 255).toUInt32 % 65536).toInt32 = nI c ∧ narrow .char (.int (nI c)) = .int (nI c) := by decide +kernel
theorem sxC_lt : ∀ i, i < nsx → ∀ k, k < sxL i → sxC i k < 128 := by decide +kernel
theorem vin_nn {i : Int32} {n : Nat} (h : vp_in i n) : ¬ i < 0 := fun q => h (Or.inl q)
theorem vin_lt {i : Int32} {n : Nat} (h : vp_in i n) : i.toNatClampNeg < n := Nat.not_le.mp fun q => h (Or.inr q)
theorem vin_ltI {i : Int32} {n : Nat} (h : vp_in i n) (hn : n < 2 ^ 31) : i < nI n := by
  obtain ⟨j, hj, rfl⟩ := vp_in_of h hn
  exact nI_lt hj hn
theorem k_l1charAt {l : Launch} {E : Ev} {P : Nat → Prop} {sd : Nat → Nat → Nat} {G : GH} {post : Int32 → GH → Prop} {w : Nat} {k : Int32} (hPP : ∀ o, stt o = true → P o) (hw : w < nsx) (hk : vp_in k (sxL w)) (h : post (nI (sxC w k.toNatClampNeg)) G) : Ct l yJ1_charAt_3b067 cJ1_charAt_3b067 2 (some .char) 2 0 0 E P sd G [.ref (E.2.2.2.2.1 w), .int k] (pI post) := by
  refine ct_of (own := "java/lang/StringLatin1") (by decide) rfl (Nat.le_of_ble_eq_true rfl) hPP (fun X F T el eP es => ?_)
  subst el; subst eP; subst es
  change AW E X 2 0 [(0, .ref (E.2.2.2.2.1 w)), (1, .int k)] [] G 0 0
  have hL := sxL_lt w hw
  refine aw_il_n F 1 dJ1_charAt_3b067_0 rfl rfl ?_
  refine aw_al_n F 0 dJ1_charAt_3b067_1 rfl rfl ?_
  refine aw_sln F hw dJ1_charAt_3b067_2 ?_
  refine aw_cSv (post := fun G1 => G1 = G) (stk := []) F T.room [.int k, .int (nI (sxL w))] (k_sCheck F.P (vin_nn hk) (vin_ltI hk (by omega)) rfl) ms_J0_checkIndex_df160 w_511 rfl rfl (Nat.le_of_ble_eq_true rfl) ⟨Nat.le_of_ble_eq_true rfl, Nat.le_of_ble_eq_true rfl⟩ ⟨Nat.le_refl _, Nat.le_refl _⟩ dJ1_charAt_3b067_3 (fun G1 hr => ?_)
  subst hr
  refine aw_al_n F 0 dJ1_charAt_3b067_6 rfl rfl ?_
  refine aw_il_n F 1 dJ1_charAt_3b067_7 rfl rfl ?_
  refine aw_sbl F hw hk dJ1_charAt_3b067_8 ?_
  refine aw_si (v := 255) F dJ1_charAt_3b067_9 (by decide) ?_
  refine aw_iand F dJ1_charAt_3b067_12 ?_
  refine aw_i2c F dJ1_charAt_3b067_13 ?_
  obtain ⟨e1, e2⟩ := sx_ch _ (sxC_lt w hw _ (vin_lt hk))
  rw [e1]
  exact aw_tret F T e2 (Nat.le_refl _) (Nat.le_refl _) ⟨_, rfl, h⟩ dJ1_charAt_3b067_14
theorem k_charAt {l : Launch} {E : Ev} {P : Nat → Prop} {sd : Nat → Nat → Nat} {G : GH} {post : Int32 → GH → Prop} {w : Nat} {k : Int32} (hPP : ∀ o, stt o = true → P o) (hw : w < nsx) (hk : vp_in k (sxL w)) (h : post (nI (sxC w k.toNatClampNeg)) G) : Ct l yJ0_charAt_5068e cJ0_charAt_5068e 2 (some .char) 3 0 0 E P sd G [.ref (E.2.2.2.1 w), .int k] (pI post) := by
  refine ct_of (own := "java/lang/String") (by decide) rfl (Nat.le_of_ble_eq_true rfl) hPP (fun X F T el eP es => ?_)
  subst el; subst eP; subst es
  change AW E X 2 0 [(0, .ref (E.2.2.2.1 w)), (1, .int k)] [] G 0 0
  refine aw_al_n F 0 dJ0_charAt_5068e_0 rfl rfl ?_
  refine aw_cVs (post := fun r G1 => r = 1 ∧ G1 = G) (stk := []) F T.room [] (k_isLatin1 F.P hw ⟨rfl, rfl⟩) mv_J0_isLatin1_aae02 w_504 hw rfl rfl rfl (Nat.le_of_ble_eq_true rfl) ⟨Nat.le_of_ble_eq_true rfl, Nat.le_of_ble_eq_true rfl⟩ ⟨Nat.le_refl _, Nat.le_refl _⟩ dJ0_charAt_5068e_1 (fun r G1 hr => ?_)
  obtain ⟨rfl, rfl⟩ := hr
  refine aw_if_eq (tgt := 16) F dJ0_charAt_5068e_4 (by decide) (fun c => absurd c (by decide)) (fun _ => ?_)
  refine aw_al_n F 0 dJ0_charAt_5068e_7 rfl rfl ?_
  refine aw_gsv F hw w_1814 dJ0_charAt_5068e_8 ?_
  refine aw_il_n F 1 dJ0_charAt_5068e_11 rfl rfl ?_
  refine aw_cSi (post := fun r G2 => r = nI (sxC w k.toNatClampNeg) ∧ G2 = G1) (stk := []) F T.room [.ref (E.2.2.2.2.1 w), .int k] (k_l1charAt F.P hw hk ⟨rfl, rfl⟩) ms_J1_charAt_3b067 w_508 rfl rfl (Nat.le_of_ble_eq_true rfl) ⟨Nat.le_of_ble_eq_true rfl, Nat.le_of_ble_eq_true rfl⟩ ⟨Nat.le_refl _, Nat.le_refl _⟩ dJ0_charAt_5068e_12 (fun r G2 hr => ?_)
  obtain ⟨rfl, rfl⟩ := hr
  exact aw_tret F T (sx_ch _ (sxC_lt w hw _ (vin_lt hk))).2 (Nat.le_refl _) (Nat.le_refl _) ⟨_, rfl, h⟩ dJ0_charAt_5068e_15
section AWT
variable {E : Ev} {X : Cx} {own : String} {cc : ByteArray} {nL pc : Nat} {lv : List (Nat × Value)} {stk : List Value} {G : GH} {n1 n2 h mc ms : Nat}
theorem aw_slen (F : Fx E X own cc nL) (hR : RX X = rmh h mc ms) {w : Nat} (hw : w < nsx) {index : Nat} (hl : Cond.methodLink own index yJ0_length_8abf5 ∈ tb) (hfr : 5 ≤ h) (hrm : (stk.map fun v => v.category).sum ≤ 8) (hce : n1 ≤ mc ∧ n2 ≤ ms) (d : decode cc pc = .ok (.invokevirtual index, 3)) (kk : AW E X nL (pc + 3) lv (.int (nI (sxL w)) :: stk) G n1 n2) : AW E X nL pc lv (.ref (E.2.2.2.1 w) :: stk) G n1 n2 := by
  refine aw_cVs (post := fun r G1 => r = nI (sxL w) ∧ G1 = G) (stk := stk) F hR [] (k_slength F.P hw ⟨rfl, rfl⟩) mv_J0_length_8abf5 hl hw rfl rfl rfl hrm ⟨by omega, by omega⟩ hce d (fun r G1 hr => ?_)
  obtain ⟨rfl, rfl⟩ := hr
  exact kk
theorem aw_sch (F : Fx E X own cc nL) (hR : RX X = rmh h mc ms) {w : Nat} (hw : w < nsx) {index : Nat} (hl : Cond.methodLink own index yJ0_charAt_5068e ∈ tb) {k : Int32} (hk : vp_in k (sxL w)) (hfr : 5 ≤ h) (hrm : (stk.map fun v => v.category).sum ≤ 8) (hce : n1 ≤ mc ∧ n2 ≤ ms) (d : decode cc pc = .ok (.invokevirtual index, 3)) (kk : AW E X nL (pc + 3) lv (.int (nI (sxC w k.toNatClampNeg)) :: stk) G n1 n2) : AW E X nL pc lv (.int k :: .ref (E.2.2.2.1 w) :: stk) G n1 n2 := by
  refine aw_cVs (post := fun r G1 => r = nI (sxC w k.toNatClampNeg) ∧ G1 = G) (stk := stk) F hR [.int k] (k_charAt F.P hw hk ⟨rfl, rfl⟩) mv_J0_charAt_5068e hl hw rfl rfl rfl hrm ⟨by omega, by omega⟩ hce d (fun r G1 hr => ?_)
  obtain ⟨rfl, rfl⟩ := hr
  exact kk
end AWT
