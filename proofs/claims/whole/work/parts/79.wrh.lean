/-! ===== methods with handlers ===== -/
def etX (X : Cx) : List ExceptionTableEntry := X.2.2.2.2.2.2.2.2.2.1.exceptionTable.toList
def CtW (l : Launch) (y : MethodName) (cc : ByteArray) (mL : Nat) (hh : List (Nat × Nat × Nat × Nat)) (h mc ms : Nat) (E : Ev) (P : Nat → Prop) (sd : Nat → Nat → Nat) (G : GH) (av : List Value) (post : Option Value → GH → Prop) : Prop :=
  Met l y (.codeWith y cc mL (some .int) hh :: tb) (rmh h mc ms) (qP E P sd G av) (qQ E P sd post) mc ms (rg E)
theorem ctw_of {l : Launch} {y : MethodName} {own : String} {cc : ByteArray} {mL : Nat} {hh : List (Nat × Nat × Nat × Nat)} {h mc ms : Nat} {E : Ev} {P : Nat → Prop} {sd : Nat → Nat → Nat} {G : GH} {av : List Value} {post : Option Value → GH → Prop}
    (hy : plainName y.cls = true) (hown : y.cls = own) (hlen : (lg_sl av).length ≤ mL) (hP : ∀ o, stt o = true → P o)
    (body : ∀ X : Cx, Fx E X own cc mL → RT E X h mc ms (some .int) post → l = lX X → P = PX X → sd = sdX X → etX X = tableOf hh → AW E X mL 0 (lv_args 0 av) [] G 0 0) : CtW l y cc mL hh h mc ms E P sd G av post := by
  subst hown
  unfold CtW Met
  refine MetFree.of_bodyS (code := cc) (maxLocals := mL) (ret := some .int) hy ?_ ?_
  · intro args s m h hn
    obtain ⟨m9, meth, c, hn9, h1, h2, h3, h4, -, h5, h6, -⟩ := Cond.codeWith_spec (atoms_spec (ws := .codeWith y cc mL (some .int) hh :: tb) h _ List.mem_cons_self)
    cases hn.symm.trans hn9
    exact ⟨meth, c, h1, h2, h3, h4, h5, h6⟩
  · intro p e s m args below meth c s₁ B hml hv _
    have hh0 : s₁.heap = s.heap := by rw [B.state]; rfl
    obtain ⟨rfl, hsz, ⟨ad, hag, hH⟩, hK, hSE⟩ := hv
    have hts := atoms_spec (ws := .codeWith y cc mL (some .int) hh :: tb) B.pre
    have hown : s.vm.findClass y.cls = some m.cls := findClass_of_methodNamed B.named
    have het := vx_table (x := y) B (hts _ List.mem_cons_self)
    have b := body (p, l, e, rmh h mc ms, s, m, av.toArray, below, meth, c, MQ below (qQ E P sd post) av.toArray s mc ms (rg E), sd, P) ⟨B.exec, B.bytes, hml, hown, fun w hw => hts w (List.mem_cons_of_mem _ hw), hK, hSE, hsz, B.notSynchronized, hP⟩ ⟨rfl, B.returns, P, sd, fun _ h => h, fun _ _ _ => rfl, rfl⟩ rfl rfl rfl het
    have hl := lv_entry av (n := mL) hlen
    have w : W p l e (rmh h mc ms) s m av.toArray below meth c s.heap [] 0 0 (MQ below (qQ E P sd post) av.toArray s mc ms (rg E)) (entryFrame m av.toArray mL) := by
      rw [lg_entry_eq]
      exact b _ s.heap [] ad hag hl hH va_S.rf
    obtain ⟨t, a1, o, b1, b2, b3⟩ := w s₁ hh0 (Stand.of_body B)
    exact ⟨t, o, a1, b1, b2, ⟨b3.1, b3.2⟩⟩
section AWH
variable {E : Ev} {X : Cx} {own : String} {cc : ByteArray} {nL pc : Nat} {lv : List (Nat × Value)} {stk : List Value} {G : GH} {n1 n2 h mc ms : Nat}
/-- a call whose throws are caught here -/
theorem aw_cVC (F : Fx E X own cc nL) (hR : RX X = rmh h mc ms) {y : MethodName} {bytes : ByteArray} {maxL : Nat} {ret : Option FieldType} {n index h' mc' ms' o c : Nat} {post : Option Value → GH → Prop} {pxC : Nat → GH → Prop} (As : List Value)
    (hM : CtX (lX X) y bytes maxL ret h' mc' ms' E (PX X) (sdX X) G (.ref (sdX X o 0) :: As) post pxC) (mv : MV y bytes maxL ret n) (hw : Cond.methodLink own index y ∈ tb) {T9 : u_T} {N : Nat} {ty : Nat → FieldType} (cf : CF c y.cls T9 N ty) (hlo : lo G o) (hP : PX X o) (hc : oc o = c) (hc9 : c < 9)
    (hn : As.length = n) {st0 : List Value} (hst : st0 = As.reverse ++ .ref (sdX X o 0) :: stk) (hrm : (stk.map fun v => v.category).sum ≤ 8) (hfr : h' + 1 ≤ h ∧ 8 + (maxL + 11) + 64 * h' ≤ 64 * h) (hce : n1 + mc' ≤ mc ∧ n2 + ms' ≤ ms) (d : decode cc pc = .ok (.invokevirtual index, 3))
    (kx : ∀ i G', i < 2 → pxC i G' → ∃ (pre : List ExceptionTableEntry) (x : ExceptionTableEntry) (suf : List ExceptionTableEntry), etX X = pre ++ x :: suf ∧ (∀ z ∈ pre, i = 1 ∧ z.catchType ≠ 0 ∧ Cond.classLink own z.catchType (xN 0) ∈ tb) ∧ covers x pc = true ∧ x.catchType ≠ 0 ∧ Cond.classLink own x.catchType (xN i) ∈ tb ∧ ∀ q : Nat, AW E X nL x.handlerPc lv [.ref q] G' (n1 + mc') (n2 + ms'))
    (kk : ∀ (v : Option Value) (G' : GH), post v G' → AW E X nL (pc + 3) lv (v.toList ++ stk) G' (n1 + mc') (n2 + ms')) : AW E X nL pc lv st0 G n1 n2 := by
  obtain ⟨p, l, e, R, s, m, args, below, meth, c2, Q, sd, P⟩ := X
  have hR : R = rmh h mc ms := hR
  subst hR
  intro ls H locs ad hag hl hH hS
  obtain ⟨L, f, i, h1, h2, hi, -⟩ := hH.opn hlo (lk0 hc hc9)
  rw [ct0, hc] at hi
  have e1 : sd o 0 = ad o 0 := (hag o 0 hP).symm
  have hts := F.2.2.2.2.1
  have hSE := F.2.2.2.2.2.2.1
  have cb : CallB (rmh h mc ms) s args own index y bytes maxL ret (.code y bytes maxL ret :: tb) (rmh h' mc' ms') mc' ms' n :=
    callB_of n hts (tb_in0 mv.1.1) rfl rfl rfl (hts _ mv.1.2.1) (hts _ hw) ⟨mv.1.2.2.1, mv.1.2.2.2.1, mv.1.2.2.2.2⟩ hfr
  have hr : vx_Run p l e (rmh h mc ms) s m args below meth c2 H locs n1 n2 mc' ms' (F0 m pc ls st0) stk (qQ E P sd post (Value.ref (sd o 0) :: As).toArray) (XQ E P sd pxC) (rg E) := by
    refine vx_runV (C := y.cls) (As := As) (b := sd o 0) (rest := stk) (Ts := tb) ⟨F.1, F.2.1, F.2.2.1, F.2.2.2.1, hts⟩ hM ⟨cb, hts _ mv.2.1, hts _ mv.2.2⟩ ⟨qP_blind, ?_, qP_pre hag F.2.2.2.2.2.1 F.2.2.2.2.2.2.1 F.2.2.2.2.2.2.2.1 hH hS⟩ rfl hn hl.1 hst (lv_room (m := m) (pc := pc) (ls := ls) (rest := st0) hrm) d ⟨hce.1, hce.2⟩
    rw [e1]
    exact va_recv F.2.2.2.2.2.1 h1 cf.1 hi
  intro T hT X
  rcases hr T hT X with ⟨v, st₀, t, T', L, h0, X', hL, e1, e2, ⟨⟨v', G', hv, hp, ad', hag', hH'⟩, hF⟩, st⟩ | ⟨q, st₀, t, T', L, Enm, ce, h0, X', hL, e1, e2, ⟨i, G', hi, hE, hp, ⟨ad', hag', hH'⟩, hF⟩, hcc, hcv, hcl, st⟩
  · cases hv
    obtain ⟨k1, k2, k3⟩ := vx_keep h0 e1 hS (fun q _ h => h) (fun q h => h) hL hF
    obtain ⟨t2, a1, b1⟩ := kk v G' hp ls T'.heap (locs ++ L) ad' hag' hl (by rw [e1]; exact hH') k3 T' rfl X'
    exact ⟨t2, st t2 a1, b1⟩
  · obtain ⟨k1, k2, k3⟩ := vx_keep h0 e1 hS (fun q _ h => h) (fun q h => h) hL hF
    obtain ⟨pre, x, suf, hsp, hpre, hcov, hct, hlk, kq⟩ := kx i G' hi hp
    subst hE
    have ho := vx_catch (p := p) (l := l) (e := e) (R := rmh h mc ms) (s := s) (m := m) (args := args) (below := below) (meth := meth) (c := c2) (H := T'.heap) (locs := locs ++ L) (cells := n1 + mc') (slots := n2 + ms') (Q := Q) (ls := ls) (rest := stk) (pc := pc) (own := own) (name := xN i) (E := xN i) (ce := ce) (q := q) F.2.2.2.1 pre x suf hsp
      (fun z hz => Or.inr ⟨(hpre z hz).2.1, xN 0, hts _ (hpre z hz).2.2, by rw [(hpre z hz).1]; exact hSE.2.2.2.2.2.2.2.2.2⟩) hcov hct (hts _ hlk) (va_Nw.use rfl (hSE.2.2.2.2.2.2.2.2.1 i)) (by rw [e1]; exact hcc) hcv hcl (kq q ls T'.heap (locs ++ L) ad' hag' hl (by rw [e1]; exact hH') k3)
    obtain ⟨t2, a1, b1⟩ := ho T' rfl X'
    exact ⟨t2, st.trans a1, b1⟩
/-- the call of a static method with handlers -/
theorem aw_cSW (F : Fx E X own cc nL) (hR : RX X = rmh h mc ms) {y : MethodName} {bytes : ByteArray} {maxL : Nat} {hh : List (Nat × Nat × Nat × Nat)} {n index h' mc' ms' : Nat} {post : Int32 → GH → Prop} (As : List Value)
    (hM : CtW (lX X) y bytes maxL hh h' mc' ms' E (PX X) (sdX X) G As (pI post)) (mv : Cond.codeWith y bytes maxL (some .int) hh ∈ tb ∧ Cond.initialized y.cls ∈ tb ∧ y.cls ≠ "java/lang/invoke/MethodHandle" ∧ y.cls ≠ "java/lang/invoke/VarHandle" ∧ (parseMethodDescriptor y.desc).map (fun d => d.parameters.length) = some n) (hsta : Cond.static y ∈ tb) (hw : Cond.methodLink own index y ∈ tb)
    (hn : As.length = n) {st0 : List Value} (hst : st0 = As.reverse ++ stk) (hrm : (stk.map fun v => v.category).sum ≤ 8) (hfr : h' + 1 ≤ h ∧ 8 + (maxL + 11) + 64 * h' ≤ 64 * h) (hce : n1 + mc' ≤ mc ∧ n2 + ms' ≤ ms) (d : decode cc pc = .ok (.invokestatic index, 3))
    (kk : ∀ (r : Int32) (G' : GH), post r G' → AW E X nL (pc + 3) lv (.int r :: stk) G' (n1 + mc') (n2 + ms')) : AW E X nL pc lv st0 G n1 n2 := by
  have af := aw_after (post := pI post) (st0 := st0) (rest := stk) (a := As.toArray) (mc' := mc') (ms' := ms') (n1 := n1) (n2 := n2) (pc := pc) (lv := lv) F (fun v G' hv => by
    obtain ⟨r, rfl, hp⟩ := hv
    exact kk r G' hp)
  obtain ⟨p, l, e, R, s, m, args, below, meth, c2, Q, sd, P⟩ := X
  have hR : R = rmh h mc ms := hR
  subst hR
  intro ls H locs ad hag hl hH hS
  refine af ls H locs hl hS ?_
  have hts := F.2.2.2.2.1
  have cw : vx_CSW (rmh h mc ms) s args own index y bytes maxL (some .int) hh (.codeWith y bytes maxL (some .int) hh :: tb) (rmh h' mc' ms') mc' ms' n :=
    ⟨⟨rfl, rfl, hfr.1, hfr.2, pay_in hts (tb_in0 mv.1), List.mem_cons_self⟩, hts _ mv.1, hts _ mv.2.1, ⟨mv.2.2.1, mv.2.2.2.1⟩, fun sig h => by
      have h2 := mv.2.2.2.2
      rw [h] at h2
      exact (Option.some.inj h2).symm, hts _ hw, hts _ hsta⟩
  exact vx_runSW (As := As) (rest := stk) (Ts := tb) ⟨F.1, F.2.1, F.2.2.1, F.2.2.2.1, hts⟩ hM cw ⟨qP_blind, qP_pre hag F.2.2.2.2.2.1 F.2.2.2.2.2.2.1 F.2.2.2.2.2.2.2.1 hH hS⟩ rfl hn hl.1 hst (lv_room (m := m) (pc := pc) (ls := ls) (rest := st0) hrm) d ⟨hce.1, hce.2⟩
/-- the law's row of one long -/
theorem updL (f : Nat → Int32) (j : Nat) (r : Int32) : vp_updL (fun k => (f k).toInt64) j r.toInt64 = fun k => (upd f j r k).toInt64 := by
  funext k
  by_cases hk : k = j
  · simp [vp_updL, upd, hk]
  · simp [vp_updL, upd, hk]
theorem aw_last (F : Fx E X own cc nL) {i r : Int32} (hP : PX X 25) (hin : vp_in i 1) (d : decode cc pc = .ok (.lastore, 1))
    (kk : AW E X nL (pc + 1) lv stk (gs G 25 1 (upd (G 25 1) i.toNatClampNeg r)) n1 n2) : AW E X nL pc lv (.long r.toInt64 :: .int i :: .ref (sdX X 25 1) :: stk) G n1 n2 := by
  obtain ⟨p, l, e, R, s, m, args, below, meth, c2, Q, sd, P⟩ := X
  intro ls H locs ad hag hl hH hS
  have ha : al (oc 25) 1 = some (2, 1) := rfl
  obtain ⟨L, f, j, h1, h2, hi, -, cl⟩ := hH.opn (lo_s (o := 25) rfl) (lkk ha)
  rw [ctk ha] at hi
  have e1 : sd 25 1 = ad 25 1 := (hag 25 1 hP).symm
  show W p l e R s m args below meth c2 H locs n1 n2 Q (F0 m pc ls (.long r.toInt64 :: .int i :: .ref (sd 25 1) :: stk))
  rw [e1]
  refine va_last F.1 F.2.1 F.2.2.2.2.2.1 h1 h2 hS j 2 hi rfl hin d (fun H1 locs1 q1 q2 q3 => ?_)
  obtain ⟨a1, a2, a3⟩ := row_ok (E := E) (ad := ad) (G := G) (f := upd (G 25 1) i.toNatClampNeg r) ha (show ¬ (2 : Nat) = 3 by decide)
  have a3' : ct E ad (gs G 25 1 (upd (G 25 1) i.toNatClampNeg r)) 25 1 = .inl (E.2.1 2, 1, .inr (.inl (vp_updL (fun k => (G 25 1 k).toInt64) i.toNatClampNeg r.toInt64))) := by
    rw [updL]; exact a3
  rw [← a3'] at q1 q2
  exact kk ls H1 locs1 ad hag hl (cl _ _ a1 a2 q1 q2) q3
theorem aw_lald (F : Fx E X own cc nL) {i : Int32} (hP : PX X 25) (hin : vp_in i 1) (d : decode cc pc = .ok (.laload, 1))
    (kk : AW E X nL (pc + 1) lv (.long (G 25 1 i.toNatClampNeg).toInt64 :: stk) G n1 n2) : AW E X nL pc lv (.int i :: .ref (sdX X 25 1) :: stk) G n1 n2 := by
  obtain ⟨p, l, e, R, s, m, args, below, meth, c2, Q, sd, P⟩ := X
  intro ls H locs ad hag hl hH hS
  have ha : al (oc 25) 1 = some (2, 1) := rfl
  obtain ⟨L, f, j, h1, h2, hi, -⟩ := hH.opn (lo_s (o := 25) rfl) (lkk ha)
  rw [ctk ha] at hi
  have e1 : sd 25 1 = ad 25 1 := (hag 25 1 hP).symm
  show W p l e R s m args below meth c2 H locs n1 n2 Q (F0 m pc ls (.int i :: .ref (sd 25 1) :: stk))
  rw [e1]
  exact va_lald F.1 F.2.1 F.2.2.2.2.2.1 h1 j 2 hi rfl hin d (kk ls H locs ad hag hl hH hS)
theorem aw_lc (F : Fx E X own cc nL) {n : Fin 2} {v : Int64} (d : decode cc pc = .ok (.lconst n, 1)) (hv : Int64.ofNat (n : Nat) = v) (kk : AW E X nL (pc + 1) lv (.long v :: stk) G n1 n2) : AW E X nL pc lv stk G n1 n2 := by
  obtain ⟨p, l, e, R, s, m, args, below, meth, c2, Q, sd, P⟩ := X
  intro ls H locs ad hag hl hH hS
  exact lv_lconst F.1 F.2.1 d hv (kk ls H locs ad hag hl hH hS)
theorem aw_lcmp (F : Fx E X own cc nL) {x y : Int64} (d : decode cc pc = .ok (.lcmp, 1)) (kk : AW E X nL (pc + 1) lv (.int (lg_cmp x y) :: stk) G n1 n2) : AW E X nL pc lv (.long y :: .long x :: stk) G n1 n2 := by
  obtain ⟨p, l, e, R, s, m, args, below, meth, c2, Q, sd, P⟩ := X
  intro ls H locs ad hag hl hH hS
  exact W.lcmp F.1 F.2.1 d (kk ls H locs ad hag hl hH hS)
end AWH
theorem lgc_self (x : Int64) : lg_cmp x x = 0 := by
  have : ¬ x < x := by
    rw [Int64.lt_iff_toInt_lt]
    omega
  simp [lg_cmp, this]
