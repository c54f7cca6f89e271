/-! ===== methods that return or throw ===== -/
def XQ (E : Ev) (P : Nat → Prop) (sd : Nat → Nat → Nat) (px : Nat → GH → Prop) : String → State → State → Prop := fun Enm st t => ∃ (i : Nat) (G' : GH), i < 2 ∧ Enm = xN i ∧ px i G' ∧ HdP E P sd G' t.heap ∧ va_F (rg E) st t
def CtX (l : Launch) (y : MethodName) (cc : ByteArray) (mL : Nat) (ret : Option FieldType) (h mc ms : Nat) (E : Ev) (P : Nat → Prop) (sd : Nat → Nat → Nat) (G : GH) (av : List Value) (post : Option Value → GH → Prop) (px : Nat → GH → Prop) : Prop :=
  vx_Met l y (.code y cc mL ret :: tb) (rmh h mc ms) (qP E P sd G av) (qQ E P sd post) (XQ E P sd px) mc ms (rg E)
def RTX (E : Ev) (X : Cx) (h mc ms : Nat) (ret : Option FieldType) (post : Option Value → GH → Prop) (px : Nat → GH → Prop) : Prop := match X with
  | (_, l, _, R, s, _, args, below, meth, c, Q, sd, P) => R = rmh h mc ms ∧ meth.sig.returnType = ret ∧ (∀ x ∈ c.exceptionTable.toList, False) ∧ l.stackTraces = false ∧ ∃ (P0 : Nat → Prop) (sd0 : Nat → Nat → Nat), (∀ o, P0 o → P o) ∧ (∀ o k, P0 o → sd o k = sd0 o k) ∧ Q = vx_MQ below (qQ E P0 sd0 post) (XQ E P0 sd0 px) args s mc ms (rg E)
theorem RTX.room {E : Ev} {X : Cx} {h mc ms : Nat} {ret : Option FieldType} {post : Option Value → GH → Prop} {px : Nat → GH → Prop} (T : RTX E X h mc ms ret post px) : RX X = rmh h mc ms := by
  obtain ⟨p, l, e, R, s, m, args, below, meth, c2, Q, sd, P⟩ := X
  exact T.1
theorem RTX.tr {E : Ev} {X : Cx} {h mc ms : Nat} {ret : Option FieldType} {post : Option Value → GH → Prop} {px : Nat → GH → Prop} (T : RTX E X h mc ms ret post px) : (lX X).stackTraces = false := by
  obtain ⟨p, l, e, R, s, m, args, below, meth, c2, Q, sd, P⟩ := X
  exact T.2.2.2.1
theorem ctx_of {l : Launch} {y : MethodName} {own : String} {cc : ByteArray} {mL : Nat} {ret : Option FieldType} {h mc ms : Nat} {E : Ev} {P : Nat → Prop} {sd : Nat → Nat → Nat} {G : GH} {av : List Value} {post : Option Value → GH → Prop} {px : Nat → GH → Prop}
    (hl : l.stackTraces = false) (hy : plainName y.cls = true) (hown : y.cls = own) (hlen : (lg_sl av).length ≤ mL) (hP : ∀ o, stt o = true → P o)
    (body : ∀ X : Cx, Fx E X own cc mL → RTX E X h mc ms ret post px → l = lX X → P = PX X → sd = sdX X → AW E X mL 0 (lv_args 0 av) [] G 0 0) : CtX l y cc mL ret h mc ms E P sd G av post px := by
  subst hown
  refine vx_ofW (cc := cc) (maxL := mL) (ret := ret) hy rfl ?_
  intro p e s m args below meth c s₁ B hml hnt hv
  obtain ⟨rfl, hsz, ⟨ad, hag, hH⟩, hK, hSE⟩ := hv
  have hts := atoms_spec (ws := .code y cc mL ret :: tb) B.pre
  have hown : s.vm.findClass y.cls = some m.cls := findClass_of_methodNamed B.named
  have b := body (p, l, e, rmh h mc ms, s, m, av.toArray, below, meth, c, vx_MQ below (qQ E P sd post) (XQ E P sd px) av.toArray s mc ms (rg E), sd, P) ⟨B.exec, B.bytes, hml, hown, fun w hw => hts w (List.mem_cons_of_mem _ hw), hK, hSE, hsz, B.notSynchronized, hP⟩ ⟨rfl, B.returns, hnt, hl, P, sd, fun _ h => h, fun _ _ _ => rfl, rfl⟩ rfl rfl rfl
  have hl := lv_entry av (n := mL) hlen
  rw [lg_entry_eq]
  exact b _ s.heap [] ad hag hl hH va_S.rf
section AWX
variable {E : Ev} {X : Cx} {own : String} {cc : ByteArray} {nL pc : Nat} {lv : List (Nat × Value)} {stk : List Value} {G : GH} {n1 n2 h mc ms : Nat} {px : Nat → GH → Prop}
theorem aw_iretX (F : Fx E X own cc nL) {post : Option Value → GH → Prop} (T : RTX E X h mc ms (some .int) post px) {v : Int32} (h1 : n1 ≤ mc) (h2 : n2 ≤ ms) (hp : post (some (.int v)) G) (d : decode cc pc = .ok (.ireturn, 1)) : AW E X nL pc lv [.int v] G n1 n2 := by
  obtain ⟨p, l, e, R, s, m, args, below, meth, c2, Q, sd, P⟩ := X
  obtain ⟨rfl, hr, -, -, P0, sd0, g1, g2, rfl⟩ := T
  intro ls H locs ad hag hl hH hS
  have hlocks : meth.locks = false := F.2.2.2.2.2.2.2.2.1
  refine W.widen (k := mc) (n := ms) h1 h2 (vx_ret ?_)
  exact W.iret F.1 F.2.1 hr (fun t ht hW => ⟨⟨_, G, rfl, hp, ad, agr hag g1 g2, by rw [ht]; exact hH⟩, hS.F ht⟩) hS.2.2 d
theorem aw_zretX (F : Fx E X own cc nL) {post : Option Value → GH → Prop} (T : RTX E X h mc ms (some .boolean) post px) {v : Int32} (b : Bool) (hv : v = bI b) (h1 : n1 ≤ mc) (h2 : n2 ≤ ms) (hp : post (some (.int (bI b))) G) (d : decode cc pc = .ok (.ireturn, 1)) : AW E X nL pc lv [.int v] G n1 n2 := by
  subst hv
  obtain ⟨p, l, e, R, s, m, args, below, meth, c2, Q, sd, P⟩ := X
  obtain ⟨rfl, hr, -, -, P0, sd0, g1, g2, rfl⟩ := T
  intro ls H locs ad hag hl hH hS
  have hlocks : meth.locks = false := F.2.2.2.2.2.2.2.2.1
  refine W.widen (k := mc) (n := ms) h1 h2 (vx_ret ?_)
  exact W.zret F.1 F.2.1 hr (bI_nar b) (fun t ht hW => ⟨⟨_, G, rfl, hp, ad, agr hag g1 g2, by rw [ht]; exact hH⟩, hS.F ht⟩) hS.2.2 d
theorem aw_vretX (F : Fx E X own cc nL) {post : Option Value → GH → Prop} (T : RTX E X h mc ms none post px) (h1 : n1 ≤ mc) (h2 : n2 ≤ ms) (hp : post none G) (d : decode cc pc = .ok (.return_, 1)) : AW E X nL pc lv [] G n1 n2 := by
  obtain ⟨p, l, e, R, s, m, args, below, meth, c2, Q, sd, P⟩ := X
  obtain ⟨rfl, hr, -, -, P0, sd0, g1, g2, rfl⟩ := T
  intro ls H locs ad hag hl hH hS
  have hlocks : meth.locks = false := F.2.2.2.2.2.2.2.2.1
  refine W.widen (k := mc) (n := ms) h1 h2 (vx_ret ?_)
  exact W.vret F.1 F.2.1 hr (fun t ht hW => ⟨⟨_, G, rfl, hp, ad, agr hag g1 g2, by rw [ht]; exact hH⟩, hS.F ht⟩) hS.2.2 d
/-- behind a call that may throw: it goes on, or the throw leaves this method too -/
theorem aw_afterX (F : Fx E X own cc nL) {ret : Option FieldType} {post postC : Option Value → GH → Prop} (T : RTX E X h mc ms ret post px) {pxC : Nat → GH → Prop} {mc' ms' : Nat} (hce : n1 + mc' ≤ mc ∧ n2 + ms' ≤ ms) {rest st0 : List Value} {a : Array Value} (kx : ∀ i G', pxC i G' → px i G')
    (kk : ∀ (v : Option Value) (G' : GH), postC v G' → AW E X nL (pc + 3) lv (v.toList ++ rest) G' (n1 + mc') (n2 + ms')) :
    match X with
    | (p, l, e, R, s, m, args, below, meth, c, Q, sd, P) => ∀ (ls : Array Slot) (H : Heap) (locs : List Loc), lv_has ls nL lv → va_S (rg E) s.heap H locs → vx_Run p l e R s m args below meth c H locs n1 n2 mc' ms' (F0 m pc ls st0) rest (qQ E P sd postC a) (XQ E P sd pxC) (rg E) → W p l e R s m args below meth c H locs n1 n2 Q (F0 m pc ls st0) := by
  obtain ⟨p, l, e, R, s, m, args, below, meth, c2, Q, sd, P⟩ := X
  obtain ⟨rfl, hr0, hnt, -, P0, sd0, g1, g2, rfl⟩ := T
  intro ls H locs hl hS hr T hT X
  rcases hr T hT X with ⟨v, st₀, t, T', L, h0, X', hL, e1, e2, ⟨⟨v', G', hv, hp, ad', hag', hH'⟩, hF⟩, st⟩ | ⟨q, st₀, t, T', L, Enm, ce, h0, X', hL, e1, e2, ⟨i, G', hi, hE, hp, ⟨ad', hag', hH'⟩, hF⟩, hcc, hcv, hcl, st⟩
  · cases hv
    obtain ⟨k1, k2, k3⟩ := vx_keep h0 e1 hS (fun q _ h => h) (fun q h => h) hL hF
    obtain ⟨t2, a1, b1⟩ := kk v G' hp ls T'.heap (locs ++ L) ad' hag' hl (by rw [e1]; exact hH') k3 T' rfl X'
    exact ⟨t2, st t2 a1, b1⟩
  · obtain ⟨k1, k2, k3⟩ := vx_keep h0 e1 hS (fun q _ h => h) (fun q h => h) hL hF
    have ho := vx_out (p := p) (l := l) (e := e) (R := rmh h mc ms) (s := s) (m := m) (args := args) (below := below) (meth := meth) (c := c2) (H := T'.heap) (locs := locs ++ L) (cells := n1 + mc') (slots := n2 + ms') (ls := ls) (rest := rest) (pc := pc) (mc := mc) (ms := ms) (free := rg E) (Qc := qQ E P0 sd0 post) (XC := XQ E P0 sd0 px)
      (fun x hx => (hnt x hx).elim) F.2.2.2.2.2.2.2.2.1 (by rw [e1]; exact hcc) hcv hcl (fun t' ht' hvm' => ⟨i, G', hi, hE, kx i G' hp, ⟨ad', agr hag' g1 g2, by rw [ht', e1]; exact hH'⟩, k3.F ht'⟩) k3.2.2 hce.1 hce.2
    obtain ⟨t2, a1, b1⟩ := ho T' rfl X'
    exact ⟨t2, st.trans a1, b1⟩
theorem aw_cVX (F : Fx E X own cc nL) {ret0 : Option FieldType} {post0 : Option Value → GH → Prop} (T : RTX E X h mc ms ret0 post0 px) {y : MethodName} {bytes : ByteArray} {maxL : Nat} {ret : Option FieldType} {n index h' mc' ms' o c : Nat} {post : Option Value → GH → Prop} {pxC : Nat → GH → Prop} (As : List Value)
    (hM : CtX (lX X) y bytes maxL ret h' mc' ms' E (PX X) (sdX X) G (.ref (sdX X o 0) :: As) post pxC) (mv : MV y bytes maxL ret n) (hw : Cond.methodLink own index y ∈ tb) {T9 : u_T} {N : Nat} {ty : Nat → FieldType} (cf : CF c y.cls T9 N ty) (hlo : lo G o) (hP : PX X o) (hc : oc o = c) (hc9 : c < 9)
    (hn : As.length = n) {st0 : List Value} (hst : st0 = As.reverse ++ .ref (sdX X o 0) :: stk) (hrm : (stk.map fun v => v.category).sum ≤ 8) (hfr : h' + 1 ≤ h ∧ 8 + (maxL + 11) + 64 * h' ≤ 64 * h) (hce : n1 + mc' ≤ mc ∧ n2 + ms' ≤ ms) (d : decode cc pc = .ok (.invokevirtual index, 3))
    (kx : ∀ i G', pxC i G' → px i G') (kk : ∀ (v : Option Value) (G' : GH), post v G' → AW E X nL (pc + 3) lv (v.toList ++ stk) G' (n1 + mc') (n2 + ms')) : AW E X nL pc lv st0 G n1 n2 := by
  have af := aw_afterX (st0 := st0) (a := (Value.ref (sdX X o 0) :: As).toArray) F T hce kx kk
  have hR := T.room
  obtain ⟨p, l, e, R, s, m, args, below, meth, c2, Q, sd, P⟩ := X
  have hR : R = rmh h mc ms := hR
  subst hR
  intro ls H locs ad hag hl hH hS
  refine af ls H locs hl hS ?_
  obtain ⟨L, f, i, h1, h2, hi, -⟩ := hH.opn hlo (lk0 hc hc9)
  rw [ct0, hc] at hi
  have e1 : sd o 0 = ad o 0 := (hag o 0 hP).symm
  have hts := F.2.2.2.2.1
  have cb : CallB (rmh h mc ms) s args own index y bytes maxL ret (.code y bytes maxL ret :: tb) (rmh h' mc' ms') mc' ms' n :=
    callB_of n hts (tb_in0 mv.1.1) rfl rfl rfl (hts _ mv.1.2.1) (hts _ hw) ⟨mv.1.2.2.1, mv.1.2.2.2.1, mv.1.2.2.2.2⟩ hfr
  refine vx_runV (C := y.cls) (As := As) (b := sd o 0) (rest := stk) (Ts := tb) ⟨F.1, F.2.1, F.2.2.1, F.2.2.2.1, hts⟩ hM ⟨cb, hts _ mv.2.1, hts _ mv.2.2⟩ ⟨qP_blind, ?_, qP_pre hag F.2.2.2.2.2.1 F.2.2.2.2.2.2.1 F.2.2.2.2.2.2.2.1 hH hS⟩ rfl hn hl.1 hst (lv_room (m := m) (pc := pc) (ls := ls) (rest := st0) hrm) d ⟨hce.1, hce.2⟩
  rw [e1]
  exact va_recv F.2.2.2.2.2.1 h1 cf.1 hi
theorem aw_cSX (F : Fx E X own cc nL) {ret0 : Option FieldType} {post0 : Option Value → GH → Prop} (T : RTX E X h mc ms ret0 post0 px) {y : MethodName} {bytes : ByteArray} {maxL : Nat} {ret : Option FieldType} {n index h' mc' ms' : Nat} {post : Option Value → GH → Prop} {pxC : Nat → GH → Prop} (As : List Value)
    (hM : CtX (lX X) y bytes maxL ret h' mc' ms' E (PX X) (sdX X) G As post pxC) (mv : MS y bytes maxL ret n) (hw : Cond.methodLink own index y ∈ tb)
    (hn : As.length = n) {st0 : List Value} (hst : st0 = As.reverse ++ stk) (hrm : (stk.map fun v => v.category).sum ≤ 8) (hfr : h' + 1 ≤ h ∧ 8 + (maxL + 11) + 64 * h' ≤ 64 * h) (hce : n1 + mc' ≤ mc ∧ n2 + ms' ≤ ms) (d : decode cc pc = .ok (.invokestatic index, 3))
    (kx : ∀ i G', pxC i G' → px i G') (kk : ∀ (v : Option Value) (G' : GH), post v G' → AW E X nL (pc + 3) lv (v.toList ++ stk) G' (n1 + mc') (n2 + ms')) : AW E X nL pc lv st0 G n1 n2 := by
  have af := aw_afterX (st0 := st0) (a := As.toArray) F T hce kx kk
  have hR := T.room
  obtain ⟨p, l, e, R, s, m, args, below, meth, c2, Q, sd, P⟩ := X
  have hR : R = rmh h mc ms := hR
  subst hR
  intro ls H locs ad hag hl hH hS
  refine af ls H locs hl hS ?_
  have hts := F.2.2.2.2.1
  have cb : CallB (rmh h mc ms) s args own index y bytes maxL ret (.code y bytes maxL ret :: tb) (rmh h' mc' ms') mc' ms' n :=
    callB_of n hts (tb_in0 mv.1.1) rfl rfl rfl (hts _ mv.1.2.1) (hts _ hw) ⟨mv.1.2.2.1, mv.1.2.2.2.1, mv.1.2.2.2.2⟩ hfr
  exact vx_runS (As := As) (rest := stk) (Ts := tb) ⟨F.1, F.2.1, F.2.2.1, F.2.2.2.1, hts⟩ hM ⟨cb, hts _ mv.2⟩ ⟨qP_blind, qP_pre hag F.2.2.2.2.2.1 F.2.2.2.2.2.2.1 F.2.2.2.2.2.2.2.1 hH hS⟩ rfl hn hl.1 hst (lv_room (m := m) (pc := pc) (ls := ls) (rest := st0) hrm) d ⟨hce.1, hce.2⟩
end AWX
