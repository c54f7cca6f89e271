/-! ===== contracts, calls, ends ===== -/
def rmh (h mc ms : Nat) : Room := { frames := h, cells := mc, slots := ms, locals := 64 * h }
/-- the heap holds G, with the addresses sd of the objects P -/
def HdP (E : Ev) (P : Nat → Prop) (sd : Nat → Nat → Nat) (G : GH) (H : Heap) : Prop := ∃ ad : Nat → Nat → Nat, (∀ o k, P o → ad o k = sd o k) ∧ Hd E ad G H
def qP (E : Ev) (P : Nat → Prop) (sd : Nat → Nat → Nat) (G : GH) (av : List Value) : Array Value → State → Prop := va_Pc av (fun U => E.2.2.2.2.2 ≤ U.heap.size ∧ HdP E P sd G U.heap ∧ KE E U ∧ SE E U)
def qQ (E : Ev) (P : Nat → Prop) (sd : Nat → Nat → Nat) (post : Option Value → GH → Prop) : Array Value → State → Outcome → State → Prop := fun _ st oc t => (∃ (v : Option Value) (G' : GH), oc = .returned v ∧ post v G' ∧ HdP E P sd G' t.heap) ∧ va_F (rg E) st t
def Ct (l : Launch) (y : MethodName) (cc : ByteArray) (mL : Nat) (ret : Option FieldType) (h mc ms : Nat) (E : Ev) (P : Nat → Prop) (sd : Nat → Nat → Nat) (G : GH) (av : List Value) (post : Option Value → GH → Prop) : Prop :=
  Met l y (.code y cc mL ret :: tb) (rmh h mc ms) (qP E P sd G av) (qQ E P sd post) mc ms (rg E)
def lX (X : Cx) : Launch := X.2.1
/-- what the end needs: the room, what is to hold then (with the addresses sd of the objects P, which the method has as its own) -/
def RT (E : Ev) (X : Cx) (h mc ms : Nat) (ret : Option FieldType) (post : Option Value → GH → Prop) : Prop := match X with
  | (_, _, _, R, s, _, args, below, meth, _, Q, sd, P) => R = rmh h mc ms ∧ meth.sig.returnType = ret ∧ ∃ (P0 : Nat → Prop) (sd0 : Nat → Nat → Nat), (∀ o, P0 o → P o) ∧ (∀ o k, P0 o → sd o k = sd0 o k) ∧ Q = MQ below (qQ E P0 sd0 post) args s mc ms (rg E)
theorem RT.room {E : Ev} {X : Cx} {h mc ms : Nat} {ret : Option FieldType} {post : Option Value → GH → Prop} (T : RT E X h mc ms ret post) : RX X = rmh h mc ms := by
  obtain ⟨p, l, e, R, s, m, args, below, meth, c2, Q, sd, P⟩ := X
  exact T.1
theorem agr {P P0 : Nat → Prop} {ad sd sd0 : Nat → Nat → Nat} (hag : ∀ o k, P o → ad o k = sd o k) (h1 : ∀ o, P0 o → P o) (h2 : ∀ o k, P0 o → sd o k = sd0 o k) : ∀ o k, P0 o → ad o k = sd0 o k := fun o k h => (hag o k (h1 o h)).trans (h2 o k h)
def pI (post : Int32 → GH → Prop) : Option Value → GH → Prop := fun v G => ∃ r : Int32, v = some (.int r) ∧ post r G
def pV (post : GH → Prop) : Option Value → GH → Prop := fun v G => v = none ∧ post G
def pR (a : Nat) (post : GH → Prop) : Option Value → GH → Prop := fun v G => v = some (.ref a) ∧ post G
def bI (b : Bool) : Int32 := if b then 1 else 0
def pB (post : Bool → GH → Prop) : Option Value → GH → Prop := fun v G => ∃ b : Bool, v = some (.int (bI b)) ∧ post b G
theorem bI_nar (b : Bool) : narrow .boolean (.int (bI b)) = .int (bI b) := by cases b <;> rfl
theorem bI_0 {b : Bool} : bI b = 0 ↔ b = false := by cases b <;> decide
theorem HdP.same {E : Ev} {P : Nat → Prop} {sd : Nat → Nat → Nat} {G : GH} {H H' : Heap} (e : H' = H) (h : HdP E P sd G H) : HdP E P sd G H' := e ▸ h
/-- a contract, out of the walk from the entry -/
theorem ct_of {l : Launch} {y : MethodName} {own : String} {cc : ByteArray} {mL : Nat} {ret : Option FieldType} {h mc ms : Nat} {E : Ev} {P : Nat → Prop} {sd : Nat → Nat → Nat} {G : GH} {av : List Value} {post : Option Value → GH → Prop}
    (hy : plainName y.cls = true) (hown : y.cls = own) (hlen : (lg_sl av).length ≤ mL) (hP : ∀ o, stt o = true → P o)
    (body : ∀ X : Cx, Fx E X own cc mL → RT E X h mc ms ret post → l = lX X → P = PX X → sd = sdX X → AW E X mL 0 (lv_args 0 av) [] G 0 0) : Ct l y cc mL ret h mc ms E P sd G av post := by
  subst hown
  refine Met.ofW (cc := cc) (maxL := mL) (ret := ret) hy rfl ?_
  intro p e s m args below meth c s₁ B hml hv
  obtain ⟨rfl, hsz, ⟨ad, hag, hH⟩, hK, hSE⟩ := hv
  have hts := atoms_spec (ws := .code y cc mL ret :: tb) B.pre
  have hown : s.vm.findClass y.cls = some m.cls := findClass_of_methodNamed B.named
  have b := body (p, l, e, rmh h mc ms, s, m, av.toArray, below, meth, c, MQ below (qQ E P sd post) av.toArray s mc ms (rg E), sd, P) ⟨B.exec, B.bytes, hml, hown, fun w hw => hts w (List.mem_cons_of_mem _ hw), hK, hSE, hsz, B.notSynchronized, hP⟩ ⟨rfl, B.returns, P, sd, fun _ h => h, fun _ _ _ => rfl, rfl⟩ rfl rfl rfl
  have hl := lv_entry av (n := mL) hlen
  rw [lg_entry_eq]
  exact b _ s.heap [] ad hag hl hH va_S.rf
section AWC
variable {E : Ev} {X : Cx} {own : String} {cc : ByteArray} {nL pc : Nat} {lv : List (Nat × Value)} {stk : List Value} {G : GH} {n1 n2 h mc ms : Nat}
theorem aw_iret (F : Fx E X own cc nL) {post : Option Value → GH → Prop} (T : RT E X h mc ms (some .int) post) {v : Int32} (h1 : n1 ≤ mc) (h2 : n2 ≤ ms) (hp : post (some (.int v)) G) (d : decode cc pc = .ok (.ireturn, 1)) : AW E X nL pc lv [.int v] G n1 n2 := by
  obtain ⟨p, l, e, R, s, m, args, below, meth, c2, Q, sd, P⟩ := X
  obtain ⟨rfl, hr, P0, sd0, g1, g2, rfl⟩ := T
  intro ls H locs ad hag hl hH hS
  have hlocks : meth.locks = false := F.2.2.2.2.2.2.2.2.1
  refine W.widen (k := mc) (n := ms) h1 h2 ?_
  exact W.iret F.1 F.2.1 hr (fun t ht hW => ⟨⟨_, G, rfl, hp, ad, agr hag g1 g2, by rw [ht]; exact hH⟩, hS.F ht⟩) hS.2.2 d
theorem aw_zret (F : Fx E X own cc nL) {post : Option Value → GH → Prop} (T : RT E X h mc ms (some .boolean) post) {v : Int32} (b : Bool) (hv : v = bI b) (h1 : n1 ≤ mc) (h2 : n2 ≤ ms) (hp : post (some (.int (bI b))) G) (d : decode cc pc = .ok (.ireturn, 1)) : AW E X nL pc lv [.int v] G n1 n2 := by
  subst hv
  obtain ⟨p, l, e, R, s, m, args, below, meth, c2, Q, sd, P⟩ := X
  obtain ⟨rfl, hr, P0, sd0, g1, g2, rfl⟩ := T
  intro ls H locs ad hag hl hH hS
  have hlocks : meth.locks = false := F.2.2.2.2.2.2.2.2.1
  refine W.widen (k := mc) (n := ms) h1 h2 ?_
  exact W.zret F.1 F.2.1 hr (bI_nar b) (fun t ht hW => ⟨⟨_, G, rfl, hp, ad, agr hag g1 g2, by rw [ht]; exact hH⟩, hS.F ht⟩) hS.2.2 d
theorem aw_vret (F : Fx E X own cc nL) {post : Option Value → GH → Prop} (T : RT E X h mc ms none post) (h1 : n1 ≤ mc) (h2 : n2 ≤ ms) (hp : post none G) (d : decode cc pc = .ok (.return_, 1)) : AW E X nL pc lv [] G n1 n2 := by
  obtain ⟨p, l, e, R, s, m, args, below, meth, c2, Q, sd, P⟩ := X
  obtain ⟨rfl, hr, P0, sd0, g1, g2, rfl⟩ := T
  intro ls H locs ad hag hl hH hS
  have hlocks : meth.locks = false := F.2.2.2.2.2.2.2.2.1
  refine W.widen (k := mc) (n := ms) h1 h2 ?_
  exact W.vret F.1 F.2.1 hr (fun t ht hW => ⟨⟨_, G, rfl, hp, ad, agr hag g1 g2, by rw [ht]; exact hH⟩, hS.F ht⟩) hS.2.2 d
theorem aw_aret (F : Fx E X own cc nL) {post : Option Value → GH → Prop} {nm : String} (T : RT E X h mc ms (some (.object nm)) post) {a : Nat} (h1 : n1 ≤ mc) (h2 : n2 ≤ ms) (hp : post (some (.ref a)) G) (d : decode cc pc = .ok (.areturn, 1)) : AW E X nL pc lv [.ref a] G n1 n2 := by
  obtain ⟨p, l, e, R, s, m, args, below, meth, c2, Q, sd, P⟩ := X
  obtain ⟨rfl, hr, P0, sd0, g1, g2, rfl⟩ := T
  intro ls H locs ad hag hl hH hS
  have hlocks : meth.locks = false := F.2.2.2.2.2.2.2.2.1
  refine W.widen (k := mc) (n := ms) h1 h2 ?_
  exact W.aret F.1 F.2.1 hr (Or.inl ⟨nm, rfl⟩) (Or.inr ⟨a, rfl⟩) (fun t ht hW => ⟨⟨_, G, rfl, hp, ad, agr hag g1 g2, by rw [ht]; exact hH⟩, hS.F ht⟩) hS.2.2 d
/-- the words of a callee: of an object's method, of a static one -/
def MV (y : MethodName) (bytes : ByteArray) (maxL : Nat) (ret : Option FieldType) (n : Nat) : Prop := (Cond.code y bytes maxL ret ∈ tb ∧ Cond.initialized y.cls ∈ tb ∧ y.cls ≠ "java/lang/invoke/MethodHandle" ∧ y.cls ≠ "java/lang/invoke/VarHandle" ∧ (parseMethodDescriptor y.desc).map (fun d => d.parameters.length) = some n) ∧ Cond.instanceMethod y ∈ tb ∧ Cond.selects y.cls y y ∈ tb
def MS (y : MethodName) (bytes : ByteArray) (maxL : Nat) (ret : Option FieldType) (n : Nat) : Prop := (Cond.code y bytes maxL ret ∈ tb ∧ Cond.initialized y.cls ∈ tb ∧ y.cls ≠ "java/lang/invoke/MethodHandle" ∧ y.cls ≠ "java/lang/invoke/VarHandle" ∧ (parseMethodDescriptor y.desc).map (fun d => d.parameters.length) = some n) ∧ Cond.static y ∈ tb
theorem qP_blind {E : Ev} {P : Nat → Prop} {sd : Nat → Nat → Nat} {G : GH} {av : List Value} : FrameBlind (qP E P sd G av) := by
  intro a U g mk q
  obtain ⟨q0, q1, q2, q3, q4⟩ := q
  exact ⟨q0, q1, q2, va_K.moved (u := U) (U := U.calling g mk a) (Vm.Alike.refl U.vm) q3, q4.same rfl rfl⟩
theorem qP_pre {E : Ev} {P : Nat → Prop} {sd ad : Nat → Nat → Nat} {G : GH} {av : List Value} {s : State} {H : Heap} {locs : List Loc} (hag : ∀ o k, P o → ad o k = sd o k) (hK : KE E s) (hE : SE E s) (hsz : E.2.2.2.2.2 ≤ s.heap.size) (hH : Hd E ad G H) (hS : va_S (rg E) s.heap H locs) :
    ∀ U : State, U.heap = H → s.WarmedH U.vm → qP E P sd G av av.toArray U := by
  intro U hU hW
  refine ⟨rfl, ?_, ⟨ad, hag, by rw [hU]; exact hH⟩, va_K.moved hW.alike hK, hE.moved hW (fun a h1 h2 => by rw [hU]; exact hS.2.1 a h1 h2)⟩
  rw [hU]
  exact Nat.le_trans hsz hS.1
theorem aw_after (F : Fx E X own cc nL) {post : Option Value → GH → Prop} {mc' ms' : Nat} {rest st0 : List Value} {a : Array Value}
    (kk : ∀ (v : Option Value) (G' : GH), post v G' → AW E X nL (pc + 3) lv (v.toList ++ rest) G' (n1 + mc') (n2 + ms')) :
    match X with
    | (p, l, e, R, s, m, args, below, meth, c, Q, sd, P) => ∀ (ls : Array Slot) (H : Heap) (locs : List Loc), lv_has ls nL lv → va_S (rg E) s.heap H locs → va_Run p l e R s m args below meth c H locs n1 n2 mc' ms' (F0 m pc ls st0) rest (qQ E P sd post a) (rg E) → W p l e R s m args below meth c H locs n1 n2 Q (F0 m pc ls st0) := by
  obtain ⟨p, l, e, R, s, m, args, below, meth, c2, Q, sd, P⟩ := X
  intro ls H locs hl hS hr T hT X
  obtain ⟨v, st₀, t, T', L, h0, X', hL, e1, e2, ⟨⟨v', G', hv, hp, ad', hag', hH'⟩, hz, hk⟩, st⟩ := hr T hT X
  cases hv
  rw [h0] at hz hk
  obtain ⟨t2, a1, b1⟩ := kk v G' hp ls T'.heap (locs ++ L) ad' hag' hl (by rw [e1]; exact hH')
    ⟨Nat.le_trans hS.1 (by rw [e1]; exact hz), fun q h1 h2 => by rw [e1, hk q (Nat.lt_of_lt_of_le h1 hS.1) h2]; exact hS.2.1 q h1 h2, fun q hq => by
      rcases List.mem_append.mp hq with h | h
      · exact hS.2.2 q h
      · exact hL q h⟩ T' rfl X'
  exact ⟨t2, st t2 a1, b1⟩
/-- a call of an object's method -/
theorem aw_cV (F : Fx E X own cc nL) (hR : RX X = rmh h mc ms) {y : MethodName} {bytes : ByteArray} {maxL : Nat} {ret : Option FieldType} {n index h' mc' ms' o c : Nat} {post : Option Value → GH → Prop} (As : List Value)
    (hM : Ct (lX X) y bytes maxL ret h' mc' ms' E (PX X) (sdX X) G (.ref (sdX X o 0) :: As) post) (mv : MV y bytes maxL ret n) (hw : Cond.methodLink own index y ∈ tb) {T : u_T} {N : Nat} {ty : Nat → FieldType} (cf : CF c y.cls T N ty) (hlo : lo G o) (hP : PX X o) (hc : oc o = c) (hc9 : c < 9)
    (hn : As.length = n) {st0 : List Value} (hst : st0 = As.reverse ++ .ref (sdX X o 0) :: stk) (hrm : (stk.map fun v => v.category).sum ≤ 8) (hfr : h' + 1 ≤ h ∧ 8 + (maxL + 11) + 64 * h' ≤ 64 * h) (hce : n1 + mc' ≤ mc ∧ n2 + ms' ≤ ms) (d : decode cc pc = .ok (.invokevirtual index, 3))
    (kk : ∀ (v : Option Value) (G' : GH), post v G' → AW E X nL (pc + 3) lv (v.toList ++ stk) G' (n1 + mc') (n2 + ms')) : AW E X nL pc lv st0 G n1 n2 := by
  have af := aw_after (st0 := st0) (a := (Value.ref (sdX X o 0) :: As).toArray) F kk
  obtain ⟨p, l, e, R, s, m, args, below, meth, c2, Q, sd, P⟩ := X
  have hR : R = rmh h mc ms := hR
  subst hR
  intro ls H locs ad hag hl hH hS
  refine af ls H locs hl hS ?_
  obtain ⟨L, f, i, h1, h2, hi, -⟩ := hH.opn hlo (lk0 hc hc9)
  rw [ct0, hc] at hi
  have e1 : sd o 0 = ad o 0 := (hag o 0 hP).symm
  have hts := F.2.2.2.2.1
  have cb : CallB (rmh h mc ms) s args own index y bytes maxL ret (.code y bytes maxL ret :: tb) (rmh h' mc' ms') mc' ms' n :=
    callB_of n hts (tb_in0 mv.1.1) rfl rfl rfl (hts _ mv.1.2.1) (hts _ hw) ⟨mv.1.2.2.1, mv.1.2.2.2.1, mv.1.2.2.2.2⟩ hfr
  refine va_runV (C := y.cls) (As := As) (b := sd o 0) (rest := stk) (Ts := tb) ⟨F.1, F.2.1, F.2.2.1, F.2.2.2.1, hts⟩ hM ⟨cb, hts _ mv.2.1, hts _ mv.2.2⟩ ⟨qP_blind, ?_, qP_pre hag F.2.2.2.2.2.1 F.2.2.2.2.2.2.1 F.2.2.2.2.2.2.2.1 hH hS⟩ rfl hn hl.1 hst (lv_room (m := m) (pc := pc) (ls := ls) (rest := st0) hrm) d ⟨hce.1, hce.2⟩
  rw [e1]
  exact va_recv F.2.2.2.2.2.1 h1 cf.1 hi
/-- a call of a static method -/
theorem aw_cS (F : Fx E X own cc nL) (hR : RX X = rmh h mc ms) {y : MethodName} {bytes : ByteArray} {maxL : Nat} {ret : Option FieldType} {n index h' mc' ms' : Nat} {post : Option Value → GH → Prop} (As : List Value)
    (hM : Ct (lX X) y bytes maxL ret h' mc' ms' E (PX X) (sdX X) G As post) (mv : MS y bytes maxL ret n) (hw : Cond.methodLink own index y ∈ tb)
    (hn : As.length = n) {st0 : List Value} (hst : st0 = As.reverse ++ stk) (hrm : (stk.map fun v => v.category).sum ≤ 8) (hfr : h' + 1 ≤ h ∧ 8 + (maxL + 11) + 64 * h' ≤ 64 * h) (hce : n1 + mc' ≤ mc ∧ n2 + ms' ≤ ms) (d : decode cc pc = .ok (.invokestatic index, 3))
    (kk : ∀ (v : Option Value) (G' : GH), post v G' → AW E X nL (pc + 3) lv (v.toList ++ stk) G' (n1 + mc') (n2 + ms')) : AW E X nL pc lv st0 G n1 n2 := by
  have af := aw_after (st0 := st0) (a := As.toArray) F kk
  obtain ⟨p, l, e, R, s, m, args, below, meth, c2, Q, sd, P⟩ := X
  have hR : R = rmh h mc ms := hR
  subst hR
  intro ls H locs ad hag hl hH hS
  refine af ls H locs hl hS ?_
  have hts := F.2.2.2.2.1
  have cb : CallB (rmh h mc ms) s args own index y bytes maxL ret (.code y bytes maxL ret :: tb) (rmh h' mc' ms') mc' ms' n :=
    callB_of n hts (tb_in0 mv.1.1) rfl rfl rfl (hts _ mv.1.2.1) (hts _ hw) ⟨mv.1.2.2.1, mv.1.2.2.2.1, mv.1.2.2.2.2⟩ hfr
  exact va_runS (As := As) (rest := stk) (Ts := tb) ⟨F.1, F.2.1, F.2.2.1, F.2.2.2.1, hts⟩ hM ⟨cb, hts _ mv.2⟩ ⟨qP_blind, qP_pre hag F.2.2.2.2.2.1 F.2.2.2.2.2.2.1 F.2.2.2.2.2.2.2.1 hH hS⟩ rfl hn hl.1 hst (lv_room (m := m) (pc := pc) (ls := ls) (rest := st0) hrm) d ⟨hce.1, hce.2⟩
/-- a call of a private static method of the nest -/
theorem aw_cSN (F : Fx E X own cc nL) (hR : RX X = rmh h mc ms) {y : MethodName} {bytes : ByteArray} {maxL : Nat} {ret : Option FieldType} {n index h' mc' ms' : Nat} {post : Option Value → GH → Prop} (As : List Value)
    (hM : Ct (lX X) y bytes maxL ret h' mc' ms' E (PX X) (sdX X) G As post) (mv : MS y bytes maxL ret n) (hw : (own, index, y) ∈ nsM)
    (hn : As.length = n) {st0 : List Value} (hst : st0 = As.reverse ++ stk) (hrm : (stk.map fun v => v.category).sum ≤ 8) (hfr : h' + 1 ≤ h ∧ 8 + (maxL + 11) + 64 * h' ≤ 64 * h) (hce : n1 + mc' ≤ mc ∧ n2 + ms' ≤ ms) (d : decode cc pc = .ok (.invokestatic index, 3))
    (kk : ∀ (v : Option Value) (G' : GH), post v G' → AW E X nL (pc + 3) lv (v.toList ++ stk) G' (n1 + mc') (n2 + ms')) : AW E X nL pc lv st0 G n1 n2 := by
  have af := aw_after (st0 := st0) (a := As.toArray) F kk
  obtain ⟨p, l, e, R, s, m, args, below, meth, c2, Q, sd, P⟩ := X
  have hR : R = rmh h mc ms := hR
  subst hR
  intro ls H locs ad hag hl hH hS
  refine af ls H locs hl hS ?_
  have hts := F.2.2.2.2.1
  have cb : va_CN (rmh h mc ms) s args own index y "MarkField" bytes maxL ret (.code y bytes maxL ret :: tb) (rmh h' mc' ms') mc' ms' n :=
    va_cnB n hts (tb_in0 mv.1.1) rfl rfl rfl (F.2.2.2.2.2.2.1.2.1.2 _ hw) (hts _ mv.1.2.1) ⟨mv.1.2.2.1, mv.1.2.2.2.1, mv.1.2.2.2.2⟩ hfr
  exact va_runSN (As := As) (rest := stk) (Ts := tb) ⟨F.1, F.2.1, F.2.2.1, F.2.2.2.1, hts⟩ hM ⟨cb, hts _ mv.2, trivial⟩ ⟨qP_blind, qP_pre hag F.2.2.2.2.2.1 F.2.2.2.2.2.2.1 F.2.2.2.2.2.2.2.1 hH hS⟩ rfl hn hl.1 hst (lv_room (m := m) (pc := pc) (ls := ls) (rest := st0) hrm) d ⟨hce.1, hce.2⟩
/-- Math.max, Math.min -/
theorem aw_mmax (F : Fx E X own cc nL) (hR : RX X = rmh h mc ms) {index : Nat} {x y : Int32} (hw : Cond.methodLink own index Lib.Math.max.name ∈ tb) (hw1 : Cond.static Lib.Math.max.name ∈ tb) (hw2 : Cond.initialized "java/lang/Math" ∈ tb) (hw3 : Cond.code Lib.Math.max.name Lib.Math.max.code 2 (some .int) ∈ tb)
    (hfr : 1 ≤ h) (hrm : (stk.map fun v => v.category).sum ≤ 8) (hce : n1 ≤ mc ∧ n2 ≤ ms) (d : decode cc pc = .ok (.invokestatic index, 3)) (kk : AW E X nL (pc + 3) lv (.int (if x < y then y else x) :: stk) G n1 n2) : AW E X nL pc lv (.int y :: .int x :: stk) G n1 n2 := by
  obtain ⟨p, l, e, R, s, m, args, below, meth, c2, Q, sd, P⟩ := X
  have hR : R = rmh h mc ms := hR
  subst hR
  intro ls H locs ad hag hl hH hS
  exact va_mmax F.1 F.2.1 (by rw [F.2.2.1]; exact hl.1.symm) F.2.2.2.1 (F.2.2.2.2.1 _ hw) (F.2.2.2.2.1 _ hw1) (F.2.2.2.2.1 _ hw2) (F.2.2.2.2.1 _ hw3) hfr (by show _ ≤ 64 * h; omega) hce.1 hce.2 d (kk ls H locs ad hag hl hH hS)
theorem aw_mmin (F : Fx E X own cc nL) (hR : RX X = rmh h mc ms) {index : Nat} {x y : Int32} (hw : Cond.methodLink own index Lib.Math.min.name ∈ tb) (hw1 : Cond.static Lib.Math.min.name ∈ tb) (hw2 : Cond.initialized "java/lang/Math" ∈ tb) (hw3 : Cond.code Lib.Math.min.name Lib.Math.min.code 2 (some .int) ∈ tb)
    (hfr : 1 ≤ h) (hrm : (stk.map fun v => v.category).sum ≤ 8) (hce : n1 ≤ mc ∧ n2 ≤ ms) (d : decode cc pc = .ok (.invokestatic index, 3)) (kk : AW E X nL (pc + 3) lv (.int (if y < x then y else x) :: stk) G n1 n2) : AW E X nL pc lv (.int y :: .int x :: stk) G n1 n2 := by
  obtain ⟨p, l, e, R, s, m, args, below, meth, c2, Q, sd, P⟩ := X
  have hR : R = rmh h mc ms := hR
  subst hR
  intro ls H locs ad hag hl hH hS
  exact va_mmin F.1 F.2.1 (by rw [F.2.2.1]; exact hl.1.symm) F.2.2.2.1 (F.2.2.2.2.1 _ hw) (F.2.2.2.2.1 _ hw1) (F.2.2.2.2.1 _ hw2) (F.2.2.2.2.1 _ hw3) hfr (by show _ ≤ 64 * h; omega) hce.1 hce.2 d (kk ls H locs ad hag hl hH hS)
end AWC
