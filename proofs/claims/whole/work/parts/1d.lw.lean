/-! ===== constructors: the world as a list: what was there (w0), then the new cells (wx) ===== -/
def LW (E : Ev) (X : Cx) (nL pc : Nat) (lv : List (Nat × Value)) (stk : List Value) (w0 wx : va_W) (n1 n2 : Nat) : Prop := match X with
  | (p, l, e, R, s, m, args, below, meth, c, Q, sd, P) => ∀ (ls : Array Slot) (H : Heap) (locs : List Loc), lv_has ls nL lv → va_P E.1 vwCl (w0 ++ wx) H → va_D (rg E) (w0 ++ wx) → va_S (rg E) s.heap H locs → W p l e R s m args below meth c H locs n1 n2 Q (F0 m pc ls stk)
def qPL (E : Ev) (w0 wx : va_W) (av : List Value) : Array Value → State → Prop := va_Pc av (fun U => E.2.2.2.2.2 ≤ U.heap.size ∧ (va_P E.1 vwCl (w0 ++ wx) U.heap ∧ va_D (rg E) (w0 ++ wx)) ∧ KE E U ∧ SE E U)
def qQL (E : Ev) (w0 : va_W) (post : va_W → Prop) : Array Value → State → Outcome → State → Prop := fun _ st oc t => (∃ wx : va_W, oc = .returned none ∧ post wx ∧ va_P E.1 vwCl (w0 ++ wx) t.heap ∧ va_D (rg E) (w0 ++ wx)) ∧ va_F (rg E) st t
def CtL (l : Launch) (y : MethodName) (cc : ByteArray) (mL h mc ms : Nat) (E : Ev) (w0 wx : va_W) (av : List Value) (post : va_W → Prop) : Prop := Met l y (.code y cc mL none :: tb) (rmh h mc ms) (qPL E w0 wx av) (qQL E w0 post) mc ms (rg E)
def RTL (E : Ev) (X : Cx) (h mc ms : Nat) (w0 : va_W) (post : va_W → Prop) : Prop := match X with
  | (_, _, _, R, s, _, args, below, meth, _, Q, _, _) => R = rmh h mc ms ∧ meth.sig.returnType = none ∧ meth.name = "<init>" ∧ Q = MQ below (qQL E w0 post) args s mc ms (rg E)
def inX (X : Cx) : Prop := X.2.2.2.2.2.2.2.2.1.name = "<init>"
theorem RTL.room {E : Ev} {X : Cx} {h mc ms : Nat} {w0 : va_W} {post : va_W → Prop} (T : RTL E X h mc ms w0 post) : RX X = rmh h mc ms := by
  obtain ⟨p, l, e, R, s, m, args, below, meth, c2, Q, sd, P⟩ := X
  exact T.1
theorem RTL.ini {E : Ev} {X : Cx} {h mc ms : Nat} {w0 : va_W} {post : va_W → Prop} (T : RTL E X h mc ms w0 post) : inX X := by
  obtain ⟨p, l, e, R, s, m, args, below, meth, c2, Q, sd, P⟩ := X
  exact T.2.2.1
theorem lw_at {w0 wx : va_W} {k : Nat} {q : Nat × va_E} (h : wx[k]? = some q) : (w0 ++ wx)[w0.length + k]? = some q := by
  rw [List.getElem?_append_right (Nat.le_add_right _ _), Nat.add_sub_cancel_left]
  exact h
theorem lw_set {w0 wx : va_W} {k : Nat} {q : Nat × va_E} : (w0 ++ wx).set (w0.length + k) q = w0 ++ wx.set k q := by
  rw [List.set_append_right _ _ (Nat.le_add_right _ _), Nat.add_sub_cancel_left]
theorem ctl_of {l : Launch} {y : MethodName} {own : String} {cc : ByteArray} {mL h mc ms : Nat} {E : Ev} {w0 wx : va_W} {av : List Value} {post : va_W → Prop}
    (hy : plainName y.cls = true) (hown : y.cls = own) (hyn : y.name = "<init>") (hlen : (lg_sl av).length ≤ mL)
    (body : ∀ X : Cx, Fx E X own cc mL → RTL E X h mc ms w0 post → l = lX X → LW E X mL 0 (lv_args 0 av) [] w0 wx 0 0) : CtL l y cc mL h mc ms E w0 wx av post := by
  subst hown
  refine Met.ofW (cc := cc) (maxL := mL) (ret := none) hy rfl ?_
  intro p e s m args below meth c s₁ B hml hv
  obtain ⟨rfl, hsz, ⟨hP, hD⟩, hK, hSE⟩ := hv
  have hts := atoms_spec (ws := .code y cc mL none :: tb) B.pre
  have hown : s.vm.findClass y.cls = some m.cls := findClass_of_methodNamed B.named
  have hin : meth.name = "<init>" := (name_of_methodNamed B.named B.method).1.trans hyn
  have b := body (p, l, e, rmh h mc ms, s, m, av.toArray, below, meth, c, MQ below (qQL E w0 post) av.toArray s mc ms (rg E), fun _ _ => 0, fun _ => True) ⟨B.exec, B.bytes, hml, hown, fun w hw => hts w (List.mem_cons_of_mem _ hw), hK, hSE, hsz, B.notSynchronized, fun _ _ => trivial⟩ ⟨rfl, B.returns, hin, rfl⟩ rfl
  have hl := lv_entry av (n := mL) hlen
  rw [lg_entry_eq]
  exact b _ s.heap [] hl hP hD va_S.rf
section LWR
variable {E : Ev} {X : Cx} {own : String} {cc : ByteArray} {nL pc : Nat} {lv : List (Nat × Value)} {stk : List Value} {w0 wx : va_W} {n1 n2 h mc ms : Nat}
theorem lw_vret (F : Fx E X own cc nL) {post : va_W → Prop} (T : RTL E X h mc ms w0 post) (h1 : n1 ≤ mc) (h2 : n2 ≤ ms) (hp : post wx) (d : decode cc pc = .ok (.return_, 1)) : LW E X nL pc lv [] w0 wx n1 n2 := by
  obtain ⟨p, l, e, R, s, m, args, below, meth, c2, Q, sd, P⟩ := X
  obtain ⟨rfl, hr, -, rfl⟩ := T
  intro ls H locs hl hP hD hS
  have hlocks : meth.locks = false := F.2.2.2.2.2.2.2.2.1
  refine W.widen (k := mc) (n := ms) h1 h2 ?_
  exact W.vret F.1 F.2.1 hr (fun t ht hW => ⟨⟨wx, rfl, hp, by rw [ht]; exact hP, hD⟩, hS.F ht⟩) hS.2.2 d
theorem lw_ic (F : Fx E X own cc nL) {n : Int} {v : Int32} (d : decode cc pc = .ok (.iconst n, 1)) (hv : Int32.ofInt n = v) (kk : LW E X nL (pc + 1) lv (.int v :: stk) w0 wx n1 n2) : LW E X nL pc lv stk w0 wx n1 n2 := by
  obtain ⟨p, l, e, R, s, m, args, below, meth, c2, Q, sd, P⟩ := X
  intro ls H locs hl hP hD hS
  exact lv_iconst F.1 F.2.1 d hv (kk ls H locs hl hP hD hS)
theorem lw_bi (F : Fx E X own cc nL) {n : Int} {v : Int32} (d : decode cc pc = .ok (.bipush n, 2)) (hv : (Int8.ofInt n).toInt32 = v) (kk : LW E X nL (pc + 2) lv (.int v :: stk) w0 wx n1 n2) : LW E X nL pc lv stk w0 wx n1 n2 := by
  obtain ⟨p, l, e, R, s, m, args, below, meth, c2, Q, sd, P⟩ := X
  intro ls H locs hl hP hD hS
  exact lv_bipush F.1 F.2.1 d hv (kk ls H locs hl hP hD hS)
theorem lw_si (F : Fx E X own cc nL) {n : Int} {v : Int32} (d : decode cc pc = .ok (.sipush n, 3)) (hv : (Int16.ofInt n).toInt32 = v) (kk : LW E X nL (pc + 3) lv (.int v :: stk) w0 wx n1 n2) : LW E X nL pc lv stk w0 wx n1 n2 := by
  obtain ⟨p, l, e, R, s, m, args, below, meth, c2, Q, sd, P⟩ := X
  intro ls H locs hl hP hD hS
  exact lv_sipush F.1 F.2.1 d hv (kk ls H locs hl hP hD hS)
theorem lw_al_n (F : Fx E X own cc nL) {k : Fin 4} {i x : Nat} (j : Nat) (d : decode cc pc = .ok (.aload_n k, 1)) (hi : (k : Nat) = i) (hj : lv[j]? = some (i, .ref x)) (kk : LW E X nL (pc + 1) lv (.ref x :: stk) w0 wx n1 n2) : LW E X nL pc lv stk w0 wx n1 n2 := by
  obtain ⟨p, l, e, R, s, m, args, below, meth, c2, Q, sd, P⟩ := X
  intro ls H locs hl hP hD hS
  exact lv_aload_n F.1 F.2.1 d hi (lv_at hl j hj) (kk ls H locs hl hP hD hS)
theorem lw_al (F : Fx E X own cc nL) {i x : Nat} (j : Nat) (d : decode cc pc = .ok (.aload i, 2)) (hj : lv[j]? = some (i, .ref x)) (kk : LW E X nL (pc + 2) lv (.ref x :: stk) w0 wx n1 n2) : LW E X nL pc lv stk w0 wx n1 n2 := by
  obtain ⟨p, l, e, R, s, m, args, below, meth, c2, Q, sd, P⟩ := X
  intro ls H locs hl hP hD hS
  exact lv_aload F.1 F.2.1 d (lv_at hl j hj) (kk ls H locs hl hP hD hS)
theorem lw_dup (F : Fx E X own cc nL) {va : Value} (d : decode cc pc = .ok (.dup, 1)) (hc : va.category = 1) (kk : LW E X nL (pc + 1) lv (va :: va :: stk) w0 wx n1 n2) : LW E X nL pc lv (va :: stk) w0 wx n1 n2 := by
  obtain ⟨p, l, e, R, s, m, args, below, meth, c2, Q, sd, P⟩ := X
  intro ls H locs hl hP hD hS
  exact lv_dup F.1 F.2.1 d hc (kk ls H locs hl hP hD hS)
theorem lw_null (F : Fx E X own cc nL) (d : decode cc pc = .ok (.aconst_null, 1)) (kk : LW E X nL (pc + 1) lv (.null :: stk) w0 wx n1 n2) : LW E X nL pc lv stk w0 wx n1 n2 := by
  obtain ⟨p, l, e, R, s, m, args, below, meth, c2, Q, sd, P⟩ := X
  intro ls H locs hl hP hD hS
  exact lv_null F.1 F.2.1 d (kk ls H locs hl hP hD hS)
theorem lw_ini (F : Fx E X own cc nL) (hR : RX X = rmh h mc ms) {idx a : Nat} (hw : Cond.methodLink own idx Lib.objectInit ∈ tb) (hw1 : Cond.instanceMethod Lib.objectInit ∈ tb) (hw2 : Cond.code Lib.objectInit ⟨#[0xb1]⟩ 1 none ∈ tb) (hfr : 1 ≤ h) (hrm : (stk.map fun v => v.category).sum ≤ 8) (d : decode cc pc = .ok (.invokespecial idx, 3)) (kk : LW E X nL (pc + 3) lv stk w0 wx n1 n2) : LW E X nL pc lv (.ref a :: stk) w0 wx n1 n2 := by
  obtain ⟨p, l, e, R, s, m, args, below, meth, c2, Q, sd, P⟩ := X
  have hR : R = rmh h mc ms := hR
  subst hR
  intro ls H locs hl hP hD hS
  exact W.objInit F.1 F.2.1 F.2.2.2.1 (F.2.2.2.2.1 _ hw) (F.2.2.2.2.1 _ hw1) (F.2.2.2.2.1 _ hw2) rfl (by rw [F.2.2.1]; exact hl.1) rfl d hfr (by show 2 * 0 + _ + 12 ≤ 64 * h; omega) (kk ls H locs hl hP hD hS)
theorem cls_one {s : State} {cA cB : ClassId} {ty : FieldType} (h1 : va_RA s cA ty) (h2 : va_RA s cB ty) : cA = cB := by
  cases ty with
  | object C =>
    obtain ⟨_, _, -, -, -, a⟩ := h1
    obtain ⟨_, _, -, -, -, b⟩ := h2
    exact Option.some.inj (a.symm.trans b)
  | _ => exact Option.some.inj (h1.symm.trans h2)
/-- a new row of ints, bytes or longs -/
theorem lw_naI (F : Fx E X own cc nL) (hR : RX X = rmh h mc ms) {n : Int32} {N : Nat} (hw : Cond.arrayClass .int ∈ tb) (hn : ¬ n < 0) (hN : n.toNatClampNeg = N) (hb9 : N ≤ 100000) (h1 : n1 + 1 ≤ mc) (h2 : n2 + N ≤ ms) (d : decode cc pc = .ok (.newarray .int, 2)) (kk : ∀ q : Nat, LW E X nL (pc + 2) lv (.ref q :: stk) w0 (wx ++ [(q, .inl (E.2.1 0, N, .inl (fun _ => 0)))]) (n1 + 1) (n2 + N)) : LW E X nL pc lv (.int n :: stk) w0 wx n1 n2 := by
  obtain ⟨p, l, e, R, s, m, args, below, meth, c2, Q, sd, P⟩ := X
  have hR : R = rmh h mc ms := hR
  subst hR
  intro ls H locs hl hP hD hS
  have hK := F.2.2.2.2.2.1
  refine va_newa (atype := .int) (ty := .int) (a0 := (N, .inl (fun _ => 0))) F.1 F.2.1 (F.2.2.2.2.1 _ hw) rfl hK hP hD hS (fun q hq => Nat.le_trans F.2.2.2.2.2.2.2.1 hq) (fun _ => rfl) hn hN (by show N * 4 ≤ _; omega) h1 h2 d (fun q cA H1 k1 k2 k3 k4 => ?_)
  have e : cA = E.2.1 0 := cls_one (k1.2 4 _ rfl).2 (hK.2 0 _ rfl).2
  subst e
  rw [List.append_assoc] at k2 k3
  exact kk q ls H1 locs hl k2 k3 k4
theorem lw_naB (F : Fx E X own cc nL) (hR : RX X = rmh h mc ms) {n : Int32} {N : Nat} (hw : Cond.arrayClass .byte ∈ tb) (hn : ¬ n < 0) (hN : n.toNatClampNeg = N) (hb9 : N ≤ 100000) (h1 : n1 + 1 ≤ mc) (h2 : n2 + N ≤ ms) (d : decode cc pc = .ok (.newarray .byte, 2)) (kk : ∀ q : Nat, LW E X nL (pc + 2) lv (.ref q :: stk) w0 (wx ++ [(q, .inl (E.2.1 1, N, .inl (fun _ => 0)))]) (n1 + 1) (n2 + N)) : LW E X nL pc lv (.int n :: stk) w0 wx n1 n2 := by
  obtain ⟨p, l, e, R, s, m, args, below, meth, c2, Q, sd, P⟩ := X
  have hR : R = rmh h mc ms := hR
  subst hR
  intro ls H locs hl hP hD hS
  have hK := F.2.2.2.2.2.1
  refine va_newa (atype := .byte) (ty := .byte) (a0 := (N, .inl (fun _ => 0))) F.1 F.2.1 (F.2.2.2.2.1 _ hw) rfl hK hP hD hS (fun q hq => Nat.le_trans F.2.2.2.2.2.2.2.1 hq) (fun _ => rfl) hn hN (by show N * 1 ≤ _; omega) h1 h2 d (fun q cA H1 k1 k2 k3 k4 => ?_)
  have e : cA = E.2.1 1 := cls_one (k1.2 4 _ rfl).2 (hK.2 1 _ rfl).2
  subst e
  rw [List.append_assoc] at k2 k3
  exact kk q ls H1 locs hl k2 k3 k4
theorem lw_naQ (F : Fx E X own cc nL) (hR : RX X = rmh h mc ms) {n : Int32} {N index : Nat} (hw : Cond.classLink own index "MarkField$Register" ∈ tb) (hw2 : Cond.arrayOver (.object "MarkField$Register") ∈ tb) (hn : ¬ n < 0) (hN : n.toNatClampNeg = N) (hb9 : N ≤ 100000) (h1 : n1 + 1 ≤ mc) (h2 : n2 + N ≤ ms) (d : decode cc pc = .ok (.anewarray index, 3)) (kk : ∀ q : Nat, LW E X nL (pc + 3) lv (.ref q :: stk) w0 (wx ++ [(q, .inl (E.2.1 3, N, .inr (.inr (.inr (.inr (fun _ => none))))))]) (n1 + 1) (n2 + N)) : LW E X nL pc lv (.int n :: stk) w0 wx n1 n2 := by
  obtain ⟨p, l, e, R, s, m, args, below, meth, c2, Q, sd, P⟩ := X
  have hR : R = rmh h mc ms := hR
  subst hR
  intro ls H locs hl hP hD hS
  have hK := F.2.2.2.2.2.1
  refine va_newq F.1 F.2.1 F.2.2.2.1 (F.2.2.2.2.1 _ hw) (va_AO.of (F.2.2.2.2.1 _ hw2)) hK hP hD hS (fun q hq => Nat.le_trans F.2.2.2.2.2.2.2.1 hq) hn hN (by omega) h1 h2 d (fun q cA H1 k1 k2 k3 k4 => ?_)
  have e : cA = E.2.1 3 := cls_one (k1.2 4 _ rfl).2 (hK.2 3 _ rfl).2
  subst e
  rw [List.append_assoc] at k2 k3
  exact kk q ls H1 locs hl k2 k3 k4
/-- a final field, in the constructor; another one -/
theorem lw_pF (F : Fx E X own cc nL) (hin : inX X) (k0 k : Nat) {a ci : Nat} {fs : List Value} {v : Value} {C : String} {T : u_T} {N index : Nat} {ty : Nat → FieldType} (cf : CF ci C T N ty) (he : wx[k0]? = some (a, .inr (ci, fs))) (hk : k < N) (hw : Cond.fieldLink own index (T k).1 (T k).2.1 (T k).2.2.1 ∈ tb) (hfin : (T k).2.2.2 = true) (hdecl : (T k).1 = own) (hn : narrow (ty k) v = v) (hf : fits (ty k) v = true) (hl9 : k < fs.length) {wy : va_W} (hy : wx.set k0 (a, .inr (ci, fs.set k v)) = wy) (d : decode cc pc = .ok (.putfield index, 3)) (kk : LW E X nL (pc + 3) lv stk w0 wy n1 n2) : LW E X nL pc lv (v :: .ref a :: stk) w0 wx n1 n2 := by
  subst hy
  obtain ⟨p, l, e, R, s, m, args, below, meth, c2, Q, sd, P⟩ := X
  intro ls H locs hl hP hD hS
  refine va_putF F.1 F.2.1 F.2.2.2.2.1 cf.2.1 ty cf.2.2.1 cf.2.2.2 F.2.2.2.1 F.2.2.2.2.2.1 hP hD hS (w0.length + k0) (lw_at he) cf.1 k hk (F.2.2.2.2.1 _ hw) (fun _ h => h) hfin hin hdecl (cf.2.2.1 k hk) hn hf hl9 d (fun H1 locs1 q1 q2 q3 => ?_)
  rw [lw_set] at q1 q2
  exact kk ls H1 locs1 hl q1 q2 q3
theorem lw_p (F : Fx E X own cc nL) (k0 k : Nat) {a ci : Nat} {fs : List Value} {v : Value} {C : String} {T : u_T} {N index : Nat} {ty : Nat → FieldType} (cf : CF ci C T N ty) (he : wx[k0]? = some (a, .inr (ci, fs))) (hk : k < N) (hw : Cond.fieldLink own index (T k).1 (T k).2.1 (T k).2.2.1 ∈ tb) (hfin : (T k).2.2.2 = false) (hn : narrow (ty k) v = v) (hf : fits (ty k) v = true) (hl9 : k < fs.length) {wy : va_W} (hy : wx.set k0 (a, .inr (ci, fs.set k v)) = wy) (d : decode cc pc = .ok (.putfield index, 3)) (kk : LW E X nL (pc + 3) lv stk w0 wy n1 n2) : LW E X nL pc lv (v :: .ref a :: stk) w0 wx n1 n2 := by
  subst hy
  obtain ⟨p, l, e, R, s, m, args, below, meth, c2, Q, sd, P⟩ := X
  intro ls H locs hl hP hD hS
  refine va_put F.1 F.2.1 F.2.2.2.2.1 cf.2.1 ty cf.2.2.1 cf.2.2.2 F.2.2.2.1 F.2.2.2.2.2.1 hP hD hS (w0.length + k0) (lw_at he) cf.1 k hk (F.2.2.2.2.1 _ hw) (fun _ h => h) hfin (cf.2.2.1 k hk) hn hf hl9 d (fun H1 locs1 q1 q2 q3 => ?_)
  rw [lw_set] at q1 q2
  exact kk ls H1 locs1 hl q1 q2 q3
theorem lw_g (F : Fx E X own cc nL) (k0 k : Nat) {a ci : Nat} {fs : List Value} {v : Value} {C : String} {T : u_T} {N index : Nat} {ty : Nat → FieldType} (cf : CF ci C T N ty) (he : wx[k0]? = some (a, .inr (ci, fs))) (hk : k < N) (hw : Cond.fieldLink own index (T k).1 (T k).2.1 (T k).2.2.1 ∈ tb) (hv : fs[k]? = some v) (d : decode cc pc = .ok (.getfield index, 3)) (kk : LW E X nL (pc + 3) lv (v :: stk) w0 wx n1 n2) : LW E X nL pc lv (.ref a :: stk) w0 wx n1 n2 := by
  obtain ⟨p, l, e, R, s, m, args, below, meth, c2, Q, sd, P⟩ := X
  intro ls H locs hl hP hD hS
  exact va_get F.1 F.2.1 F.2.2.2.2.1 cf.2.1 F.2.2.2.1 F.2.2.2.2.2.1 hP (w0.length + k0) (lw_at he) cf.1 k hk (F.2.2.2.2.1 _ hw) (fun _ h => h) hv d (kk ls H locs hl hP hD hS)
theorem lw_gst (F : Fx E X own cc nL) (i : Nat) (hi : i < 5) {index : Nat} (hw : (own, index, sNm i) ∈ nsF) (d : decode cc pc = .ok (.getstatic index, 3)) (kk : LW E X nL (pc + 3) lv (.ref (E.2.2.1 i) :: stk) w0 wx n1 n2) : LW E X nL pc lv stk w0 wx n1 n2 := by
  obtain ⟨p, l, e, R, s, m, args, below, meth, c2, Q, sd, P⟩ := X
  intro ls H locs hl hP hD hS
  exact va_getsN F.1 F.2.1 (F.2.2.2.2.2.2.1.1 i hi).1 hS F.2.2.2.1 ((F.2.2.2.2.2.2.1.2.1.1 _ hw).use rfl) (fun _ h => h) d (kk ls H locs hl hP hD hS)
theorem lw_cpT (F : Fx E X own cc nL) (i : Nat) (hi : i < 5) (k0 : Nat) {a m1 index : Nat} {g : Nat → Int32} {sp dp n : Int32} (he : wx[k0]? = some (a, .inl (E.2.1 0, m1, .inl g))) (hw : Cond.methodLink own index arraycopyName ∈ tb) (hw1 : Cond.native arraycopyName ∈ tb) (hw2 : Cond.static arraycopyName ∈ tb) (hw3 : Cond.initialized "java/lang/System" ∈ tb)
    (h1 : ¬ sp < 0) (h2 : ¬ dp < 0) (h3 : ¬ n < 0) (h4 : sp.toNatClampNeg + n.toNatClampNeg ≤ (sTb i).length) (h5 : dp.toNatClampNeg + n.toNatClampNeg ≤ m1) (hfr : 1 ≤ (RX X).frames) (hlc : (stk.map fun v => v.category).sum + (nativeFrameWords "java/lang/System" "arraycopy" 5 + 11) ≤ (RX X).locals) {wy : va_W} (hy : wx.set k0 (a, .inl (E.2.1 0, m1, .inl (va_cpy (fun j => (sTb i).getD j 0) g sp.toNatClampNeg dp.toNatClampNeg n.toNatClampNeg))) = wy) (d : decode cc pc = .ok (.invokestatic index, 3))
    (kk : LW E X nL (pc + 3) lv stk w0 wy n1 n2) : LW E X nL pc lv (.int n :: .int dp :: .ref a :: .int sp :: .ref (E.2.2.1 i) :: stk) w0 wx n1 n2 := by
  subst hy
  obtain ⟨p, l, e, R, s, m, args, below, meth, c2, Q, sd, P⟩ := X
  intro ls H locs hl hP hD hS
  refine cpyT_w F.1 F.2.1 (by rw [F.2.2.1]; exact hl.1.symm) F.2.2.2.1 (F.2.2.2.2.1 _ hw) (F.2.2.2.2.1 _ hw1) (F.2.2.2.2.1 _ hw2) (F.2.2.2.2.1 _ hw3) F.2.2.2.2.2.1 hP hD hS (F.2.2.2.2.2.2.1.1 i hi).2 (w0.length + k0) 0 (lw_at he) rfl h1 h2 h3 h4 h5 hfr hlc d (fun H1 locs1 q1 q2 q3 => ?_)
  rw [lw_set] at q1 q2
  exact kk ls H1 locs1 hl q1 q2 q3
/-- a new object -/
theorem lw_new (F : Fx E X own cc nL) (hR : RX X = rmh h mc ms) {ci index : Nat} {fs : List Value} {C : String} {T : u_T} {N : Nat} {ty : Nat → FieldType} (cf : CF ci C T N ty) (hw : Cond.classLink own index C ∈ tb) (hw1 : Cond.instantiable C N ∈ tb) (hw2 : Cond.initialized C ∈ tb) (hfs : ∀ j, j < N → defaultValue (ty j) = vp_V fs j) (h1 : n1 + 1 ≤ mc) (h2 : n2 + N ≤ ms) (d : decode cc pc = .ok (.new index, 3)) (kk : ∀ q : Nat, LW E X nL (pc + 3) lv (.ref q :: stk) w0 (wx ++ [(q, .inr (ci, fs))]) (n1 + 1) (n2 + N)) : LW E X nL pc lv stk w0 wx n1 n2 := by
  obtain ⟨p, l, e, R, s, m, args, below, meth, c2, Q, sd, P⟩ := X
  have hR : R = rmh h mc ms := hR
  subst hR
  intro ls H locs hl hP hD hS
  refine va_new F.1 F.2.1 F.2.2.2.2.1 cf.2.1 ty cf.2.2.1 F.2.2.2.1 (F.2.2.2.2.1 _ hw) (F.2.2.2.2.1 _ hw1) (F.2.2.2.2.1 _ hw2) F.2.2.2.2.2.1 hP hD hS (fun q hq => Nat.le_trans F.2.2.2.2.2.2.2.1 hq) cf.1 hfs h1 h2 d (fun q H1 k2 k3 k4 => ?_)
  rw [List.append_assoc] at k2 k3
  exact kk q ls H1 locs hl k2 k3 k4
theorem qPL_blind {E : Ev} {w0 wx : va_W} {av : List Value} : FrameBlind (qPL E w0 wx av) := by
  intro a U g mk q
  obtain ⟨q0, q1, q2, q3, q4⟩ := q
  exact ⟨q0, q1, q2, va_K.moved (u := U) (U := U.calling g mk a) (Vm.Alike.refl U.vm) q3, q4.same rfl rfl⟩
/-- the call of a constructor: its new cells are wc (the object among them), the others are wr -/
theorem lw_cI (F : Fx E X own cc nL) (hR : RX X = rmh h mc ms) {y : MethodName} {bytes : ByteArray} {maxL n index h2 mc2 ms2 b : Nat} {wr wc : va_W} {post : va_W → Prop} (As : List Value) (hM : CtL (lX X) y bytes maxL h2 mc2 ms2 E (w0 ++ wr) wc (.ref b :: As) post)
    (mv : Cond.code y bytes maxL none ∈ tb ∧ Cond.initialized y.cls ∈ tb ∧ y.cls ≠ "java/lang/invoke/MethodHandle" ∧ y.cls ≠ "java/lang/invoke/VarHandle" ∧ (parseMethodDescriptor y.desc).map (fun d => d.parameters.length) = some n) (hyn : y.name = "<init>") (hw1 : Cond.instanceMethod y ∈ tb) (hw : Cond.methodLink own index y ∈ tb ∨ (own, index, y) ∈ nsM)
    (hwx : wr ++ wc = wx) (hn : As.length = n) {st0 : List Value} (hst : st0 = As.reverse ++ .ref b :: stk) (hrm : (stk.map fun v => v.category).sum ≤ 8) (hfr : h2 + 1 ≤ h ∧ 8 + (maxL + 11) + 64 * h2 ≤ 64 * h) (hce : n1 + mc2 ≤ mc ∧ n2 + ms2 ≤ ms) (d : decode cc pc = .ok (.invokespecial index, 3))
    (kk : ∀ wd : va_W, post wd → LW E X nL (pc + 3) lv stk w0 (wr ++ wd) (n1 + mc2) (n2 + ms2)) : LW E X nL pc lv st0 w0 wx n1 n2 := by
  subst hwx
  obtain ⟨p, l, e, R, s, m, args, below, meth, c2, Q, sd, P⟩ := X
  have hR : R = rmh h mc ms := hR
  subst hR
  intro ls H locs hl hP hD hS
  rw [← List.append_assoc] at hP hD
  have hts := F.2.2.2.2.1
  have hpre : ∀ U : State, U.heap = H → s.WarmedH U.vm → qPL E (w0 ++ wr) wc (.ref b :: As) (Value.ref b :: As).toArray U := by
    intro U hU hW
    refine ⟨rfl, ?_, ⟨by rw [hU]; exact hP, hD⟩, va_K.moved hW.alike F.2.2.2.2.2.1, F.2.2.2.2.2.2.1.moved hW (fun a h1 h2 => by rw [hU]; exact hS.2.1 a h1 h2)⟩
    rw [hU]
    exact Nat.le_trans F.2.2.2.2.2.2.2.1 hS.1
  have hr : va_Run p l e (rmh h mc ms) s m args below meth c2 H locs n1 n2 mc2 ms2 (F0 m pc ls st0) stk (qQL E (w0 ++ wr) post (Value.ref b :: As).toArray) (rg E) := by
    rcases hw with hw | hw
    · exact va_runI (As := As) (b := b) (rest := stk) (Ts := tb) ⟨F.1, F.2.1, F.2.2.1, F.2.2.2.1, hts⟩ hM ⟨callB_of n hts (tb_in0 mv.1) rfl rfl rfl (hts _ mv.2.1) (hts _ hw) ⟨mv.2.2.1, mv.2.2.2.1, mv.2.2.2.2⟩ hfr, hyn, hts _ hw1⟩ ⟨qPL_blind, hpre⟩ rfl hn hl.1 hst (lv_room (m := m) (pc := pc) (ls := ls) (rest := st0) hrm) d ⟨hce.1, hce.2⟩
    · exact va_runIN (As := As) (b := b) (rest := stk) (Ts := tb) ⟨F.1, F.2.1, F.2.2.1, F.2.2.2.1, hts⟩ hM ⟨va_cnB n hts (tb_in0 mv.1) rfl rfl rfl (F.2.2.2.2.2.2.1.2.1.2 _ hw) (hts _ mv.2.1) ⟨mv.2.2.1, mv.2.2.2.1, mv.2.2.2.2⟩ hfr, hyn, hts _ hw1⟩ ⟨qPL_blind, hpre⟩ rfl hn hl.1 hst (lv_room (m := m) (pc := pc) (ls := ls) (rest := st0) hrm) d ⟨hce.1, hce.2⟩
  intro T hT X
  obtain ⟨v, st₀, t, T', L, h0, X', hL, e1, e2, ⟨⟨wd, hv, hp, hP1, hD1⟩, hz, hk⟩, st⟩ := hr T hT X
  cases hv
  rw [h0] at hz hk
  rw [List.append_assoc] at hP1 hD1
  obtain ⟨t2, a1, b1⟩ := kk wd hp ls T'.heap (locs ++ L) hl (by rw [e1]; exact hP1) hD1
    ⟨Nat.le_trans hS.1 (by rw [e1]; exact hz), fun q h1 h2 => by rw [e1, hk q (Nat.lt_of_lt_of_le h1 hS.1) h2]; exact hS.2.1 q h1 h2, fun q hq => by
      rcases List.mem_append.mp hq with h | h
      · exact hS.2.2 q h
      · exact hL q h⟩ T' rfl X'
  exact ⟨t2, st t2 a1, b1⟩
end LWR
