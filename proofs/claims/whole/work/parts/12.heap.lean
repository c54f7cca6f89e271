/-! ===== fields and rows ===== -/
def CF (c : Nat) (C : String) (T : u_T) (N : Nat) (ty : Nat → FieldType) : Prop := vwCl[c]? = some (C, T, N) ∧ (∀ w ∈ u_ws C T N, w ∈ tb) ∧ (∀ k, k < N → parseFieldDescriptor (T k).2.2.1 = some (ty k)) ∧ ∀ a, a < N → ∀ b, b < N → a ≠ b → (T a).2.1 ≠ (T b).2.1
section AWH
variable {E : Ev} {X : Cx} {own : String} {cc : ByteArray} {nL pc : Nat} {lv : List (Nat × Value)} {stk : List Value} {G : GH} {n1 n2 : Nat}
theorem aw_gi (F : Fx E X own cc nL) (o c k : Nat) {C : String} {T : u_T} {N index : Nat} {ty : Nat → FieldType} (cf : CF c C T N ty) (hlo : lo G o) (hP : PX X o) (hc : oc o = c) (hc9 : c < 9) (hk : k < N) (hw : Cond.fieldLink own index (T k).1 (T k).2.1 (T k).2.2.1 ∈ tb) (hv : ∀ ad, (fv ad G o c)[k]? = some (.int (G o 0 k))) (d : decode cc pc = .ok (.getfield index, 3))
    (kk : AW E X nL (pc + 3) lv (.int (G o 0 k) :: stk) G n1 n2) : AW E X nL pc lv (.ref (sdX X o 0) :: stk) G n1 n2 := by
  obtain ⟨p, l, e, R, s, m, args, below, meth, c2, Q, sd, P⟩ := X
  intro ls H locs ad hag hl hH hS
  obtain ⟨L, f, i, h1, h2, hi, -⟩ := hH.opn hlo (lk0 hc hc9)
  rw [ct0, hc] at hi
  have e1 : sd o 0 = ad o 0 := (hag o 0 hP).symm
  show W p l e R s m args below meth c2 H locs n1 n2 Q (F0 m pc ls (.ref (sd o 0) :: stk))
  rw [e1]
  exact va_get F.1 F.2.1 F.2.2.2.2.1 cf.2.1 F.2.2.2.1 F.2.2.2.2.2.1 h1 i hi cf.1 k hk (F.2.2.2.2.1 _ hw) (fun _ h => h) (hv ad) d (kk ls H locs ad hag hl hH hS)
theorem aw_gr (F : Fx E X own cc nL) (o c k o2 k2 : Nat) {C : String} {T : u_T} {N index : Nat} {ty : Nat → FieldType} (cf : CF c C T N ty) (hlo : lo G o) (hP : PX X o) (hP2 : PX X o2) (hc : oc o = c) (hc9 : c < 9) (hk : k < N) (hw : Cond.fieldLink own index (T k).1 (T k).2.1 (T k).2.2.1 ∈ tb) (hv : ∀ ad, (fv ad G o c)[k]? = some (.ref (ad o2 k2))) (d : decode cc pc = .ok (.getfield index, 3))
    (kk : AW E X nL (pc + 3) lv (.ref (sdX X o2 k2) :: stk) G n1 n2) : AW E X nL pc lv (.ref (sdX X o 0) :: stk) G n1 n2 := by
  obtain ⟨p, l, e, R, s, m, args, below, meth, c2, Q, sd, P⟩ := X
  intro ls H locs ad hag hl hH hS
  obtain ⟨L, f, i, h1, h2, hi, -⟩ := hH.opn hlo (lk0 hc hc9)
  rw [ct0, hc] at hi
  have e1 : sd o 0 = ad o 0 := (hag o 0 hP).symm
  have e2 : sd o2 k2 = ad o2 k2 := (hag o2 k2 hP2).symm
  have kk' := kk ls H locs ad hag hl hH hS
  have kk' : W p l e R s m args below meth c2 H locs n1 n2 Q (F0 m (pc + 3) ls (.ref (sd o2 k2) :: stk)) := kk'
  rw [e2] at kk'
  show W p l e R s m args below meth c2 H locs n1 n2 Q (F0 m pc ls (.ref (sd o 0) :: stk))
  rw [e1]
  exact va_get F.1 F.2.1 F.2.2.2.2.1 cf.2.1 F.2.2.2.1 F.2.2.2.2.2.1 h1 i hi cf.1 k hk (F.2.2.2.2.1 _ hw) (fun _ h => h) (hv ad) d kk'
theorem aw_pi (F : Fx E X own cc nL) (o c k : Nat) {x : Int32} {C : String} {T : u_T} {N index : Nat} {ty : Nat → FieldType} (cf : CF c C T N ty) (hlo : lo G o) (hP : PX X o) (hc : oc o = c) (hc9 : c < 9) (h10 : ¬ (c = 7 ∧ k = 10)) (hk : k < N) (hw : Cond.fieldLink own index (T k).1 (T k).2.1 (T k).2.2.1 ∈ tb) (hfin : (T k).2.2.2 = false) (hn : narrow (ty k) (.int x) = .int x) (hf : fits (ty k) (.int x) = true) (hl9 : ∀ ad, k < (fv ad G o c).length)
    (hv : ∀ ad, (fv ad G o c).set k (.int x) = fv ad (gs G o 0 (upd (G o 0) k x)) o c) (d : decode cc pc = .ok (.putfield index, 3))
    (kk : AW E X nL (pc + 3) lv stk (gs G o 0 (upd (G o 0) k x)) n1 n2) : AW E X nL pc lv (.int x :: .ref (sdX X o 0) :: stk) G n1 n2 := by
  obtain ⟨p, l, e, R, s, m, args, below, meth, c2, Q, sd, P⟩ := X
  intro ls H locs ad hag hl hH hS
  obtain ⟨L, f, i, h1, h2, hi, -, cl⟩ := hH.opn hlo (lk0 hc hc9)
  rw [ct0, hc] at hi
  have e1 : sd o 0 = ad o 0 := (hag o 0 hP).symm
  show W p l e R s m args below meth c2 H locs n1 n2 Q (F0 m pc ls (.int x :: .ref (sd o 0) :: stk))
  rw [e1]
  refine va_put F.1 F.2.1 F.2.2.2.2.1 cf.2.1 ty cf.2.2.1 cf.2.2.2 F.2.2.2.1 F.2.2.2.2.2.1 h1 h2 hS i hi cf.1 k hk (F.2.2.2.2.1 _ hw) (fun _ h => h) hfin (cf.2.2.1 k hk) hn hf (hl9 ad) d (fun H1 locs1 q1 q2 q3 => ?_)
  obtain ⟨a1, a2, a3⟩ := fld_ok (E := E) (ad := ad) (G := G) (x := x) hc h10
  rw [hv ad, ← a3] at q1 q2
  exact kk ls H1 locs1 ad hag hl (cl _ _ a1 a2 q1 q2) q3
theorem aw_iald (F : Fx E X own cc nL) (o k : Nat) {n : Nat} {i : Int32} (hlo : lo G o) (hP : PX X o) (ha : al (oc o) k = some (0, n)) (hin : vp_in i n) (d : decode cc pc = .ok (.iaload, 1))
    (kk : AW E X nL (pc + 1) lv (.int (G o k i.toNatClampNeg) :: stk) G n1 n2) : AW E X nL pc lv (.int i :: .ref (sdX X o k) :: stk) G n1 n2 := by
  obtain ⟨p, l, e, R, s, m, args, below, meth, c2, Q, sd, P⟩ := X
  intro ls H locs ad hag hl hH hS
  obtain ⟨L, f, j, h1, h2, hi, -⟩ := hH.opn hlo (lkk ha)
  rw [ctk ha] at hi
  have e1 : sd o k = ad o k := (hag o k hP).symm
  show W p l e R s m args below meth c2 H locs n1 n2 Q (F0 m pc ls (.int i :: .ref (sd o k) :: stk))
  rw [e1]
  exact va_iald F.1 F.2.1 F.2.2.2.2.2.1 h1 j 0 hi rfl hin d (kk ls H locs ad hag hl hH hS)
theorem aw_bald (F : Fx E X own cc nL) (o k : Nat) {n : Nat} {i : Int32} (hlo : lo G o) (hP : PX X o) (ha : al (oc o) k = some (1, n)) (hin : vp_in i n) (d : decode cc pc = .ok (.baload, 1))
    (kk : AW E X nL (pc + 1) lv (.int (nb (G o k i.toNatClampNeg)) :: stk) G n1 n2) : AW E X nL pc lv (.int i :: .ref (sdX X o k) :: stk) G n1 n2 := by
  obtain ⟨p, l, e, R, s, m, args, below, meth, c2, Q, sd, P⟩ := X
  intro ls H locs ad hag hl hH hS
  obtain ⟨L, f, j, h1, h2, hi, -⟩ := hH.opn hlo (lkk ha)
  rw [ctk ha] at hi
  have e1 : sd o k = ad o k := (hag o k hP).symm
  show W p l e R s m args below meth c2 H locs n1 n2 Q (F0 m pc ls (.int i :: .ref (sd o k) :: stk))
  rw [e1]
  exact va_bald F.1 F.2.1 F.2.2.2.2.2.1 h1 j 1 hi rfl hin d (kk ls H locs ad hag hl hH hS)
theorem aw_iast (F : Fx E X own cc nL) (o k : Nat) {n : Nat} {i x : Int32} (hlo : lo G o) (hP : PX X o) (ha : al (oc o) k = some (0, n)) (hin : vp_in i n) (d : decode cc pc = .ok (.iastore, 1))
    (kk : AW E X nL (pc + 1) lv stk (gs G o k (upd (G o k) i.toNatClampNeg x)) n1 n2) : AW E X nL pc lv (.int x :: .int i :: .ref (sdX X o k) :: stk) G n1 n2 := by
  obtain ⟨p, l, e, R, s, m, args, below, meth, c2, Q, sd, P⟩ := X
  intro ls H locs ad hag hl hH hS
  obtain ⟨L, f, j, h1, h2, hi, -, cl⟩ := hH.opn hlo (lkk ha)
  rw [ctk ha] at hi
  have e1 : sd o k = ad o k := (hag o k hP).symm
  show W p l e R s m args below meth c2 H locs n1 n2 Q (F0 m pc ls (.int x :: .int i :: .ref (sd o k) :: stk))
  rw [e1]
  refine va_iast F.1 F.2.1 F.2.2.2.2.2.1 h1 h2 hS j 0 hi rfl hin d (fun H1 locs1 q1 q2 q3 => ?_)
  obtain ⟨a1, a2, a3⟩ := row_ok (E := E) (ad := ad) (G := G) (f := upd (G o k) i.toNatClampNeg x) ha (show ¬ (0 : Nat) = 3 by decide)
  have a3' : ct E ad (gs G o k (upd (G o k) i.toNatClampNeg x)) o k = .inl (E.2.1 0, n, .inl (upd (G o k) i.toNatClampNeg x)) := a3
  rw [← a3'] at q1 q2
  exact kk ls H1 locs1 ad hag hl (cl _ _ a1 a2 q1 q2) q3
theorem aw_bast (F : Fx E X own cc nL) (o k : Nat) {n : Nat} {i x : Int32} (hlo : lo G o) (hP : PX X o) (ha : al (oc o) k = some (1, n)) (hin : vp_in i n) (d : decode cc pc = .ok (.bastore, 1))
    (kk : AW E X nL (pc + 1) lv stk (gs G o k (upd (G o k) i.toNatClampNeg x)) n1 n2) : AW E X nL pc lv (.int x :: .int i :: .ref (sdX X o k) :: stk) G n1 n2 := by
  obtain ⟨p, l, e, R, s, m, args, below, meth, c2, Q, sd, P⟩ := X
  intro ls H locs ad hag hl hH hS
  obtain ⟨L, f, j, h1, h2, hi, -, cl⟩ := hH.opn hlo (lkk ha)
  rw [ctk ha] at hi
  have e1 : sd o k = ad o k := (hag o k hP).symm
  show W p l e R s m args below meth c2 H locs n1 n2 Q (F0 m pc ls (.int x :: .int i :: .ref (sd o k) :: stk))
  rw [e1]
  refine va_bast F.1 F.2.1 F.2.2.2.2.2.1 h1 h2 hS j 1 hi rfl hin d (fun H1 locs1 q1 q2 q3 => ?_)
  obtain ⟨a1, a2, a3⟩ := row_ok (E := E) (ad := ad) (G := G) (f := upd (G o k) i.toNatClampNeg x) ha (show ¬ (1 : Nat) = 3 by decide)
  have hu : (upd (fun j => nb (G o k j)) i.toNatClampNeg (vp_nar .byte x)) = fun j => nb (upd (G o k) i.toNatClampNeg x j) := by
    funext q
    by_cases hq : q = i.toNatClampNeg
    · simp [upd, hq, nb]
    · simp [upd, hq]
  have a3' : ct E ad (gs G o k (upd (G o k) i.toNatClampNeg x)) o k = .inl (E.2.1 1, n, .inl (upd (fun j => nb (G o k j)) i.toNatClampNeg (vp_nar .byte x))) := by
    rw [hu]; exact a3
  rw [← a3'] at q1 q2
  exact kk ls H1 locs1 ad hag hl (cl _ _ a1 a2 q1 q2) q3
theorem aw_len (F : Fx E X own cc nL) (o k : Nat) {t n : Nat} (ht4 : t < 4) {v : Int32} (hlo : lo G o) (hP : PX X o) (ha : al (oc o) k = some (t, n)) (hv : Int32.ofNat n = v) (d : decode cc pc = .ok (.arraylength, 1))
    (kk : AW E X nL (pc + 1) lv (.int v :: stk) G n1 n2) : AW E X nL pc lv (.ref (sdX X o k) :: stk) G n1 n2 := by
  obtain ⟨p, l, e, R, s, m, args, below, meth, c2, Q, sd, P⟩ := X
  intro ls H locs ad hag hl hH hS
  obtain ⟨L, f, j, h1, h2, hi, -⟩ := hH.opn hlo (lkk ha)
  rw [ctk ha] at hi
  have e1 : sd o k = ad o k := (hag o k hP).symm
  show W p l e R s m args below meth c2 H locs n1 n2 Q (F0 m pc ls (.ref (sd o k) :: stk))
  rw [e1]
  match t, ht4, hi with
  | 0, _, hi => exact va_alen F.1 F.2.1 F.2.2.2.2.2.1 h1 j 0 hi rfl hv d (kk ls H locs ad hag hl hH hS)
  | 1, _, hi => exact va_alen F.1 F.2.1 F.2.2.2.2.2.1 h1 j 1 hi rfl hv d (kk ls H locs ad hag hl hH hS)
  | 2, _, hi => exact va_alen F.1 F.2.1 F.2.2.2.2.2.1 h1 j 2 hi rfl hv d (kk ls H locs ad hag hl hH hS)
  | 3, _, hi => exact va_alen F.1 F.2.1 F.2.2.2.2.2.1 h1 j 3 hi rfl hv d (kk ls H locs ad hag hl hH hS)
/-- System.arraycopy of rows of ints (t 0) or bytes (t 1), from one row to another or within one -/
theorem aw_cpy (F : Fx E X own cc nL) (o k o2 k2 : Nat) {t n0 n1' : Nat} (ht2 : t < 2) {index : Nat} {sp dp n : Int32} (hlo : lo G o) (hP : PX X o) (ha : al (oc o) k = some (t, n0)) (hlo2 : lo G o2) (hP2 : PX X o2) (ha2 : al (oc o2) k2 = some (t, n1'))
    (hw : Cond.methodLink own index arraycopyName ∈ tb) (hw1 : Cond.native arraycopyName ∈ tb) (hw2 : Cond.static arraycopyName ∈ tb) (hw3 : Cond.initialized "java/lang/System" ∈ tb)
    (h1 : ¬ sp < 0) (h2 : ¬ dp < 0) (h3 : ¬ n < 0) (h4 : sp.toNatClampNeg + n.toNatClampNeg ≤ n0) (h5 : dp.toNatClampNeg + n.toNatClampNeg ≤ n1') (hfr : 1 ≤ (RX X).frames) (hlc : (stk.map fun v => v.category).sum + (nativeFrameWords "java/lang/System" "arraycopy" 5 + 11) ≤ (RX X).locals) (d : decode cc pc = .ok (.invokestatic index, 3))
    (kk : AW E X nL (pc + 3) lv stk (gs G o2 k2 (va_cpy (G o k) (G o2 k2) sp.toNatClampNeg dp.toNatClampNeg n.toNatClampNeg)) n1 n2) : AW E X nL pc lv (.int n :: .int dp :: .ref (sdX X o2 k2) :: .int sp :: .ref (sdX X o k) :: stk) G n1 n2 := by
  obtain ⟨p, l, e, R, s, m, args, below, meth, c2, Q, sd, P⟩ := X
  intro ls H locs ad hag hl hH hS
  obtain ⟨L, f, j, g1, g2, hi, pl, cl⟩ := hH.opn hlo2 (lkk ha2)
  obtain ⟨j0, hj0⟩ := pl o k hlo (lkk ha)
  rw [ctk ha2] at hi
  rw [ctk ha] at hj0
  have e1 : sd o k = ad o k := (hag o k hP).symm
  have e2 : sd o2 k2 = ad o2 k2 := (hag o2 k2 hP2).symm
  show W p l e R s m args below meth c2 H locs n1 n2 Q (F0 m pc ls (.int n :: .int dp :: .ref (sd o2 k2) :: .int sp :: .ref (sd o k) :: stk))
  rw [e1, e2]
  have a0 := row_ok (E := E) (ad := ad) (G := G) (f := va_cpy (G o k) (G o2 k2) sp.toNatClampNeg dp.toNatClampNeg n.toNatClampNeg) ha2 (by show ¬ t = 3; omega)
  obtain ⟨a1, a2, a3⟩ := a0
  match t, ht2, hi, hj0, a3 with
  | 0, _, hi, hj0, a3 =>
    refine va_copyi (ty := .int) F.1 F.2.1 (by rw [F.2.2.1]; exact hl.1.symm) F.2.2.2.1 (F.2.2.2.2.1 _ hw) (F.2.2.2.2.1 _ hw1) (F.2.2.2.2.1 _ hw2) (F.2.2.2.2.1 _ hw3) F.2.2.2.2.2.1 g1 g2 hS j0 j 0 0 hj0 hi rfl rfl rfl h1 h2 h3 h4 h5 (fun i _ => rfl) hfr hlc d (fun H1 locs1 q1 q2 q3 => ?_)
    have a3' : ct E ad (gs G o2 k2 (va_cpy (G o k) (G o2 k2) sp.toNatClampNeg dp.toNatClampNeg n.toNatClampNeg)) o2 k2 = .inl (E.2.1 0, n1', .inl (va_cpy (G o k) (G o2 k2) sp.toNatClampNeg dp.toNatClampNeg n.toNatClampNeg)) := a3
    rw [← a3'] at q1 q2
    exact kk ls H1 locs1 ad hag hl (cl _ _ a1 a2 q1 q2) q3
  | 1, _, hi, hj0, a3 =>
    refine va_copyi (ty := .byte) F.1 F.2.1 (by rw [F.2.2.1]; exact hl.1.symm) F.2.2.2.1 (F.2.2.2.2.1 _ hw) (F.2.2.2.2.1 _ hw1) (F.2.2.2.2.1 _ hw2) (F.2.2.2.2.1 _ hw3) F.2.2.2.2.2.1 g1 g2 hS j0 j 1 1 hj0 hi rfl rfl rfl h1 h2 h3 h4 h5 (fun i _ => by show fits .byte (.int (nb _)) = true; rw [nb_eq]; exact pk_fb _) hfr hlc d (fun H1 locs1 q1 q2 q3 => ?_)
    have hu : va_cpy (fun j => nb (G o k j)) (fun j => nb (G o2 k2 j)) sp.toNatClampNeg dp.toNatClampNeg n.toNatClampNeg = fun j => nb (va_cpy (G o k) (G o2 k2) sp.toNatClampNeg dp.toNatClampNeg n.toNatClampNeg j) := by
      funext q
      unfold va_cpy
      split <;> rfl
    have a3' : ct E ad (gs G o2 k2 (va_cpy (G o k) (G o2 k2) sp.toNatClampNeg dp.toNatClampNeg n.toNatClampNeg)) o2 k2 = .inl (E.2.1 1, n1', .inl (va_cpy (fun j => nb (G o k j)) (fun j => nb (G o2 k2 j)) sp.toNatClampNeg dp.toNatClampNeg n.toNatClampNeg)) := by
      rw [hu]; exact a3
    rw [← a3'] at q1 q2
    exact kk ls H1 locs1 ad hag hl (cl _ _ a1 a2 q1 q2) q3
/-- statics: the row's reference, its places -/
theorem aw_gst (F : Fx E X own cc nL) (i : Nat) (hi : i < 5) {index : Nat} (hw : Cond.fieldLink own index "MarkField" (sNm i) "[I" ∈ tb) (d : decode cc pc = .ok (.getstatic index, 3))
    (kk : AW E X nL (pc + 3) lv (.ref (E.2.2.1 i) :: stk) G n1 n2) : AW E X nL pc lv stk G n1 n2 := by
  obtain ⟨p, l, e, R, s, m, args, below, meth, c2, Q, sd, P⟩ := X
  intro ls H locs ad hag hl hH hS
  exact va_gets F.1 F.2.1 (F.2.2.2.2.2.2.1.1 i hi).1 hS F.2.2.2.1 (F.2.2.2.2.1 _ hw) (fun _ h => h) d (kk ls H locs ad hag hl hH hS)
theorem aw_gstN (F : Fx E X own cc nL) (i : Nat) (hi : i < 5) {index : Nat} (hw : (own, index, sNm i) ∈ nsF) (d : decode cc pc = .ok (.getstatic index, 3))
    (kk : AW E X nL (pc + 3) lv (.ref (E.2.2.1 i) :: stk) G n1 n2) : AW E X nL pc lv stk G n1 n2 := by
  obtain ⟨p, l, e, R, s, m, args, below, meth, c2, Q, sd, P⟩ := X
  intro ls H locs ad hag hl hH hS
  exact va_getsN F.1 F.2.1 (F.2.2.2.2.2.2.1.1 i hi).1 hS F.2.2.2.1 ((F.2.2.2.2.2.2.1.2.1.1 _ hw).use rfl) (fun _ h => h) d (kk ls H locs ad hag hl hH hS)
theorem aw_sald (F : Fx E X own cc nL) (i : Nat) (hi : i < 5) {j : Int32} (hin : vp_in j (sTb i).length) (d : decode cc pc = .ok (.iaload, 1))
    (kk : AW E X nL (pc + 1) lv (.int ((sTb i).getD j.toNatClampNeg 0) :: stk) G n1 n2) : AW E X nL pc lv (.int j :: .ref (E.2.2.1 i) :: stk) G n1 n2 := by
  obtain ⟨p, l, e, R, s, m, args, below, meth, c2, Q, sd, P⟩ := X
  intro ls H locs ad hag hl hH hS
  exact va_ti F.1 F.2.1 (F.2.2.2.2.2.2.1.1 i hi).2 hS hin rfl d (kk ls H locs ad hag hl hH hS)
end AWH
