/-- arraycopy out of a row of statics into a cell of the world (its parts by Stand.arraycopy) -/
theorem cpyT_w {p : Program} {l : Launch} {e : Env} {R : Room} {s : State} {m : MethodId} {args : Array Value} {below : List Frame} {meth : Method} {c : Code} {H : Heap} {locs : List Loc} {cells slots : Nat} {Q : State → Prop} {ls : Array Slot} {rest : List Value} {D : va_G} {cl : List vw_C} {A : Nat → Prop} {a pc : Nat} {tys : List (ClassId × FieldType)} {ws : va_W} {cc : ByteArray}
    (hexec : p.tables.exec = Jvm.exec) (hb : c.code = cc) (hml : c.maxLocals = ls.size) {own : String} {index : Nat} (hown : s.vm.findClass own = some m.cls) (hlink : (Cond.methodLink own index arraycopyName).before args s = true) (hnat : (Cond.native arraycopyName).before args s = true) (hstat : (Cond.static arraycopyName).before args s = true) (hini : (Cond.initialized "java/lang/System").before args s = true)
    (hK : va_K D cl tys s) (hP : va_P D cl ws H) (hD : va_D A ws) (hS : va_S A s.heap H locs) {b0 n0 : Nat} {f : Nat → Int32} (hX : va_T .int b0 n0 (fun j => .int (f j)) A s s.heap) (q1 t1 : Nat) {c1 : ClassId} {m1 : Nat} {g : Nat → Int32} (ha1 : ws[q1]? = some (a, .inl (c1, m1, .inl g))) (ht1 : tys[t1]? = some (c1, .int))
    {sp dp n : Int32} (h1 : ¬ sp < 0) (h2 : ¬ dp < 0) (h3 : ¬ n < 0) (h4 : sp.toNatClampNeg + n.toNatClampNeg ≤ n0) (h5 : dp.toNatClampNeg + n.toNatClampNeg ≤ m1)
    (hframes : 1 ≤ R.frames) (hlocals : (rest.map fun v => v.category).sum + (nativeFrameWords "java/lang/System" "arraycopy" 5 + 11) ≤ R.locals) (hdg : decode cc pc = .ok (.invokestatic index, 3))
    (kk : ∀ (H1 : Heap) (locs1 : List Loc), va_P D cl (ws.set q1 (a, .inl (c1, m1, .inl (va_cpy f g sp.toNatClampNeg dp.toNatClampNeg n.toNatClampNeg)))) H1 → va_D A (ws.set q1 (a, .inl (c1, m1, .inl (va_cpy f g sp.toNatClampNeg dp.toNatClampNeg n.toNatClampNeg)))) → va_S A s.heap H1 locs1 → W p l e R s m args below meth c H1 locs1 cells slots Q (F0 m (pc + 3) ls rest)) :
    W p l e R s m args below meth c H locs cells slots Q (F0 m pc ls (.int n :: .int dp :: .ref a :: .int sp :: .ref b0 :: rest)) := by
  have pos : ∀ z : Int32, ¬ z < 0 → z.toInt = (z.toNatClampNeg : Int) := fun z hz => by
    have h0 : (0 : Int) ≤ z.toInt := by simpa using Int32.le_iff_toInt_le.mp (Int32.not_lt.mp hz)
    show z.toInt = ((z.toInt.toNat : Nat) : Int)
    omega
  obtain ⟨scr, s1, s2, s3, s4, -, s5, s6⟩ := hX
  have src : H[b0]? = some scr := by rw [hS.2.1 b0 (Array.getElem?_eq_some_iff.mp s1).1 s6]; exact s1
  have dst : H[a]? = some (vp_cell c1 (m1, .inl g)) := hP q1 _ ha1
  have hlt : a < H.size := (Array.getElem?_eq_some_iff.mp dst).1
  obtain ⟨s7, k0, hk0, cm0, hkk0⟩ := s2
  obtain ⟨-, k1, hk1, cm1, hkk1⟩ := (hK.2 t1 _ ht1).1 m1 (fun j => .int (g j))
  generalize hcell : vp_cell c1 (m1, .inl (va_cpy f g sp.toNatClampNeg dp.toNatClampNeg n.toNatClampNeg)) = nc
  have e1 : copied scr (vp_cell c1 (m1, .inl g)) sp dp n = nc := by rw [← hcell]; exact va_copiedX (fun z => .int z) scr c1 f g s5 h4
  have off : ∀ q : Nat, q ≠ a → (H.setIfInBounds a nc)[q]? = H[q]? := fun q hq => by simp [Array.getElem?_setIfInBounds, Ne.symm hq]
  have hA : A a := hD.2 q1 _ ha1
  intro T hT X
  obtain ⟨vm', X', step⟩ := X.arraycopy hexec hown hlink hnat hstat hini (src := b0) (dst := a) (cs := scr) (cd := vp_cell c1 (m1, .inl g)) (srcPos := sp) (destPos := dp) (n := n) (by rw [hT]; exact src) (by rw [hT]; exact dst)
    s7 (fun _ h => by cases h) s3 (fun h => by cases h) hk0 hk1 hkk0 hkk1 (by simp [refKind]) h1 h2 h3
    (by rw [pos sp h1, pos n h3]; omega)
    (by rw [pos dp h2, pos n h3]; show ¬ _ > ((arrV c1 m1 (fun j => .int (g j))).slots.size : Int); rw [arrV_size]; omega)
    (fun vm₁ _ i hi => by
      have e : scr.slots.getD (sp.toNatClampNeg + i) .null = .int (f (sp.toNatClampNeg + i)) := by
        rw [Array.getD_eq_getD_getElem?, s5 _ (by omega)]
        rfl
      exact ⟨by rw [e]; rfl, by rw [e]; exact trivial⟩)
    (g := F0 m pc ls (.int n :: .int dp :: .ref a :: .int sp :: .ref b0 :: rest)) rfl (by rw [hml]) (rest := rest) rfl (by rw [hb]; exact hdg) hframes (by show 2 * 0 + _ + _ ≤ _; omega)
  rw [e1] at X' step
  have hheap : ((T.setVm vm').setCell a nc).heap = H.setIfInBounds a nc := by rw [← hT]; rfl
  have hat : (H.setIfInBounds a nc)[a]? = some nc := by simp [Array.getElem?_setIfInBounds, hlt]
  obtain ⟨t, a1, b1⟩ := kk _ _ (hP.set hD ha1 (show (H.setIfInBounds a nc)[a]? = some (vp_cell _ _) by rw [hat, ← hcell]) off) (hD.set ha1)
    ⟨by simp; exact hS.1, fun q g1 g2 => by rw [off q (fun e => g2 (by rw [e]; exact hA))]; exact hS.2.1 q g1 g2, fun q hq => by
      rcases List.mem_append.mp hq with h | h
      · exact hS.2.2 q h
      · obtain ⟨z, -, hz⟩ := List.mem_map.mp h
        rw [← hz]
        exact hA⟩ _ hheap X'
  exact ⟨t, step t a1, b1⟩
section AWM
variable {E : Ev} {X : Cx} {own : String} {cc : ByteArray} {nL pc : Nat} {lv : List (Nat × Value)} {stk : List Value} {G : GH} {n1 n2 h mc ms : Nat}
theorem vin_l {i : Int32} {n : Nat} (q : (decide (0 ≤ i) && decide (i.toNatClampNeg < n)) = true) : vp_in i n := by
  simp only [Bool.and_eq_true, decide_eq_true_eq] at q
  rintro (h | h)
  · exact absurd q.1 (by rw [Int32.not_le]; exact h)
  · omega
theorem aw_ialdL (F : Fx E X own cc nL) (o k : Nat) {n j : Nat} {i : Int32} (hlo : lo G o) (hP : PX X o) (ha : al (oc o) k = some (0, n)) (hin : vp_in i n) (hj : i.toNatClampNeg = j) (d : decode cc pc = .ok (.iaload, 1))
    (kk : AW E X nL (pc + 1) lv (.int (G o k j) :: stk) G n1 n2) : AW E X nL pc lv (.int i :: .ref (sdX X o k) :: stk) G n1 n2 := aw_iald F o k hlo hP ha hin d (by rw [hj]; exact kk)
theorem aw_baldL (F : Fx E X own cc nL) (o k : Nat) {n j : Nat} {i : Int32} (hlo : lo G o) (hP : PX X o) (ha : al (oc o) k = some (1, n)) (hin : vp_in i n) (hj : i.toNatClampNeg = j) (d : decode cc pc = .ok (.baload, 1))
    (kk : AW E X nL (pc + 1) lv (.int (nb (G o k j)) :: stk) G n1 n2) : AW E X nL pc lv (.int i :: .ref (sdX X o k) :: stk) G n1 n2 := aw_bald F o k hlo hP ha hin d (by rw [hj]; exact kk)
theorem aw_iastL (F : Fx E X own cc nL) (o k : Nat) {n j : Nat} {i x : Int32} (hlo : lo G o) (hP : PX X o) (ha : al (oc o) k = some (0, n)) (hin : vp_in i n) (hj : i.toNatClampNeg = j) (d : decode cc pc = .ok (.iastore, 1))
    (kk : AW E X nL (pc + 1) lv stk (gs G o k (upd (G o k) j x)) n1 n2) : AW E X nL pc lv (.int x :: .int i :: .ref (sdX X o k) :: stk) G n1 n2 := aw_iast F o k hlo hP ha hin d (by rw [hj]; exact kk)
theorem aw_bastL (F : Fx E X own cc nL) (o k : Nat) {n j : Nat} {i x : Int32} (hlo : lo G o) (hP : PX X o) (ha : al (oc o) k = some (1, n)) (hin : vp_in i n) (hj : i.toNatClampNeg = j) (d : decode cc pc = .ok (.bastore, 1))
    (kk : AW E X nL (pc + 1) lv stk (gs G o k (upd (G o k) j x)) n1 n2) : AW E X nL pc lv (.int x :: .int i :: .ref (sdX X o k) :: stk) G n1 n2 := aw_bast F o k hlo hP ha hin d (by rw [hj]; exact kk)
theorem aw_max (F : Fx E X own cc nL) (hR : RX X = rmh h mc ms) {index : Nat} {x y : Int32} (hw : Cond.methodLink own index Lib.Math.max.name ∈ tb) (hw1 : Cond.static Lib.Math.max.name ∈ tb) (hw2 : Cond.initialized "java/lang/Math" ∈ tb) (hw3 : Cond.code Lib.Math.max.name Lib.Math.max.code 2 (some .int) ∈ tb)
    (hfr : 1 ≤ h) (hrm : (stk.map fun v => v.category).sum ≤ 8) (hce : n1 ≤ mc ∧ n2 ≤ ms) (d : decode cc pc = .ok (.invokestatic index, 3)) (kk : AW E X nL (pc + 3) lv (.int (imax x y) :: stk) G n1 n2) : AW E X nL pc lv (.int y :: .int x :: stk) G n1 n2 := aw_mmax F hR hw hw1 hw2 hw3 hfr hrm hce d kk
theorem aw_min (F : Fx E X own cc nL) (hR : RX X = rmh h mc ms) {index : Nat} {x y : Int32} (hw : Cond.methodLink own index Lib.Math.min.name ∈ tb) (hw1 : Cond.static Lib.Math.min.name ∈ tb) (hw2 : Cond.initialized "java/lang/Math" ∈ tb) (hw3 : Cond.code Lib.Math.min.name Lib.Math.min.code 2 (some .int) ∈ tb)
    (hfr : 1 ≤ h) (hrm : (stk.map fun v => v.category).sum ≤ 8) (hce : n1 ≤ mc ∧ n2 ≤ ms) (d : decode cc pc = .ok (.invokestatic index, 3)) (kk : AW E X nL (pc + 3) lv (.int (imin x y) :: stk) G n1 n2) : AW E X nL pc lv (.int y :: .int x :: stk) G n1 n2 := aw_mmin F hR hw hw1 hw2 hw3 hfr hrm hce d kk
/-- System.arraycopy out of a row of statics -/
theorem aw_cpyT (F : Fx E X own cc nL) (i : Nat) (hi : i < 5) (o2 k2 : Nat) {n1' : Nat} {index : Nat} {sp dp n : Int32} (hlo2 : lo G o2) (hP2 : PX X o2) (ha2 : al (oc o2) k2 = some (0, n1'))
    (hw : Cond.methodLink own index arraycopyName ∈ tb) (hw1 : Cond.native arraycopyName ∈ tb) (hw2 : Cond.static arraycopyName ∈ tb) (hw3 : Cond.initialized "java/lang/System" ∈ tb)
    (h1 : ¬ sp < 0) (h2 : ¬ dp < 0) (h3 : ¬ n < 0) (h4 : sp.toNatClampNeg + n.toNatClampNeg ≤ (sTb i).length) (h5 : dp.toNatClampNeg + n.toNatClampNeg ≤ n1') (hfr : 1 ≤ (RX X).frames) (hlc : (stk.map fun v => v.category).sum + (nativeFrameWords "java/lang/System" "arraycopy" 5 + 11) ≤ (RX X).locals) (d : decode cc pc = .ok (.invokestatic index, 3))
    (kk : AW E X nL (pc + 3) lv stk (gs G o2 k2 (va_cpy (fun j => (sTb i).getD j 0) (G o2 k2) sp.toNatClampNeg dp.toNatClampNeg n.toNatClampNeg)) n1 n2) : AW E X nL pc lv (.int n :: .int dp :: .ref (sdX X o2 k2) :: .int sp :: .ref (E.2.2.1 i) :: stk) G n1 n2 := by
  obtain ⟨p, l, e, R, s, m, args, below, meth, c2, Q, sd, P⟩ := X
  intro ls H locs ad hag hl hH hS
  obtain ⟨L, f, j, g1, g2, hj, -, cl⟩ := hH.opn hlo2 (lkk ha2)
  rw [ctk ha2] at hj
  have e2 : sd o2 k2 = ad o2 k2 := (hag o2 k2 hP2).symm
  show W p l e R s m args below meth c2 H locs n1 n2 Q (F0 m pc ls (.int n :: .int dp :: .ref (sd o2 k2) :: .int sp :: .ref (E.2.2.1 i) :: stk))
  rw [e2]
  obtain ⟨a1, a2, a3⟩ := row_ok (E := E) (ad := ad) (G := G) (f := va_cpy (fun j => (sTb i).getD j 0) (G o2 k2) sp.toNatClampNeg dp.toNatClampNeg n.toNatClampNeg) ha2 (show ¬ (0 : Nat) = 3 by decide)
  refine cpyT_w F.1 F.2.1 (by rw [F.2.2.1]; exact hl.1.symm) F.2.2.2.1 (F.2.2.2.2.1 _ hw) (F.2.2.2.2.1 _ hw1) (F.2.2.2.2.1 _ hw2) (F.2.2.2.2.1 _ hw3) F.2.2.2.2.2.1 g1 g2 hS (F.2.2.2.2.2.2.1.1 i hi).2 j 0 hj rfl h1 h2 h3 h4 h5 hfr hlc d (fun H1 locs1 q1 q2 q3 => ?_)
  have a3' : ct E ad (gs G o2 k2 (va_cpy (fun j => (sTb i).getD j 0) (G o2 k2) sp.toNatClampNeg dp.toNatClampNeg n.toNatClampNeg)) o2 k2 = .inl (E.2.1 0, n1', .inl (va_cpy (fun j => (sTb i).getD j 0) (G o2 k2) sp.toNatClampNeg dp.toNatClampNeg n.toNatClampNeg)) := a3
  rw [← a3'] at q1 q2
  exact kk ls H1 locs1 ad hag hl (cl _ _ a1 a2 q1 q2) q3
end AWM
