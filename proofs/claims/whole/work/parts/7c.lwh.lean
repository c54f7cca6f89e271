theorem v_1293 : (Jvm.Cond.methodLink "MarkFieldLaw" (109 : Nat) ({ cls := "MarkFieldModel", name := "thrown", desc := "()I" } : Jvm.MethodName)) ∈ tb := tb_of (List.mem_of_getElem? (i := 1293) (by decide +kernel)) rfl
theorem v_1294 : (Jvm.Cond.instanceMethod ({ cls := "MarkFieldModel", name := "thrown", desc := "()I" } : Jvm.MethodName)) ∈ tb := tb_of (List.mem_of_getElem? (i := 1294) (by decide +kernel)) rfl
theorem v_1295 : (Jvm.Cond.selects "MarkFieldModel" ({ cls := "MarkFieldModel", name := "thrown", desc := "()I" } : Jvm.MethodName) ({ cls := "MarkFieldModel", name := "thrown", desc := "()I" } : Jvm.MethodName)) ∈ tb := tb_of (List.mem_of_getElem? (i := 1295) (by decide +kernel)) rfl
theorem v_1296 : (Jvm.Cond.code ({ cls := "MarkFieldModel", name := "thrown", desc := "()I" } : Jvm.MethodName) prog_10_method_2_code (1 : Nat) (Option.some Jvm.ClassFile.FieldType.int)) ∈ tb := tb_of (List.mem_of_getElem? (i := 1296) (by decide +kernel)) rfl
/-! THE CLAIM OUT OF ONE WALK OF THE LAW'S BODY. Your part is whole_start (and what it stands on); all else here is the same for every law, but numbers. -/
def R_law : String := "MarkFieldLaw"
def lw_P (b : Addr) (xs : List Int32) (args : Array Value) (s : State) : Prop := args = #[.ref b] ∧ s.IntsAt b xs ∧ xs.length ≤ 3072 ∧ (Jvm.Cond.and given_1 narrow_1).before args s = true
def lw_Q (_ : Array Value) (s : State) (o : Outcome) (t : State) : Prop := o = .returned (some (.int 1)) ∧ Framed s o t [] room_1.cells room_1.slots
def lw_Z (below : List Frame) (a : Array Value) (s : State) : State → Prop := fun t => ∃ o, t.status = .running ∧ Ended t below o ∧ lw_Q a s o t
/-- the law's own end, with 1 on the stack, nothing written that was there before, its room as the claim has it -/
theorem lw_ret {p : Program} {l : Launch} {e : Env} {s : State} {m : MethodId} {below : List Frame} {meth : Method} {c : Code} {b : Nat} (hx : p.tables.exec = Jvm.exec) (hb : c.code = code) (hr : meth.sig.returnType = ret) (hlocks : meth.locks = false) {pc : Nat} {H : Heap} {ls : Array Slot} (hdg : decode code pc = .ok (.ireturn, 1)) : W p l e room_1 s m #[Value.ref b] below meth c H [] room_1.cells room_1.slots (lw_Z below #[Value.ref b] s) (F0 m pc ls [.int 1]) := by
  intro T hT X
  obtain ⟨fs, hret, hrun, hended, hW, hframe⟩ := X.leave (v := some (.int 1)) (hlocks := hlocks) (fun h => by rw [hr] at h; cases h)
  have hmeth' : T.vm.method? m = some meth := X.method'
  refine ⟨T.setFrames fs, ?_, .returned (some (.int 1)), hrun, hended, rfl, ⟨_, rfl⟩, hW, hframe⟩
  jvm_step X.here [X.here.top, hx, hb, hdg, hmeth', hr, ret, narrow_b1]
  (try refine ⟨rfl, ?_⟩); (try refine ⟨rfl, ?_⟩)
  first | (intro acts; rw [hret _ acts rfl rfl rfl]) | rw [hret _ _ rfl rfl rfl]
  exact Steps.refl _
/-- what holds at the law's entry: the machine, the code, the tables' words (any of lw_tbl by 'hts w (by decide +kernel)'), the script of L ints xs at the cell b, what the Statement gives of the start (any of its parts by flat_of_before) -/
def lw_At (p : Program) (s : State) (m : MethodId) (meth : Method) (c : Code) (b L : Nat) (xs : Nat → Int32) : Prop :=
  p.tables.exec = Jvm.exec ∧ c.code = code ∧ meth.sig.returnType = ret ∧ c.maxLocals = 7 ∧ s.vm.findClass R_law = some m.cls ∧ (∀ w ∈ lw_tbl, w.before #[Value.ref b] s = true) ∧ va_X b L xs s s.heap ∧ b < s.heap.size ∧ meth.locks = false ∧ (Jvm.Cond.and given_1 narrow_1).before #[Value.ref b] s = true
/-! ===== the law: its room, its script, its end ===== -/
theorem w_room {p : Program} {l : Launch} {e : Env} {R R' : Room} {s : State} {m : MethodId} {args : Array Value} {below : List Frame} {meth : Method} {c : Code} {H : Heap} {locs : List Loc} {cells slots : Nat} {Q : State → Prop} {g : JFrame} (h1 : R'.frames ≤ R.frames) (h2 : R'.locals ≤ R.locals) (h3 : R'.cells ≤ R.cells) (h4 : R'.slots ≤ R.slots) (kk : W p l e R' s m args below meth c H locs cells slots Q g) : W p l e R s m args below meth c H locs cells slots Q g := by
  intro T hT X
  have hr : s.hasRoom e.platform R' = true := by
    have h := X.room
    simp only [State.hasRoom, Bool.and_eq_true, decide_eq_true_eq] at h ⊢
    obtain ⟨⟨⟨⟨a1, a2, a3, a4, a5, a6⟩, a7⟩, a8⟩, a9⟩ := h
    exact ⟨⟨⟨⟨by omega, by omega, by omega, by omega, by omega, a6⟩, by omega⟩, by omega⟩, a9⟩
  exact kk T hT ⟨X.admits, X.cas, X.clock, X.frames, hr, X.hears, X.method, X.code, X.here, X.tail, X.warmed, X.limits, X.bytes, X.same⟩
theorem lw_retR {p : Program} {l : Launch} {e : Env} {R : Room} {s : State} {m : MethodId} {below : List Frame} {meth : Method} {c : Code} {b : Nat} (hx : p.tables.exec = Jvm.exec) (hb : c.code = code) (hr : meth.sig.returnType = ret) (hlocks : meth.locks = false) {pc : Nat} {H : Heap} {ls : Array Slot} (hdg : decode code pc = .ok (.ireturn, 1)) : W p l e R s m #[Value.ref b] below meth c H [] room_1.cells room_1.slots (lw_Z below #[Value.ref b] s) (F0 m pc ls [.int 1]) := by
  intro T hT X
  obtain ⟨fs, hret, hrun, hended, hW, hframe⟩ := X.leave (v := some (.int 1)) (hlocks := hlocks) (fun h => by rw [hr] at h; cases h)
  have hmeth' : T.vm.method? m = some meth := X.method'
  refine ⟨T.setFrames fs, ?_, .returned (some (.int 1)), hrun, hended, rfl, ⟨_, rfl⟩, hW, hframe⟩
  jvm_step X.here [X.here.top, hx, hb, hdg, hmeth', hr, ret, narrow_b1]
  (try refine ⟨rfl, ?_⟩); (try refine ⟨rfl, ?_⟩)
  first | (intro acts; rw [hret _ acts rfl rfl rfl]) | rw [hret _ _ rfl rfl rfl]
  exact Steps.refl _
def LwX (E : Ev) (X : Cx) (b L : Nat) (xs : Nat → Int32) : Prop := match X with
  | (_, _, _, _, s, _, args, below, meth, _, Q, _, _) => va_X b L xs s s.heap ∧ b < s.heap.size ∧ E.2.2.2.2.2 = s.heap.size ∧ args = #[Value.ref b] ∧ meth.sig.returnType = ret ∧ Q = lw_Z below #[Value.ref b] s
def lvL (X : Cx) (b i : Nat) : List (Nat × Value) := [(4, .int (zI i)), (3, .ref (sdX X 25 1)), (2, .ref (sdX X 24 0)), (1, .ref (sdX X 0 0)), (0, .ref b)]
section AWL
variable {E : Ev} {X : Cx} {pc : Nat} {lv : List (Nat × Value)} {stk : List Value} {G : GH} {n1 n2 b L : Nat} {xs : Nat → Int32}
theorem aw_lret (F : Fx E X "MarkFieldLaw" code 7) (Z : LwX E X b L xs) (h1 : n1 ≤ 600000) (h2 : n2 ≤ 7000000) (d : decode code pc = .ok (.ireturn, 1)) : AW E X 7 pc lv [.int 1] G n1 n2 := by
  obtain ⟨p, l, e, R, s, m, args, below, meth, c2, Q, sd, P⟩ := X
  obtain ⟨-, -, hE, rfl, hr, rfl⟩ := Z
  intro ls H locs ad hag hl hH hS
  refine va_forget (fun q hq => ?_) ?_
  · have := hS.2.2 q hq
    unfold rg at this
    omega
  · refine W.widen (k := room_1.cells) (n := room_1.slots) (Nat.le_trans h1 (Nat.le_of_ble_eq_true rfl)) (Nat.le_trans h2 (Nat.le_of_ble_eq_true rfl)) ?_
    exact lw_retR F.1 F.2.1 hr F.2.2.2.2.2.2.2.2.1 d
theorem LwX.nrg (Z : LwX E X b L xs) : ¬ rg E b := by
  obtain ⟨p, l, e, R, s, m, args, below, meth, c2, Q, sd, P⟩ := X
  obtain ⟨-, hb, hE, -, -, -⟩ := Z
  unfold rg
  omega
theorem aw_lsld (F : Fx E X "MarkFieldLaw" code 7) (Z : LwX E X b L xs) {i : Int32} (hin : vp_in i L) (d : decode code pc = .ok (.iaload, 1)) (kk : AW E X 7 (pc + 1) lv (.int (xs i.toNatClampNeg) :: stk) G n1 n2) : AW E X 7 pc lv (.int i :: .ref b :: stk) G n1 n2 := by
  have hb := Z.nrg
  obtain ⟨p, l, e, R, s, m, args, below, meth, c2, Q, sd, P⟩ := X
  obtain ⟨hX, hbl, -, -, -, -⟩ := Z
  intro ls H locs ad hag hl hH hS
  exact va_sld F.1 F.2.1 hX hbl hb hS hin d (kk ls H locs ad hag hl hH hS)
theorem aw_lslen (F : Fx E X "MarkFieldLaw" code 7) (Z : LwX E X b L xs) (d : decode code pc = .ok (.arraylength, 1)) (kk : AW E X 7 (pc + 1) lv (.int (Int32.ofNat L) :: stk) G n1 n2) : AW E X 7 pc lv (.ref b :: stk) G n1 n2 := by
  have hb := Z.nrg
  obtain ⟨p, l, e, R, s, m, args, below, meth, c2, Q, sd, P⟩ := X
  obtain ⟨hX, hbl, -, -, -, -⟩ := Z
  intro ls H locs ad hag hl hH hS
  exact va_slen F.1 F.2.1 hX hbl hb hS d (kk ls H locs ad hag hl hH hS)
/-- script[i + k] -/
theorem la_arg (F : Fx E X "MarkFieldLaw" code 7) (Z : LwX E X b L xs) {i k pc2 : Nat} (hi : i + 6 ≤ L) (hL : L ≤ 3072) (hk : k < 6) (j0 j4 : Nat) (h0 : lv[j0]? = some (0, .ref b)) (h4 : lv[j4]? = some (4, .int (zI i))) {kv : Int32} (hkv : kv = zI k)
    (d0 : decode code pc = .ok (.aload_n 0, 1)) (d1 : decode code (pc + 1) = .ok (.iload 4, 2)) {kz : Int} (d2 : decode code (pc + 3) = .ok (.iconst kz, 1)) (hkz : Int32.ofInt kz = kv) (d3 : decode code (pc + 4) = .ok (.iadd, 1)) (d4 : decode code (pc + 5) = .ok (.iaload, 1)) (hpc : pc + 6 = pc2)
    (kk : AW E X 7 pc2 lv (.int (xs (i + k)) :: stk) G n1 n2) : AW E X 7 pc lv stk G n1 n2 := by
  subst hpc
  subst hkv
  refine aw_al_n F j0 d0 rfl h0 ?_
  refine aw_il F j4 d1 h4 ?_
  refine aw_ic F d2 hkz ?_
  refine aw_iadd F d3 ?_
  have e : zI (i : Int) + zI (k : Int) = zI ((i + k : Nat) : Int) := by
    rw [zI_add]
    congr 1
  rw [e]
  refine aw_lsld F Z (zI_in (by omega)) d4 ?_
  rw [zI_clN (by omega)]
  exact kk
/-- a number that is not 0, as a truth -/
theorem la_bool (F : Fx E X "MarkFieldLaw" code 7) {x : Int32} {pc2 : Nat} (dA : decode code pc = .ok (.ifCond .eq 7, 3)) (d1 : decode code (pc + 3) = .ok (.iconst 1, 1)) (d2 : decode code (pc + 4) = .ok (.goto 4, 3)) (d3 : decode code (pc + 7) = .ok (.iconst 0, 1)) (hpc : pc + 8 = pc2)
    (kk : AW E X 7 pc2 lv (.int (bI (decide (x ≠ 0))) :: stk) G n1 n2) : AW E X 7 pc lv (.int x :: stk) G n1 n2 := by
  subst hpc
  refine aw_if_eq F (tgt := pc + 7) dA (by omega) (fun h => ?_) (fun h => ?_)
  · refine aw_ic F d3 (v := (0 : Int32)) (by decide) ?_
    have e : bI (decide (x ≠ 0)) = 0 := by simp [h, bI]
    rw [e] at kk
    exact kk
  · refine aw_ic F d1 (v := (1 : Int32)) (by decide) ?_
    refine aw_go F (tgt := pc + 8) d2 (by omega) ?_
    have e : bI (decide (x ≠ 0)) = 1 := by simp [h, bI]
    rw [e] at kk
    exact kk
theorem mv_X8_thrown : MV yX8_thrown cX8_thrown 1 (some .int) 0 := ⟨⟨v_1296, v_10, by decide, by decide, by decide +kernel⟩, v_1294, v_1295⟩
/-- what is on hand in the law's loop -/
def LwF (E : Ev) (X : Cx) (b L : Nat) (xs : Nat → Int32) : Prop := Fx E X "MarkFieldLaw" code 7 ∧ RX X = rmh 1312 600000 7000000 ∧ (lX X).stackTraces = false ∧ PX X = pS ∧ LwX E X b L xs ∧ L ≤ 3072
theorem LwF.pp (Z : LwF E X b L xs) : ∀ o, stt o = true → PX X o := by
  rw [Z.2.2.2.1]
  exact fun o h => h
/-- behind the two calls: the codes are the same, the values are where there is no throw -/
theorem la_tail (Z : LwF E X b L xs) {i : Nat} {k r : Int32} (h5 : G 24 0 5 = k) (hr : k = 0 → G 25 1 0 = r) (hn1 : n1 ≤ 600000) (hn2 : n2 ≤ 7000000)
    (d0 : decode code pc = .ok (.istore 6, 2)) (d1 : decode code (pc + 2) = .ok (.aload_n 2, 1)) (d2 : decode code (pc + 3) = .ok (.invokevirtual 109, 3)) (d3 : decode code (pc + 6) = .ok (.iload 5, 2)) (d4 : decode code (pc + 8) = .ok (.if_icmp .eq 5, 3))
    (d5 : decode code (pc + 13) = .ok (.iload 5, 2)) (d6 : decode code (pc + 15) = .ok (.ifCond .ne 15, 3)) (d7 : decode code (pc + 18) = .ok (.aload_n 3, 1)) (d8 : decode code (pc + 19) = .ok (.iconst 0, 1)) (d9 : decode code (pc + 20) = .ok (.laload, 1)) (da : decode code (pc + 21) = .ok (.iload 6, 2)) (db : decode code (pc + 23) = .ok (.i2l, 1)) (dc : decode code (pc + 24) = .ok (.lcmp, 1)) (dd : decode code (pc + 25) = .ok (.ifCond .eq 5, 3)) {off : Int} (de : decode code (pc + 30) = .ok (.goto off, 3)) (ht : ((pc + 30 : Nat) : Int) + off = ((2169 : Nat) : Int))
    (kk : AW E X 7 2169 (lvL X b i) [] G n1 n2) : AW E X 7 pc ((5, .int k) :: lvL X b i) [.int r] G n1 n2 := by
  obtain ⟨F, hR, hl0, hPe, hX, hL⟩ := id Z
  have hPP := Z.pp
  refine aw_is F d0 (by decide) (lv1 := (6, .int r) :: (5, .int k) :: lvL X b i) rfl ?_
  refine aw_al_n F 4 d1 rfl rfl ?_
  refine aw_cVi F hR (o := 24) (c := 8) [] (k_X8_thrown hPP (post := fun r G1 => r = k ∧ G1 = G) ?_) mv_X8_thrown v_1293 cf8 (lo_s rfl) (hPP 24 rfl) rfl (by decide) rfl rfl (Nat.le_of_ble_eq_true rfl) ⟨Nat.le_of_ble_eq_true rfl, Nat.le_of_ble_eq_true rfl⟩ ⟨hn1, hn2⟩ d2 (fun r1 G1 hp => ?_)
  · unfold wp_X8_thrown
    exact ⟨h5, rfl⟩
  obtain ⟨rfl, rfl⟩ := hp
  have kz : AW E X 7 (pc + 30) ((6, .int r) :: (5, .int r1) :: lvL X b i) [] G1 n1 n2 := by
    refine aw_go F de ht ?_
    exact aw_sub [2, 3, 4, 5, 6] rfl kk
  refine aw_il F 1 d3 rfl ?_
  refine aw_icmp_eq F (tgt := pc + 13) d4 (by omega) (fun _ => ?_) (fun h => absurd rfl h)
  refine aw_il F 1 d5 rfl ?_
  refine aw_if_ne F (tgt := pc + 30) d6 (by omega) (fun _ => kz) (fun h => ?_)
  have hk0 : r1 = 0 := h
  refine aw_al_n F 3 d7 rfl rfl ?_
  refine aw_ic F d8 (v := (0 : Int32)) (by decide) ?_
  refine aw_lald F (hPP 25 rfl) (by unfold vp_in; decide) d9 ?_
  refine aw_il F 0 da rfl ?_
  refine aw_i2l F db ?_
  refine aw_lcmp F dc ?_
  have e : lg_cmp (G1 25 1 (0 : Int32).toNatClampNeg).toInt64 r.toInt64 = 0 := by
    rw [show (0 : Int32).toNatClampNeg = 0 from rfl, hr hk0]
    exact lgc_self _
  rw [e]
  exact aw_if_eq F (tgt := pc + 30) dd (by omega) (fun _ => kz) (fun h => absurd rfl h)
/-- the same, for answers that are truths -/
theorem la_tailB (Z : LwF E X b L xs) {i : Nat} {k : Int32} {t : Bool} (h5 : G 24 0 5 = k) (hr : k = 0 → G 25 1 0 = bI t) (hn1 : n1 ≤ 600000) (hn2 : n2 ≤ 7000000)
    (d0 : decode code pc = .ok (.istore 6, 2)) (d1 : decode code (pc + 2) = .ok (.aload_n 2, 1)) (d2 : decode code (pc + 3) = .ok (.invokevirtual 109, 3)) (d3 : decode code (pc + 6) = .ok (.iload 5, 2)) (d4 : decode code (pc + 8) = .ok (.if_icmp .eq 5, 3))
    (d5 : decode code (pc + 13) = .ok (.iload 5, 2)) (d6 : decode code (pc + 15) = .ok (.ifCond .ne 22, 3)) (d7 : decode code (pc + 18) = .ok (.aload_n 3, 1)) (d8 : decode code (pc + 19) = .ok (.iconst 0, 1)) (d9 : decode code (pc + 20) = .ok (.laload, 1)) (da : decode code (pc + 21) = .ok (.iload 6, 2)) (db : decode code (pc + 23) = .ok (.ifCond .eq 7, 3)) (db1 : decode code (pc + 26) = .ok (.lconst 1, 1)) (db2 : decode code (pc + 27) = .ok (.goto 4, 3)) (db3 : decode code (pc + 30) = .ok (.lconst 0, 1)) (dc : decode code (pc + 31) = .ok (.lcmp, 1)) (dd : decode code (pc + 32) = .ok (.ifCond .eq 5, 3)) {off : Int} (de : decode code (pc + 37) = .ok (.goto off, 3)) (ht : ((pc + 37 : Nat) : Int) + off = ((2169 : Nat) : Int))
    (kk : AW E X 7 2169 (lvL X b i) [] G n1 n2) : AW E X 7 pc ((5, .int k) :: lvL X b i) [.int (bI t)] G n1 n2 := by
  obtain ⟨F, hR, hl0, hPe, hX, hL⟩ := id Z
  have hPP := Z.pp
  refine aw_is F d0 (by decide) (lv1 := (6, .int (bI t)) :: (5, .int k) :: lvL X b i) rfl ?_
  refine aw_al_n F 4 d1 rfl rfl ?_
  refine aw_cVi F hR (o := 24) (c := 8) [] (k_X8_thrown hPP (post := fun r G1 => r = k ∧ G1 = G) ?_) mv_X8_thrown v_1293 cf8 (lo_s rfl) (hPP 24 rfl) rfl (by decide) rfl rfl (Nat.le_of_ble_eq_true rfl) ⟨Nat.le_of_ble_eq_true rfl, Nat.le_of_ble_eq_true rfl⟩ ⟨hn1, hn2⟩ d2 (fun r1 G1 hp => ?_)
  · unfold wp_X8_thrown
    exact ⟨h5, rfl⟩
  obtain ⟨rfl, rfl⟩ := hp
  have kz : AW E X 7 (pc + 37) ((6, .int (bI t)) :: (5, .int r1) :: lvL X b i) [] G1 n1 n2 := by
    refine aw_go F de ht ?_
    exact aw_sub [2, 3, 4, 5, 6] rfl kk
  refine aw_il F 1 d3 rfl ?_
  refine aw_icmp_eq F (tgt := pc + 13) d4 (by omega) (fun _ => ?_) (fun h => absurd rfl h)
  refine aw_il F 1 d5 rfl ?_
  refine aw_if_ne F (tgt := pc + 37) d6 (by omega) (fun _ => kz) (fun h => ?_)
  have hk0 : r1 = 0 := h
  refine aw_al_n F 3 d7 rfl rfl ?_
  refine aw_ic F d8 (v := (0 : Int32)) (by decide) ?_
  refine aw_lald F (hPP 25 rfl) (by unfold vp_in; decide) d9 ?_
  refine aw_il F 0 da rfl ?_
  have e : lg_cmp (G1 25 1 (0 : Int32).toNatClampNeg).toInt64 (bI t).toInt64 = 0 := by
    rw [show (0 : Int32).toNatClampNeg = 0 from rfl, hr hk0]
    exact lgc_self _
  have ke : AW E X 7 (pc + 31) ((6, .int (bI t)) :: (5, .int r1) :: lvL X b i) [.long (bI t).toInt64, .long (G1 25 1 (0 : Int32).toNatClampNeg).toInt64] G1 n1 n2 := by
    refine aw_lcmp F dc ?_
    rw [e]
    exact aw_if_eq F (tgt := pc + 37) dd (by omega) (fun _ => kz) (fun h => absurd rfl h)
  refine aw_if_eq F (tgt := pc + 30) db (by omega) (fun hb => ?_) (fun hb => ?_)
  · have hb2 : t = false := bI_0.mp hb
    subst hb2
    exact aw_lc F (v := (bI false).toInt64) db3 (by decide) ke
  · have hb2 : t = true := by
      cases t
      · exact absurd rfl hb
      · rfl
    subst hb2
    refine aw_lc F (v := (bI true).toInt64) db1 (by decide) ?_
    exact aw_go F (tgt := pc + 31) db2 (by omega) ke
end AWL
/-! ===== what the two calls say of one another ===== -/
theorem zI_self (x : Int32) : zI x.toInt = x := Int32.ofInt_toInt x
theorem i32_self (x : Int32) : I32 x.toInt := by
  have h1 := Int32.le_toInt x
  have h2 := Int32.toInt_lt x
  unfold I32
  omega
/-- behind the class's call, with its throws caught -/
def LQ (kc : Nat → Nat) (o : Oc) (q : Par) (G : GH) (k : Int32) (G1 : GH) : Prop := G1 24 = G 24 ∧ ((∃ v q', o = .inr (v, q') ∧ k = 0 ∧ G1 25 1 0 = zI v ∧ IC q' G1) ∨ ∃ i, o = .inl i ∧ k = zI (kc i) ∧ k ≠ 0 ∧ IC q G1)
section
variable {q : Par} {G G1 G2 : GH} {o : Oc} {kc : Nat → Nat}
theorem ic25 {f : Nat → Int32} (h : IC q G) : IC q (gs G 25 1 f) := by
  refine h.fr (W := fun x c _ => x = 25 ∧ c = 1) (fun a b j hn => ?_) (fun x c j hw => by omega)
  rw [gs_ne]
  exact hn
theorem wq_r {r : Int32} (h : CO o G r G1) : LQ kc o q G 0 (gs G1 25 1 (upd (G1 25 1) 0 r)) := by
  obtain ⟨v, q', e1, e2, e3, e4, e5⟩ := h
  refine ⟨?_, Or.inl ⟨v, q', e1, rfl, ?_, ic25 e3⟩⟩
  · show (fun k2 => gs G1 25 1 _ 24 k2) = G 24
    rw [← e4]
    funext k2
    rw [gs_ne (by omega)]
  · rw [gs_eq]
    simp [upd, e2]
theorem wq_x {i : Nat} {k : Int32} (hk : k = zI (kc i)) (h0 : k ≠ 0) (h : CQ o q G i G1) : LQ kc o q G k G1 := ⟨h.2.2.1, Or.inr ⟨i, h.1, hk, h0, h.2.1⟩⟩
theorem LQ.ir {k : Int32} (h : LQ kc o q G k G1) (hR : IR q G) : IR q G1 := hR.cg h.1
theorem wq_m {k r : Int32} (h : LQ kc o q G k G1) (hM : MO kc o q G1 r G2) : G2 24 0 5 = k ∧ (k = 0 → G2 25 1 0 = r) ∧ Inv G2 := by
  obtain ⟨hf, hM⟩ := hM
  have icf : ∀ {q : Par}, IC q G1 → IC q G2 := fun h => h.fr (W := fun x _ _ => x = 24) (fun a b j hn => by rw [hf a hn]) (fun x c j hw => by omega)
  rcases h.2 with ⟨v, q', e1, e2, e3, e4⟩ | ⟨i, e1, e2, e3, e4⟩
  · rcases hM with ⟨v2, q2, g1, g2, g3, g4⟩ | ⟨i2, g1, g2, g3⟩
    · rw [e1] at g1
      have g1 := Sum.inr.inj g1
      have gv : v = v2 := congrArg Prod.fst g1
      have gq : q' = q2 := congrArg Prod.snd g1
      subst gv; subst gq
      refine ⟨by rw [g3, e2], fun _ => ?_, (icf e4).inv g4⟩
      rw [hf 25 (by decide), e3, g2]
    · rw [e1] at g1
      cases g1
  · rcases hM with ⟨v2, q2, g1, g2, g3, g4⟩ | ⟨i2, g1, g2, g3⟩
    · rw [e1] at g1
      cases g1
    · rw [e1] at g1
      have g1 := Sum.inl.inj g1
      subst g1
      exact ⟨by rw [g2, e2], fun h0 => absurd h0 e3, (icf e4).inv g3⟩
/-- calls that never throw -/
theorem co_m {r1 r : Int32} (hR : IR q G) (h : CO o G r1 G1) (hM : IR q G1 → MO kc o q G1 r G2) : r1 = r ∧ Inv G2 := by
  obtain ⟨v, q', e1, e2, e3, e4, e5⟩ := h
  obtain ⟨hf, hM⟩ := hM (hR.cg e4)
  have icf : IC q' G2 := e3.fr (W := fun x _ _ => x = 24) (fun a b j hn => by rw [hf a hn]) (fun x c j hw => by omega)
  rcases hM with ⟨v2, q2, g1, g2, g3, g4⟩ | ⟨i2, g1, g2, g3⟩
  · rw [e1] at g1
    have g1 := Sum.inr.inj g1
    have gv : v = v2 := congrArg Prod.fst g1
    have gq : q' = q2 := congrArg Prod.snd g1
    subst gv; subst gq
    exact ⟨by rw [e2, g2], icf.inv g4⟩
  · rw [e1] at g1
    cases g1
end
