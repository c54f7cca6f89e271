theorem tc_fill : Cond.codeSync Bundle.tFill LibCode.Throwable.Fill.code 1 (some (.object Bundle.tN)) ∈ tb := tb_of (List.mem_of_getElem? (i := 417) (by decide +kernel)) rfl
theorem tc_init0 : Cond.code Bundle.tInit0 LibCode.Throwable.Init0.code 1 none ∈ tb := tb_of (List.mem_of_getElem? (i := 407) (by decide +kernel)) rfl
theorem tc_obj : Cond.code Bundle.oInit ⟨#[0xb1]⟩ 1 none ∈ tb := tb_of (List.mem_of_getElem? (i := 30) (by decide +kernel)) rfl
theorem tc_initS : Cond.code (Bundle.initS Bundle.tN) LibCode.Throwable.InitS.code 2 none ∈ tb := tb_of (List.mem_of_getElem? (i := 435) (by decide +kernel)) rfl
theorem tc_rte : Cond.code (Bundle.initS "java/lang/RuntimeException") Bundle.six 2 none ∈ tb := tb_of (List.mem_of_getElem? (i := 429) (by decide +kernel)) rfl
theorem tc_exc : Cond.code (Bundle.initS "java/lang/Exception") Bundle.six 2 none ∈ tb := tb_of (List.mem_of_getElem? (i := 432) (by decide +kernel)) rfl
theorem tc_nse : Cond.code (Bundle.initS (xN 0)) prog_27_method_4_code 2 none ∈ tb := tb_of (List.mem_of_getElem? (i := 741) (by decide +kernel)) rfl
theorem tc_iae : Cond.code (Bundle.initS (xN 1)) prog_15_method_2_code 2 none ∈ tb := tb_of (List.mem_of_getElem? (i := 426) (by decide +kernel)) rfl
set_option maxRecDepth 20000 in
theorem th_ok0 {args : Array Value} {s : State} {A : Nat → Prop} (hw : ∀ w ∈ tb, w.before args s = true) (h5 : se5 s) (hU : vx_Zq Bundle.tN "UNASSIGNED_STACK" Bundle.steD A s s.heap) (hN : vx_Zq Bundle.tN "SUPPRESSED_SENTINEL" Bundle.listD A s s.heap) : thAt "MarkField" 141 (xN 0) "java/lang/RuntimeException" 13 prog_27_method_4_code ["java/lang/Exception"] args s :=
  ⟨(List.forall_mem_cons.mpr ⟨(hw _ w_11), (List.forall_mem_cons.mpr ⟨(hw _ w_405), (List.forall_mem_cons.mpr ⟨(hw _ w_414), (List.forall_mem_cons.mpr ⟨(hw _ tc_fill), (List.forall_mem_cons.mpr ⟨(hw _ w_420), (List.forall_mem_cons.mpr ⟨(hw _ w_422), (List.forall_mem_cons.mpr ⟨(hw _ w_406), (List.forall_mem_cons.mpr ⟨(hw _ tc_init0), (List.forall_mem_cons.mpr ⟨(hw _ w_29), (List.forall_mem_cons.mpr ⟨(hw _ tc_obj), (List.forall_mem_cons.mpr ⟨(hw _ w_408), (List.forall_mem_cons.mpr ⟨(hw _ w_413), (List.forall_mem_cons.mpr ⟨(hw _ w_418), (List.forall_mem_cons.mpr ⟨(hw _ w_438), (List.forall_mem_cons.mpr ⟨(hw _ w_395), (List.forall_mem_cons.mpr ⟨(hw _ w_439), (List.forall_mem_cons.mpr ⟨(hw _ w_397), (List.forall_mem_cons.mpr ⟨(hw _ w_440), (List.forall_mem_cons.mpr ⟨(hw _ w_399), (List.forall_mem_cons.mpr ⟨(hw _ w_409), (List.forall_mem_cons.mpr ⟨hU.2.word, (List.forall_mem_cons.mpr ⟨(hw _ w_411), (List.forall_mem_cons.mpr ⟨hN.2.word, (List.forall_mem_cons.mpr ⟨(hw _ w_401), (fun _ h => absurd h List.not_mem_nil)⟩)⟩)⟩)⟩)⟩)⟩)⟩)⟩)⟩)⟩)⟩)⟩)⟩)⟩)⟩)⟩)⟩)⟩)⟩)⟩)⟩)⟩)⟩)⟩), (List.forall_mem_cons.mpr ⟨(hw _ w_434), (List.forall_mem_cons.mpr ⟨(hw _ tc_initS), (List.forall_mem_cons.mpr ⟨(hw _ w_437), (List.forall_mem_cons.mpr ⟨(hw _ w_401), (fun _ h => absurd h List.not_mem_nil)⟩)⟩)⟩)⟩), (List.forall_mem_cons.mpr ⟨(hw _ w_740), (List.forall_mem_cons.mpr ⟨(hw _ tc_nse), (List.forall_mem_cons.mpr ⟨(hw _ w_742), (List.forall_mem_cons.mpr ⟨(hw _ w_428), (List.forall_mem_cons.mpr ⟨((h5.1 _ (List.mem_cons_self)).use rfl), (fun _ h => absurd h List.not_mem_nil)⟩)⟩)⟩)⟩)⟩), (List.forall_mem_cons.mpr ⟨(hw _ w_428), (List.forall_mem_cons.mpr ⟨(hw _ tc_rte), (List.forall_mem_cons.mpr ⟨(hw _ w_430), (List.forall_mem_cons.mpr ⟨(hw _ w_431), (List.forall_mem_cons.mpr ⟨((h5.1 _ (List.mem_cons_of_mem _ List.mem_cons_self)).use rfl), (List.forall_mem_cons.mpr ⟨(hw _ w_431), (List.forall_mem_cons.mpr ⟨(hw _ tc_exc), (List.forall_mem_cons.mpr ⟨(hw _ w_433), (List.forall_mem_cons.mpr ⟨(hw _ w_434), (List.forall_mem_cons.mpr ⟨((h5.1 _ (List.mem_cons_of_mem _ (List.mem_cons_of_mem _ List.mem_cons_self))).use rfl), (fun _ h => absurd h List.not_mem_nil)⟩)⟩)⟩)⟩)⟩)⟩)⟩)⟩)⟩)⟩), (List.forall_mem_cons.mpr ⟨(hw _ w_739), (List.forall_mem_cons.mpr ⟨(hw _ w_730), (List.forall_mem_cons.mpr ⟨((h5.2.1 0).use rfl), (List.forall_mem_cons.mpr ⟨(hw _ w_732), (List.forall_mem_cons.mpr ⟨(hw _ w_416), (List.forall_mem_cons.mpr ⟨(hw _ w_733), (List.forall_mem_cons.mpr ⟨(hw _ w_734), (List.forall_mem_cons.mpr ⟨(hw _ w_735), (List.forall_mem_cons.mpr ⟨(hw _ w_736), (List.forall_mem_cons.mpr ⟨(hw _ w_404), (List.forall_mem_cons.mpr ⟨(hw _ w_403), (List.forall_mem_cons.mpr ⟨(hw _ w_737), (fun _ h => absurd h List.not_mem_nil)⟩)⟩)⟩)⟩)⟩)⟩)⟩)⟩)⟩)⟩)⟩)⟩), vx_isRefq hU.1, vx_isRefq hN.1⟩
set_option maxRecDepth 20000 in
theorem th_ok1 {args : Array Value} {s : State} {A : Nat → Prop} (hw : ∀ w ∈ tb, w.before args s = true) (h5 : se5 s) (hU : vx_Zq Bundle.tN "UNASSIGNED_STACK" Bundle.steD A s s.heap) (hN : vx_Zq Bundle.tN "SUPPRESSED_SENTINEL" Bundle.listD A s s.heap) : thAt "MarkField" 350 (xN 1) "java/lang/RuntimeException" 7 prog_15_method_2_code ["java/lang/Exception"] args s :=
  ⟨(List.forall_mem_cons.mpr ⟨(hw _ w_11), (List.forall_mem_cons.mpr ⟨(hw _ w_405), (List.forall_mem_cons.mpr ⟨(hw _ w_414), (List.forall_mem_cons.mpr ⟨(hw _ tc_fill), (List.forall_mem_cons.mpr ⟨(hw _ w_420), (List.forall_mem_cons.mpr ⟨(hw _ w_422), (List.forall_mem_cons.mpr ⟨(hw _ w_406), (List.forall_mem_cons.mpr ⟨(hw _ tc_init0), (List.forall_mem_cons.mpr ⟨(hw _ w_29), (List.forall_mem_cons.mpr ⟨(hw _ tc_obj), (List.forall_mem_cons.mpr ⟨(hw _ w_408), (List.forall_mem_cons.mpr ⟨(hw _ w_413), (List.forall_mem_cons.mpr ⟨(hw _ w_418), (List.forall_mem_cons.mpr ⟨(hw _ w_438), (List.forall_mem_cons.mpr ⟨(hw _ w_395), (List.forall_mem_cons.mpr ⟨(hw _ w_439), (List.forall_mem_cons.mpr ⟨(hw _ w_397), (List.forall_mem_cons.mpr ⟨(hw _ w_440), (List.forall_mem_cons.mpr ⟨(hw _ w_399), (List.forall_mem_cons.mpr ⟨(hw _ w_409), (List.forall_mem_cons.mpr ⟨hU.2.word, (List.forall_mem_cons.mpr ⟨(hw _ w_411), (List.forall_mem_cons.mpr ⟨hN.2.word, (List.forall_mem_cons.mpr ⟨(hw _ w_401), (fun _ h => absurd h List.not_mem_nil)⟩)⟩)⟩)⟩)⟩)⟩)⟩)⟩)⟩)⟩)⟩)⟩)⟩)⟩)⟩)⟩)⟩)⟩)⟩)⟩)⟩)⟩)⟩)⟩), (List.forall_mem_cons.mpr ⟨(hw _ w_434), (List.forall_mem_cons.mpr ⟨(hw _ tc_initS), (List.forall_mem_cons.mpr ⟨(hw _ w_437), (List.forall_mem_cons.mpr ⟨(hw _ w_401), (fun _ h => absurd h List.not_mem_nil)⟩)⟩)⟩)⟩), (List.forall_mem_cons.mpr ⟨(hw _ w_425), (List.forall_mem_cons.mpr ⟨(hw _ tc_iae), (List.forall_mem_cons.mpr ⟨(hw _ w_427), (List.forall_mem_cons.mpr ⟨(hw _ w_428), (List.forall_mem_cons.mpr ⟨((h5.1 _ (List.mem_cons_self)).use rfl), (fun _ h => absurd h List.not_mem_nil)⟩)⟩)⟩)⟩)⟩), (List.forall_mem_cons.mpr ⟨(hw _ w_428), (List.forall_mem_cons.mpr ⟨(hw _ tc_rte), (List.forall_mem_cons.mpr ⟨(hw _ w_430), (List.forall_mem_cons.mpr ⟨(hw _ w_431), (List.forall_mem_cons.mpr ⟨((h5.1 _ (List.mem_cons_of_mem _ List.mem_cons_self)).use rfl), (List.forall_mem_cons.mpr ⟨(hw _ w_431), (List.forall_mem_cons.mpr ⟨(hw _ tc_exc), (List.forall_mem_cons.mpr ⟨(hw _ w_433), (List.forall_mem_cons.mpr ⟨(hw _ w_434), (List.forall_mem_cons.mpr ⟨((h5.1 _ (List.mem_cons_of_mem _ (List.mem_cons_of_mem _ List.mem_cons_self))).use rfl), (fun _ h => absurd h List.not_mem_nil)⟩)⟩)⟩)⟩)⟩)⟩)⟩)⟩)⟩)⟩), (List.forall_mem_cons.mpr ⟨(hw _ w_424), (List.forall_mem_cons.mpr ⟨(hw _ w_384), (List.forall_mem_cons.mpr ⟨((h5.2.1 1).use rfl), (List.forall_mem_cons.mpr ⟨(hw _ w_392), (List.forall_mem_cons.mpr ⟨(hw _ w_393), (List.forall_mem_cons.mpr ⟨(hw _ w_394), (List.forall_mem_cons.mpr ⟨(hw _ w_396), (List.forall_mem_cons.mpr ⟨(hw _ w_398), (List.forall_mem_cons.mpr ⟨(hw _ w_400), (List.forall_mem_cons.mpr ⟨(hw _ w_404), (List.forall_mem_cons.mpr ⟨(hw _ w_403), (List.forall_mem_cons.mpr ⟨(hw _ w_402), (fun _ h => absurd h List.not_mem_nil)⟩)⟩)⟩)⟩)⟩)⟩)⟩)⟩)⟩)⟩)⟩)⟩), vx_isRefq hU.1, vx_isRefq hN.1⟩
theorem rx0_0 : decode prog_27_method_4_code 0 = .ok (.aload_n 0, 1) := by decide +kernel
theorem rx0_1 : decode prog_27_method_4_code 1 = .ok (.aload_n 1, 1) := by decide +kernel
theorem rx0_2 : decode prog_27_method_4_code 2 = .ok (.invokespecial 13, 3) := by decide +kernel
theorem rx0_5 : decode prog_27_method_4_code 5 = .ok (.return_, 1) := by decide +kernel
theorem rx1_0 : decode prog_15_method_2_code 0 = .ok (.aload_n 0, 1) := by decide +kernel
theorem rx1_1 : decode prog_15_method_2_code 1 = .ok (.aload_n 1, 1) := by decide +kernel
theorem rx1_2 : decode prog_15_method_2_code 2 = .ok (.invokespecial 7, 3) := by decide +kernel
theorem rx1_5 : decode prog_15_method_2_code 5 = .ok (.return_, 1) := by decide +kernel
theorem xN_fit : ∀ i, Bundle.fit (xN i) = true := fun i => match i with
  | 0 => by decide +kernel
  | _ + 1 => (by decide +kernel : Bundle.fit "java/lang/IllegalArgumentException" = true)
def xik : Nat → Nat
  | 0 => 137
  | _ => 346
def xic : Nat → Nat
  | 0 => 141
  | _ => 350
section THR
variable {E : Ev} {X : Cx} {cc : ByteArray} {nL pc : Nat} {lv : List (Nat × Value)} {stk : List Value} {G : GH} {n1 n2 h mc ms : Nat} {px : Nat → GH → Prop}
set_option maxHeartbeats 1000000 in
/-- throw new X(text): wd says whether the text is loaded by ldc_w -/
theorem aw_thr (F : Fx E X "MarkField" cc nL) {ret : Option FieldType} {post : Option Value → GH → Prop} (T : RTX E X h mc ms ret post px) (i : Nat) (hi : i < 2) (w : Nat) (hw : w < nsx) {is : Nat} {tx : String} (hq : sxT[w]? = some ("MarkField", is, tx)) (wd : Bool) (h1 : n1 + 1 ≤ mc) (h2 : n2 + 6 ≤ ms) (h6 : 6 ≤ h) (hrm : (stk.map fun v => v.category).sum ≤ 8) (hp : px i G)
    (d0 : decode cc pc = .ok (.new (xik i), 3)) (d3 : decode cc (pc + 3) = .ok (.dup, 1)) (d4 : decode cc (pc + 4) = .ok (if wd then .ldc_w is else .ldc is, if wd then 3 else 2)) (d6 : decode cc (pc + 4 + (if wd then 3 else 2)) = .ok (.invokespecial (xic i), 3)) (d9 : decode cc (pc + 4 + (if wd then 3 else 2) + 3) = .ok (.athrow, 1)) : AW E X nL pc lv stk G n1 n2 := by
  obtain ⟨p, l, e, R, s, m, args, below, meth, c, Q, sd, P⟩ := X
  obtain ⟨rfl, hr0, hnt, hl0, P0, sd0, g1, g2, rfl⟩ := T
  intro ls H locs ad hag hl hH hS T hT X
  have hexec := F.1
  have hb := F.2.1
  have hown : s.vm.findClass "MarkField" = some m.cls := F.2.2.2.1
  have hlocks : meth.locks = false := F.2.2.2.2.2.2.2.2.1
  have htr : e.platform.stackTraces = false := (show e.platform.stackTraces = l.stackTraces by rw [X.admits.platform]).trans hl0
  have Y := vx_rebase X (R' := { frames := (rmh h mc ms).frames, locals := (rmh h mc ms).locals, cells := 1, slots := 6 }) (Nat.le_refl _) (Nat.le_refl _) h1 h2
  obtain ⟨s', hA⟩ : ∃ z, z = (T.setVm s.vm).setFrames (.invoking m args :: below) := ⟨_, rfl⟩
  rw [← hA] at Y
  have hvm : s'.vm = s.vm := by rw [hA]; rfl
  have hhp : s'.heap = H := by rw [hA]; exact hT
  have hW0 : s.WarmedH s'.vm := by rw [hvm]; exact State.WarmedH.refl s
  have hE' : SE E s' := F.2.2.2.2.2.2.1.moved hW0 (fun a q1 q2 => by rw [hhp]; exact hS.2.1 a q1 q2)
  have hts' : ∀ w ∈ tb, w.before args s' = true := fun w hw => word_at hW0 (tb_good hw) (F.2.2.2.2.1 w hw)
  have hown' : s'.vm.findClass "MarkField" = some m.cls := by rw [hvm]; exact hown
  have core : ∀ (rx : ByteArray) (ix : Nat), decode rx 0 = .ok (.aload_n 0, 1) → decode rx 1 = .ok (.aload_n 1, 1) → decode rx 2 = .ok (.invokespecial ix, 3) → decode rx 5 = .ok (.return_, 1) → thAt "MarkField" (xic i) (xN i) "java/lang/RuntimeException" ix rx ["java/lang/Exception"] args s' → Cond.classLink "MarkField" (xik i) (xN i) ∈ tb → Cond.initialized (xN i) ∈ tb →
      ∃ t, Steps p.tables e below (T.setTop (F0 m pc ls stk)) t ∧ vx_MQ below (qQ E P0 sd0 post) (XQ E P0 sd0 px) args s mc ms (rg E) t := by
    intro rx ix x0 x1 x2 x5 hth hck hci
    have hins : (Cond.instantiable (xN i) 6).before args s' = true := hth.2.2.2.2.1 _ (List.mem_cons_of_mem _ List.mem_cons_self)
    obtain ⟨vm₁, cX, kX, hfX, hkX, -, -, X₁, st1⟩ := Y.newCold hexec (own := "MarkField") (C := xN i) (index := xik i) (n := 6) hown' (hts' _ hck) hins (hts' _ hci)
      (g := F0 m pc ls stk) rfl (by rw [hb]; exact d0) (Nat.le_refl _) (Nat.le_refl _)
    generalize hT1 : (T.setVm vm₁).pushCell { cls := cX, slots := kX.instanceTypes.map defaultValue, vm := .none } = T1 at X₁ st1
    have hcat : (Value.ref T.heap.size).category = 1 := rfl
    have hcellA : T1.heap[T.heap.size]? = some (freshCell cX kX) := by rw [← hT1]; exact State.heap_pushCell_size _ _
    have d3' : decode c.code (pc + 3) = .ok (.dup, 1) := by rw [hb]; exact d3
    have hstr' : vk_R "MarkField" is tx (E.2.2.2.1 w) s' := (hE'.2.2.1 w hw).1 _ hq
    obtain ⟨U, hsteps, hrun, hend, hW, hsame, ce, hce, hcl0, hcv⟩ := thr_ctor X₁ hexec htr (own := "MarkField") (cls := xN i) (Y := "java/lang/RuntimeException") (r := ["java/lang/Exception"]) (ic := xic i) x0 x1 x2 x5 hown' (xN_fit i) (by decide +kernel) (by decide +kernel) hth (fun x hx => nomatch hx) hfX hkX hcellA (by rw [hhp, hT]; exact Nat.le_refl _) (msg := .ref (E.2.2.2.1 w)) rfl
      (g := { method := m, pc := pc + 4 + (if wd then 3 else 2), locals := ls, stack := .ref (E.2.2.2.1 w) :: .ref T.heap.size :: .ref T.heap.size :: stk, locked := none }) rfl (by rw [F.2.2.1]; exact hl.1) rfl rfl (rest := stk) rfl
      (by rw [hb]; exact d6) (by rw [hb]; exact d9) (fun x hx => (hnt x hx).elim) (by show 1 + 4 < h; omega) (by simp only [List.map_cons, List.sum_cons, hcat]; show 2 * 0 + (1 + _) + (13 * (1 + 2) + 42) ≤ 64 * h; omega) hlocks
    obtain ⟨f1, f2⟩ := vx_frame hsame
    rw [hhp] at f1 f2
    have hWs : s.WarmedH U.vm := State.WarmedH.trans hW0 hW
    have hcl : s.vm.findClass (xN i) = some ce.cls := by rw [hvm] at hcl0; exact hcl0
    have hall : s.sameButNew ({ U with vm := s.vm } : State) locs mc ms := by
      subst hA
      obtain ⟨e1, e2⟩ := hsame
      rw [State.setFrames_setFrames] at e1
      have h2' : (T.setVm s.vm).sameButNew ({ U with vm := s.vm } : State) [] (0 + 1) (0 + 6) := ⟨e1, e2⟩
      have h3 := X.same.trans h2'
      rw [List.append_nil] at h3
      exact h3.mono h1 h2
    have hkeep : ∀ q : Nat, q < H.size → U.heap[q]? = H[q]? := fun q hq => f2 q hq (fun z hz => nomatch hz)
    have hHU : Hd E ad G U.heap := by
      obtain ⟨⟨L, f, k1, k2, k3⟩, k4⟩ := hH
      exact ⟨⟨L, f, k1, k2.kept (fun k q hk => hkeep q.1 (k2 k q hk).lt), k3⟩, k4⟩
    refine ⟨U, ?_, .threw T.heap.size, hrun, hend, Or.inr ⟨T.heap.size, rfl, xN i, ce, locs, ⟨i, G, hi, rfl, hp, ⟨ad, agr hag g1 g2, hHU⟩, ⟨Nat.le_trans hS.1 f1, fun q q1 q2 => by rw [hkeep q (Nat.lt_of_lt_of_le q1 hS.1)]; exact hS.2.1 q q1 q2⟩⟩, hce, hcv, hcl, hWs, hall, hS.2.2⟩⟩
    refine st1 _ ?_
    show Steps p.tables e below (T1.setTop { method := m, pc := pc + 3, locals := ls, stack := .ref T.heap.size :: stk, locked := none }) _
    jvm_step X₁.here [X₁.here.top, hexec, d3', Value.category]
    cases wd with
    | true => exact X₁.ldcStringW hexec (own := "MarkField") (text := tx) (index := is) (a := E.2.2.2.1 w) hown' hstr'.1 hstr'.2 (g := { method := m, pc := pc + 3 + 1, locals := ls, stack := .ref T.heap.size :: .ref T.heap.size :: stk, locked := none }) rfl (by rw [hb]; exact d4) _ hsteps
    | false => exact X₁.ldcString hexec (own := "MarkField") (text := tx) (index := is) (a := E.2.2.2.1 w) hown' hstr'.1 hstr'.2 (g := { method := m, pc := pc + 3 + 1, locals := ls, stack := .ref T.heap.size :: .ref T.heap.size :: stk, locked := none }) rfl (by rw [hb]; exact d4) _ hsteps
  have h5 : se5 s' := hE'.2.2.2.2.2.2.2
  match i, hi with
  | 0, _ => exact core _ _ rx0_0 rx0_1 rx0_2 rx0_5 (th_ok0 hts' h5 hE'.2.2.2.1 hE'.2.2.2.2.1) w_729 w_22
  | 1, _ => exact core _ _ rx1_0 rx1_1 rx1_2 rx1_5 (th_ok1 hts' h5 hE'.2.2.2.1 hE'.2.2.2.2.1) w_383 w_14
end THR
