theorem v_36 : (Jvm.Cond.methodLink "MarkField$Tape" (3 : Nat) ({ cls := "java/lang/Object", name := "<init>", desc := "()V" } : Jvm.MethodName)) ∈ tb := tb_of (List.mem_of_getElem? (i := 36) (by decide +kernel)) rfl
theorem v_37 : (Jvm.Cond.fieldLink "MarkField$Tape" (9 : Nat) "MarkField$Tape" "bytes" "[B") ∈ tb := tb_of (List.mem_of_getElem? (i := 37) (by decide +kernel)) rfl
theorem v_40 : (Jvm.Cond.fieldLink "MarkField$Tape" (15 : Nat) "MarkField$Tape" "size" "I") ∈ tb := tb_of (List.mem_of_getElem? (i := 40) (by decide +kernel)) rfl
theorem v_42 : (Jvm.Cond.fieldLink "MarkField$Tape" (19 : Nat) "MarkField$Tape" "kind" "I") ∈ tb := tb_of (List.mem_of_getElem? (i := 42) (by decide +kernel)) rfl
theorem v_45 : (Jvm.Cond.fieldLink "MarkField$Tape" (22 : Nat) "MarkField$Tape" "start" "I") ∈ tb := tb_of (List.mem_of_getElem? (i := 45) (by decide +kernel)) rfl
theorem v_48 : (Jvm.Cond.fieldLink "MarkField$Tape" (25 : Nat) "MarkField$Tape" "value" "I") ∈ tb := tb_of (List.mem_of_getElem? (i := 48) (by decide +kernel)) rfl
theorem v_51 : (Jvm.Cond.fieldLink "MarkField$Tape" (28 : Nat) "MarkField$Tape" "behind" "I") ∈ tb := tb_of (List.mem_of_getElem? (i := 51) (by decide +kernel)) rfl
theorem v_52 : (Jvm.Cond.fieldLink "MarkField$Tape" (31 : Nat) "MarkField$Tape" "textEnd" "I") ∈ tb := tb_of (List.mem_of_getElem? (i := 52) (by decide +kernel)) rfl
theorem v_150 : (Jvm.Cond.methodLink "MarkField$Acts" (3 : Nat) ({ cls := "java/lang/Object", name := "<init>", desc := "()V" } : Jvm.MethodName)) ∈ tb := tb_of (List.mem_of_getElem? (i := 150) (by decide +kernel)) rfl
theorem v_169 : (Jvm.Cond.methodLink "MarkField$Likeness" (3 : Nat) ({ cls := "java/lang/Object", name := "<init>", desc := "()V" } : Jvm.MethodName)) ∈ tb := tb_of (List.mem_of_getElem? (i := 169) (by decide +kernel)) rfl
theorem v_170 : (Jvm.Cond.fieldLink "MarkField$Likeness" (9 : Nat) "MarkField$Likeness" "sounds" "[B") ∈ tb := tb_of (List.mem_of_getElem? (i := 170) (by decide +kernel)) rfl
theorem v_172 : (Jvm.Cond.fieldLink "MarkField$Likeness" (15 : Nat) "MarkField$Likeness" "soundCounts" "[I") ∈ tb := tb_of (List.mem_of_getElem? (i := 172) (by decide +kernel)) rfl
theorem v_175 : (Jvm.Cond.fieldLink "MarkField$Likeness" (19 : Nat) "MarkField$Likeness" "byLetters" "[I") ∈ tb := tb_of (List.mem_of_getElem? (i := 175) (by decide +kernel)) rfl
theorem v_177 : (Jvm.Cond.fieldLink "MarkField$Likeness" (22 : Nat) "MarkField$Likeness" "bySounds" "[I") ∈ tb := tb_of (List.mem_of_getElem? (i := 177) (by decide +kernel)) rfl
theorem v_179 : (Jvm.Cond.fieldLink "MarkField$Likeness" (25 : Nat) "MarkField$Likeness" "apart" "[I") ∈ tb := tb_of (List.mem_of_getElem? (i := 179) (by decide +kernel)) rfl
theorem v_181 : (Jvm.Cond.fieldLink "MarkField$Likeness" (28 : Nat) "MarkField$Likeness" "fields" "[I") ∈ tb := tb_of (List.mem_of_getElem? (i := 181) (by decide +kernel)) rfl
theorem v_182 : (Jvm.Cond.fieldLink "MarkField$Likeness" (31 : Nat) "MarkField$Likeness" "alike" "[I") ∈ tb := tb_of (List.mem_of_getElem? (i := 182) (by decide +kernel)) rfl
theorem v_185 : (Jvm.Cond.fieldLink "MarkField$Likeness" (34 : Nat) "MarkField$Likeness" "costs" "[I") ∈ tb := tb_of (List.mem_of_getElem? (i := 185) (by decide +kernel)) rfl
theorem v_208 : (Jvm.Cond.methodLink "MarkField$Standing" (3 : Nat) ({ cls := "java/lang/Object", name := "<init>", desc := "()V" } : Jvm.MethodName)) ∈ tb := tb_of (List.mem_of_getElem? (i := 208) (by decide +kernel)) rfl
theorem v_209 : (Jvm.Cond.fieldLink "MarkField$Standing" (9 : Nat) "MarkField$Standing" "order" "[I") ∈ tb := tb_of (List.mem_of_getElem? (i := 209) (by decide +kernel)) rfl
theorem v_210 : (Jvm.Cond.fieldLink "MarkField$Standing" (15 : Nat) "MarkField$Standing" "ranks" "[I") ∈ tb := tb_of (List.mem_of_getElem? (i := 210) (by decide +kernel)) rfl
theorem v_212 : (Jvm.Cond.fieldLink "MarkField$Standing" (18 : Nat) "MarkField$Standing" "refusedFor" "[I") ∈ tb := tb_of (List.mem_of_getElem? (i := 212) (by decide +kernel)) rfl
theorem v_214 : (Jvm.Cond.fieldLink "MarkField$Standing" (21 : Nat) "MarkField$Standing" "entitled" "[I") ∈ tb := tb_of (List.mem_of_getElem? (i := 214) (by decide +kernel)) rfl
theorem v_216 : (Jvm.Cond.fieldLink "MarkField$Standing" (24 : Nat) "MarkField$Standing" "held" "[I") ∈ tb := tb_of (List.mem_of_getElem? (i := 216) (by decide +kernel)) rfl
theorem v_219 : (Jvm.Cond.fieldLink "MarkField$Standing" (27 : Nat) "MarkField$Standing" "leastRefusedFor" "[I") ∈ tb := tb_of (List.mem_of_getElem? (i := 219) (by decide +kernel)) rfl
theorem v_221 : (Jvm.Cond.fieldLink "MarkField$Standing" (30 : Nat) "MarkField$Standing" "priorities" "[I") ∈ tb := tb_of (List.mem_of_getElem? (i := 221) (by decide +kernel)) rfl
theorem v_222 : (Jvm.Cond.fieldLink "MarkField$Standing" (33 : Nat) "MarkField$Standing" "holding" "I") ∈ tb := tb_of (List.mem_of_getElem? (i := 222) (by decide +kernel)) rfl
theorem v_246 : (Jvm.Cond.methodLink "MarkField$Reader" (3 : Nat) ({ cls := "java/lang/Object", name := "<init>", desc := "()V" } : Jvm.MethodName)) ∈ tb := tb_of (List.mem_of_getElem? (i := 246) (by decide +kernel)) rfl
theorem v_247 : (Jvm.Cond.fieldLink "MarkField$Reader" (21 : Nat) "MarkField$Reader" "tape" "LMarkField$Tape;") ∈ tb := tb_of (List.mem_of_getElem? (i := 247) (by decide +kernel)) rfl
theorem v_248 : (Jvm.Cond.fieldLink "MarkField$Reader" (25 : Nat) "MarkField$Reader" "into" "LMarkField$Register;") ∈ tb := tb_of (List.mem_of_getElem? (i := 248) (by decide +kernel)) rfl
theorem v_249 : (Jvm.Cond.fieldLink "MarkField$Reader" (9 : Nat) "MarkField$Reader" "taken" "I") ∈ tb := tb_of (List.mem_of_getElem? (i := 249) (by decide +kernel)) rfl
theorem v_250 : (Jvm.Cond.fieldLink "MarkField$Reader" (15 : Nat) "MarkField$Reader" "fault" "I") ∈ tb := tb_of (List.mem_of_getElem? (i := 250) (by decide +kernel)) rfl
theorem v_251 : (Jvm.Cond.fieldLink "MarkField$Reader" (18 : Nat) "MarkField$Reader" "place" "I") ∈ tb := tb_of (List.mem_of_getElem? (i := 251) (by decide +kernel)) rfl
theorem v_269 : (Jvm.Cond.methodLink "MarkField$Question" (3 : Nat) ({ cls := "java/lang/Object", name := "<init>", desc := "()V" } : Jvm.MethodName)) ∈ tb := tb_of (List.mem_of_getElem? (i := 269) (by decide +kernel)) rfl
theorem v_270 : (Jvm.Cond.fieldLink "MarkField$Question" (21 : Nat) "MarkField$Question" "tape" "LMarkField$Tape;") ∈ tb := tb_of (List.mem_of_getElem? (i := 270) (by decide +kernel)) rfl
theorem v_271 : (Jvm.Cond.fieldLink "MarkField$Question" (25 : Nat) "MarkField$Question" "register" "LMarkField$Register;") ∈ tb := tb_of (List.mem_of_getElem? (i := 271) (by decide +kernel)) rfl
theorem v_272 : (Jvm.Cond.fieldLink "MarkField$Question" (29 : Nat) "MarkField$Question" "likeness" "LMarkField$Likeness;") ∈ tb := tb_of (List.mem_of_getElem? (i := 272) (by decide +kernel)) rfl
theorem v_273 : (Jvm.Cond.fieldLink "MarkField$Question" (33 : Nat) "MarkField$Question" "standing" "LMarkField$Standing;") ∈ tb := tb_of (List.mem_of_getElem? (i := 273) (by decide +kernel)) rfl
theorem v_274 : (Jvm.Cond.fieldLink "MarkField$Question" (9 : Nat) "MarkField$Question" "fault" "I") ∈ tb := tb_of (List.mem_of_getElem? (i := 274) (by decide +kernel)) rfl
theorem v_275 : (Jvm.Cond.fieldLink "MarkField$Question" (15 : Nat) "MarkField$Question" "place" "I") ∈ tb := tb_of (List.mem_of_getElem? (i := 275) (by decide +kernel)) rfl
theorem v_277 : (Jvm.Cond.fieldLink "MarkField$Question" (18 : Nat) "MarkField$Question" "answer" "I") ∈ tb := tb_of (List.mem_of_getElem? (i := 277) (by decide +kernel)) rfl
/-! ===== constructors that make a row of registers: the row's kind is known besides ===== -/
def sX (X : Cx) : State := X.2.2.2.2.1
def qPA (E : Ev) (w0 wx : va_W) (av : List Value) : Array Value → State → Prop := fun a U => qPL E w0 wx av a U ∧ va_AO RX4 U
def CtA (l : Launch) (y : MethodName) (cc : ByteArray) (mL h mc ms : Nat) (E : Ev) (w0 wx : va_W) (av : List Value) (post : va_W → Prop) : Prop := Met l y (.code y cc mL none :: tb) (rmh h mc ms) (qPA E w0 wx av) (qQL E w0 post) mc ms (rg E)
theorem qPA_blind {E : Ev} {w0 wx : va_W} {av : List Value} : FrameBlind (qPA E w0 wx av) := by
  intro a U g mk q
  exact ⟨qPL_blind a U g mk q.1, va_AO.moved (u := U) (U := U.calling g mk a) (Vm.Alike.refl U.vm) q.2⟩
theorem cta_of {l : Launch} {y : MethodName} {own : String} {cc : ByteArray} {mL h mc ms : Nat} {E : Ev} {w0 wx : va_W} {av : List Value} {post : va_W → Prop}
    (hy : plainName y.cls = true) (hown : y.cls = own) (hyn : y.name = "<init>") (hlen : (lg_sl av).length ≤ mL)
    (body : ∀ X : Cx, Fx E X own cc mL → RTL E X h mc ms w0 post → l = lX X → va_AO RX4 (sX X) → LW E X mL 0 (lv_args 0 av) [] w0 wx 0 0) : CtA l y cc mL h mc ms E w0 wx av post := by
  subst hown
  refine Met.ofW (cc := cc) (maxL := mL) (ret := none) hy rfl ?_
  intro p e s m args below meth c s₁ B hml hv
  obtain ⟨⟨rfl, hsz, ⟨hP, hD⟩, hK, hSE⟩, hao⟩ := hv
  have hts := atoms_spec (ws := .code y cc mL none :: tb) B.pre
  have hown : s.vm.findClass y.cls = some m.cls := findClass_of_methodNamed B.named
  have hin : meth.name = "<init>" := (name_of_methodNamed B.named B.method).1.trans hyn
  have b := body (p, l, e, rmh h mc ms, s, m, av.toArray, below, meth, c, MQ below (qQL E w0 post) av.toArray s mc ms (rg E), fun _ _ => 0, fun _ => True) ⟨B.exec, B.bytes, hml, hown, fun w hw => hts w (List.mem_cons_of_mem _ hw), hK, hSE, hsz, B.notSynchronized, fun _ _ => trivial⟩ ⟨rfl, B.returns, hin, rfl⟩ rfl hao
  have hl := lv_entry av (n := mL) hlen
  rw [lg_entry_eq]
  exact b _ s.heap [] hl hP hD va_S.rf
section
variable {E : Ev} {X : Cx} {own : String} {cc : ByteArray} {nL pc : Nat} {lv : List (Nat × Value)} {stk : List Value} {w0 wx : va_W} {n1 n2 h mc ms : Nat}
theorem lw_naA (F : Fx E X own cc nL) (hR : RX X = rmh h mc ms) {n : Int32} {N index : Nat} (hw : Cond.classLink own index "MarkField$Register" ∈ tb) (hao : va_AO RX4 (sX X)) (hn : ¬ n < 0) (hN : n.toNatClampNeg = N) (hb9 : N ≤ 100000) (h1 : n1 + 1 ≤ mc) (h2 : n2 + N ≤ ms) (d : decode cc pc = .ok (.anewarray index, 3)) (kk : ∀ q : Nat, LW E X nL (pc + 3) lv (.ref q :: stk) w0 (wx ++ [(q, .inl (E.2.1 3, N, .inr (.inr (.inr (.inr (fun _ => none))))))]) (n1 + 1) (n2 + N)) : LW E X nL pc lv (.int n :: stk) w0 wx n1 n2 := by
  obtain ⟨p, l, e, R, s, m, args, below, meth, c2, Q, sd, P⟩ := X
  have hR : R = rmh h mc ms := hR
  subst hR
  intro ls H locs hl hP hD hS
  have hK := F.2.2.2.2.2.1
  refine va_newq F.1 F.2.1 F.2.2.2.1 (F.2.2.2.2.1 _ hw) hao hK hP hD hS (fun q hq => Nat.le_trans F.2.2.2.2.2.2.2.1 hq) hn hN (by omega) h1 h2 d (fun q cA H1 k1 k2 k3 k4 => ?_)
  have e : cA = E.2.1 3 := cls_one (k1.2 4 _ rfl).2 (hK.2 3 _ rfl).2
  subst e
  rw [List.append_assoc] at k2 k3
  exact kk q ls H1 locs hl k2 k3 k4
theorem lw_cA (F : Fx E X own cc nL) (hR : RX X = rmh h mc ms) (hao : va_AO RX4 (sX X)) {y : MethodName} {bytes : ByteArray} {maxL n index h2 mc2 ms2 b : Nat} {wr wc : va_W} {post : va_W → Prop} (As : List Value) (hM : CtA (lX X) y bytes maxL h2 mc2 ms2 E (w0 ++ wr) wc (.ref b :: As) post)
    (mv : Cond.code y bytes maxL none ∈ tb ∧ Cond.initialized y.cls ∈ tb ∧ y.cls ≠ "java/lang/invoke/MethodHandle" ∧ y.cls ≠ "java/lang/invoke/VarHandle" ∧ (parseMethodDescriptor y.desc).map (fun d => d.parameters.length) = some n) (hyn : y.name = "<init>") (hw1 : Cond.instanceMethod y ∈ tb) (hw : Cond.methodLink own index y ∈ tb ∨ (own, index, y) ∈ nsM)
    (hwx : wr ++ wc = wx) (hn : As.length = n) {st0 : List Value} (hst : st0 = As.reverse ++ .ref b :: stk) (hrm : (stk.map fun v => v.category).sum ≤ 8) (hfr : h2 + 1 ≤ h ∧ 8 + (maxL + 11) + 64 * h2 ≤ 64 * h) (hce : n1 + mc2 ≤ mc ∧ n2 + ms2 ≤ ms) (d : decode cc pc = .ok (.invokespecial index, 3))
    (kk : ∀ wd : va_W, post wd → LW E X nL (pc + 3) lv stk w0 (wr ++ wd) (n1 + mc2) (n2 + ms2)) : LW E X nL pc lv st0 w0 wx n1 n2 := by
  subst hwx
  obtain ⟨p, l, e, R, s, m, args, below, meth, c2, Q, sd, P⟩ := X
  have hR : R = rmh h mc ms := hR
  subst hR
  intro ls H locs hl hP hD hS
  rw [← List.append_assoc] at hP hD
  have hts := F.2.2.2.2.1
  have hpre : ∀ U : State, U.heap = H → s.WarmedH U.vm → qPA E (w0 ++ wr) wc (.ref b :: As) (Value.ref b :: As).toArray U := by
    intro U hU hW
    refine ⟨⟨rfl, ?_, ⟨by rw [hU]; exact hP, hD⟩, va_K.moved hW.alike F.2.2.2.2.2.1, F.2.2.2.2.2.2.1.moved hW (fun a h1 h2 => by rw [hU]; exact hS.2.1 a h1 h2)⟩, va_AO.moved hW.alike hao⟩
    rw [hU]
    exact Nat.le_trans F.2.2.2.2.2.2.2.1 hS.1
  have hr : va_Run p l e (rmh h mc ms) s m args below meth c2 H locs n1 n2 mc2 ms2 (F0 m pc ls st0) stk (qQL E (w0 ++ wr) post (Value.ref b :: As).toArray) (rg E) := by
    rcases hw with hw | hw
    · exact va_runI (As := As) (b := b) (rest := stk) (Ts := tb) ⟨F.1, F.2.1, F.2.2.1, F.2.2.2.1, hts⟩ hM ⟨callB_of n hts (tb_in0 mv.1) rfl rfl rfl (hts _ mv.2.1) (hts _ hw) ⟨mv.2.2.1, mv.2.2.2.1, mv.2.2.2.2⟩ hfr, hyn, hts _ hw1⟩ ⟨qPA_blind, hpre⟩ rfl hn hl.1 hst (lv_room (m := m) (pc := pc) (ls := ls) (rest := st0) hrm) d ⟨hce.1, hce.2⟩
    · exact va_runIN (As := As) (b := b) (rest := stk) (Ts := tb) ⟨F.1, F.2.1, F.2.2.1, F.2.2.2.1, hts⟩ hM ⟨va_cnB n hts (tb_in0 mv.1) rfl rfl rfl (F.2.2.2.2.2.2.1.2.1.2 _ hw) (hts _ mv.2.1) ⟨mv.2.2.1, mv.2.2.2.1, mv.2.2.2.2⟩ hfr, hyn, hts _ hw1⟩ ⟨qPA_blind, hpre⟩ rfl hn hl.1 hst (lv_room (m := m) (pc := pc) (ls := ls) (rest := st0) hrm) d ⟨hce.1, hce.2⟩
  intro T hT X
  obtain ⟨v, st₀, t, T', L, h0, X', hL, e1, e2, ⟨⟨wd, hv, hp, hP1, hD1⟩, hz, hk⟩, st⟩ := hr T hT X
  cases hv
  rw [h0] at hz hk
  rw [List.append_assoc] at hP1 hD1
  obtain ⟨t2, a1, b1⟩ := kk wd hp ls T'.heap (locs ++ L) hl (by rw [e1]; exact hP1) hD1
    ⟨Nat.le_trans hS.1 (by rw [e1]; exact hz), fun q h1 h2 => by rw [e1, hk q (Nat.lt_of_lt_of_le h1 hS.1) h2]; exact hS.2.1 q h1 h2, fun q hq => by
      rcases List.mem_append.mp hq with h | h
      · exact hS.2.2 q h
      · exact hL q h⟩ T' rfl X'
  exact ⟨t2, st t2 a1, b1⟩
end
/-! ===== constructors ===== -/
def tpW (E : Ev) (A : Nat → Nat) : va_W := [(A 0, .inr (6, [.ref (A 1), .int 0, .int 0, .int 0, .int 0, .int 0, .int 0])), (A 1, .inl (E.2.1 1, 700, .inl (fun _ => 0)))]
def fs6 : List Value := [.null, .int 0, .int 0, .int 0, .int 0, .int 0, .int 0]
set_option maxRecDepth 100000 in
set_option maxHeartbeats 4000000 in
theorem k_X6_init {l : Launch} {E : Ev} {w0 : va_W} {a : Nat} : CtL l yX6_init cX6_init 1 1 1 700 E w0 [(a, .inr (6, fs6))] [.ref a] (fun wx => ∃ A : Nat → Nat, A 0 = a ∧ wx = tpW E A) := by
  refine ctl_of (own := "MarkField$Tape") (by decide) rfl rfl (Nat.le_of_ble_eq_true rfl) (fun X F T el => ?_)
  subst el
  change LW E X 1 0 [(0, .ref a)] [] w0 [(a, .inr (6, [.null, .int 0, .int 0, .int 0, .int 0, .int 0, .int 0]))] 0 0
  refine lw_al_n F 0 dX6_init_0 rfl rfl ?_
  refine lw_ini F T.room v_36 v_29 v_30 (by decide) (Nat.le_of_ble_eq_true rfl) dX6_init_1 ?_
  refine lw_al_n F 0 dX6_init_4 rfl rfl ?_
  refine lw_si F dX6_init_5 (v := (700 : Int32)) (by decide) ?_
  refine lw_naB (N := 700) F T.room v_68 (by decide) (by decide) (by decide) (Nat.le_of_ble_eq_true rfl) (Nat.le_of_ble_eq_true rfl) dX6_init_8 (fun q1 => ?_)
  refine lw_pF F T.ini 0 0 (fs := [.null, .int 0, .int 0, .int 0, .int 0, .int 0, .int 0]) cf6 rfl (by decide) v_37 rfl rfl rfl rfl (Nat.le_of_ble_eq_true rfl) (wy := [(a, .inr (6, [.ref q1, .int 0, .int 0, .int 0, .int 0, .int 0, .int 0])), (q1, .inl (E.2.1 1, 700, .inl (fun _ => 0)))]) rfl dX6_init_10 ?_
  refine lw_al_n F 0 dX6_init_13 rfl rfl ?_
  refine lw_ic F dX6_init_14 (v := (0 : Int32)) (by decide) ?_
  refine lw_p F 0 1 (fs := [.ref q1, .int 0, .int 0, .int 0, .int 0, .int 0, .int 0]) cf6 rfl (by decide) v_40 rfl rfl rfl (Nat.le_of_ble_eq_true rfl) (wy := [(a, .inr (6, [.ref q1, .int 0, .int 0, .int 0, .int 0, .int 0, .int 0])), (q1, .inl (E.2.1 1, 700, .inl (fun _ => 0)))]) rfl dX6_init_15 ?_
  refine lw_al_n F 0 dX6_init_18 rfl rfl ?_
  refine lw_ic F dX6_init_19 (v := (0 : Int32)) (by decide) ?_
  refine lw_p F 0 2 (fs := [.ref q1, .int 0, .int 0, .int 0, .int 0, .int 0, .int 0]) cf6 rfl (by decide) v_42 rfl rfl rfl (Nat.le_of_ble_eq_true rfl) (wy := [(a, .inr (6, [.ref q1, .int 0, .int 0, .int 0, .int 0, .int 0, .int 0])), (q1, .inl (E.2.1 1, 700, .inl (fun _ => 0)))]) rfl dX6_init_20 ?_
  refine lw_al_n F 0 dX6_init_23 rfl rfl ?_
  refine lw_ic F dX6_init_24 (v := (0 : Int32)) (by decide) ?_
  refine lw_p F 0 3 (fs := [.ref q1, .int 0, .int 0, .int 0, .int 0, .int 0, .int 0]) cf6 rfl (by decide) v_45 rfl rfl rfl (Nat.le_of_ble_eq_true rfl) (wy := [(a, .inr (6, [.ref q1, .int 0, .int 0, .int 0, .int 0, .int 0, .int 0])), (q1, .inl (E.2.1 1, 700, .inl (fun _ => 0)))]) rfl dX6_init_25 ?_
  refine lw_al_n F 0 dX6_init_28 rfl rfl ?_
  refine lw_ic F dX6_init_29 (v := (0 : Int32)) (by decide) ?_
  refine lw_p F 0 4 (fs := [.ref q1, .int 0, .int 0, .int 0, .int 0, .int 0, .int 0]) cf6 rfl (by decide) v_48 rfl rfl rfl (Nat.le_of_ble_eq_true rfl) (wy := [(a, .inr (6, [.ref q1, .int 0, .int 0, .int 0, .int 0, .int 0, .int 0])), (q1, .inl (E.2.1 1, 700, .inl (fun _ => 0)))]) rfl dX6_init_30 ?_
  refine lw_al_n F 0 dX6_init_33 rfl rfl ?_
  refine lw_ic F dX6_init_34 (v := (0 : Int32)) (by decide) ?_
  refine lw_p F 0 5 (fs := [.ref q1, .int 0, .int 0, .int 0, .int 0, .int 0, .int 0]) cf6 rfl (by decide) v_51 rfl rfl rfl (Nat.le_of_ble_eq_true rfl) (wy := [(a, .inr (6, [.ref q1, .int 0, .int 0, .int 0, .int 0, .int 0, .int 0])), (q1, .inl (E.2.1 1, 700, .inl (fun _ => 0)))]) rfl dX6_init_35 ?_
  refine lw_al_n F 0 dX6_init_38 rfl rfl ?_
  refine lw_ic F dX6_init_39 (v := (0 : Int32)) (by decide) ?_
  refine lw_p F 0 6 (fs := [.ref q1, .int 0, .int 0, .int 0, .int 0, .int 0, .int 0]) cf6 rfl (by decide) v_52 rfl rfl rfl (Nat.le_of_ble_eq_true rfl) (wy := [(a, .inr (6, [.ref q1, .int 0, .int 0, .int 0, .int 0, .int 0, .int 0])), (q1, .inl (E.2.1 1, 700, .inl (fun _ => 0)))]) rfl dX6_init_40 ?_
  exact lw_vret F T (Nat.le_of_ble_eq_true rfl) (Nat.le_of_ble_eq_true rfl) ⟨fun k => if k = 1 then q1 else a, rfl, rfl⟩ dX6_init_43
theorem fs6_ok : ∀ j, j < 7 → defaultValue (tyX6 j) = vp_V fs6 j := by
  intro j hj
  have j0 : j = 0 ∨ j = 1 ∨ j = 2 ∨ j = 3 ∨ j = 4 ∨ j = 5 ∨ j = 6 := by omega
  rcases j0 with rfl | rfl | rfl | rfl | rfl | rfl | rfl <;> rfl
def acW (E : Ev) (A : Nat → Nat) : va_W := [(A 0, .inr (0, [.ref (A 1), .int 0, .int 0])), (A 1, .inl (E.2.1 3, 12, .inr (.inr (.inr (.inr (fun _ => none))))))]
def fs0 : List Value := [.null, .int 0, .int 0]
set_option maxRecDepth 100000 in
set_option maxHeartbeats 4000000 in
theorem k_X0_init {l : Launch} {E : Ev} {w0 : va_W} {a : Nat} : CtA l yX0_init cX0_init 1 1 1 12 E w0 [(a, .inr (0, fs0))] [.ref a] (fun wx => ∃ A : Nat → Nat, A 0 = a ∧ wx = acW E A) := by
  refine cta_of (own := "MarkField$Acts") (by decide) rfl rfl (Nat.le_of_ble_eq_true rfl) (fun X F T el hao => ?_)
  subst el
  change LW E X 1 0 [(0, .ref a)] [] w0 [(a, .inr (0, [.null, .int 0, .int 0]))] 0 0
  refine lw_al_n F 0 dX0_init_0 rfl rfl ?_
  refine lw_ini F T.room v_150 v_29 v_30 (by decide) (Nat.le_of_ble_eq_true rfl) dX0_init_1 ?_
  refine lw_al_n F 0 dX0_init_4 rfl rfl ?_
  refine lw_bi F dX0_init_5 (v := (12 : Int32)) (by decide) ?_
  refine lw_naA (N := 12) F T.room v_151 hao (by decide) (by decide) (by decide) (Nat.le_of_ble_eq_true rfl) (Nat.le_of_ble_eq_true rfl) dX0_init_7 (fun q1 => ?_)
  refine lw_pF F T.ini 0 0 (fs := [.null, .int 0, .int 0]) cf0 rfl (by decide) v_153 rfl rfl rfl rfl (Nat.le_of_ble_eq_true rfl) (wy := [(a, .inr (0, [.ref q1, .int 0, .int 0])), (q1, .inl (E.2.1 3, 12, .inr (.inr (.inr (.inr (fun _ => none))))))]) rfl dX0_init_10 ?_
  refine lw_al_n F 0 dX0_init_13 rfl rfl ?_
  refine lw_ic F dX0_init_14 (v := (0 : Int32)) (by decide) ?_
  refine lw_p F 0 1 (fs := [.ref q1, .int 0, .int 0]) cf0 rfl (by decide) v_154 rfl rfl rfl (Nat.le_of_ble_eq_true rfl) (wy := [(a, .inr (0, [.ref q1, .int 0, .int 0])), (q1, .inl (E.2.1 3, 12, .inr (.inr (.inr (.inr (fun _ => none))))))]) rfl dX0_init_15 ?_
  refine lw_al_n F 0 dX0_init_18 rfl rfl ?_
  refine lw_ic F dX0_init_19 (v := (0 : Int32)) (by decide) ?_
  refine lw_p F 0 2 (fs := [.ref q1, .int 0, .int 0]) cf0 rfl (by decide) v_155 rfl rfl rfl (Nat.le_of_ble_eq_true rfl) (wy := [(a, .inr (0, [.ref q1, .int 0, .int 0])), (q1, .inl (E.2.1 3, 12, .inr (.inr (.inr (.inr (fun _ => none))))))]) rfl dX0_init_20 ?_
  exact lw_vret F T (Nat.le_of_ble_eq_true rfl) (Nat.le_of_ble_eq_true rfl) ⟨fun k => if k = 1 then q1 else a, rfl, rfl⟩ dX0_init_23
theorem fs0_ok : ∀ j, j < 3 → defaultValue (tyX0 j) = vp_V fs0 j := by
  intro j hj
  have j0 : j = 0 ∨ j = 1 ∨ j = 2 := by omega
  rcases j0 with rfl | rfl | rfl <;> rfl
def lkW (E : Ev) (A : Nat → Nat) : va_W := [(A 0, .inr (1, [.ref (A 1), .ref (A 2), .ref (A 3), .ref (A 4), .ref (A 5), .ref (A 6), .ref (A 7), .ref (A 8)])), (A 1, .inl (E.2.1 1, 260, .inl (fun _ => 0))), (A 2, .inl (E.2.1 0, 13, .inl (fun _ => 0))), (A 3, .inl (E.2.1 0, 169, .inl (fun _ => 0))), (A 4, .inl (E.2.1 0, 169, .inl (fun _ => 0))), (A 5, .inl (E.2.1 0, 169, .inl (fun _ => 0))), (A 6, .inl (E.2.1 0, 13, .inl (fun _ => 0))), (A 7, .inl (E.2.1 0, 13, .inl (fun _ => 0))), (A 8, .inl (E.2.1 0, 21, .inl (fun _ => 0)))]
def fs1 : List Value := [.null, .null, .null, .null, .null, .null, .null, .null]
set_option maxRecDepth 100000 in
set_option maxHeartbeats 4000000 in
theorem k_X1_init {l : Launch} {E : Ev} {w0 : va_W} {a : Nat} : CtL l yX1_init cX1_init 1 1 8 827 E w0 [(a, .inr (1, fs1))] [.ref a] (fun wx => ∃ A : Nat → Nat, A 0 = a ∧ wx = lkW E A) := by
  refine ctl_of (own := "MarkField$Likeness") (by decide) rfl rfl (Nat.le_of_ble_eq_true rfl) (fun X F T el => ?_)
  subst el
  change LW E X 1 0 [(0, .ref a)] [] w0 [(a, .inr (1, [.null, .null, .null, .null, .null, .null, .null, .null]))] 0 0
  refine lw_al_n F 0 dX1_init_0 rfl rfl ?_
  refine lw_ini F T.room v_169 v_29 v_30 (by decide) (Nat.le_of_ble_eq_true rfl) dX1_init_1 ?_
  refine lw_al_n F 0 dX1_init_4 rfl rfl ?_
  refine lw_si F dX1_init_5 (v := (260 : Int32)) (by decide) ?_
  refine lw_naB (N := 260) F T.room v_68 (by decide) (by decide) (by decide) (Nat.le_of_ble_eq_true rfl) (Nat.le_of_ble_eq_true rfl) dX1_init_8 (fun q1 => ?_)
  refine lw_pF F T.ini 0 0 (fs := [.null, .null, .null, .null, .null, .null, .null, .null]) cf1 rfl (by decide) v_170 rfl rfl rfl rfl (Nat.le_of_ble_eq_true rfl) (wy := [(a, .inr (1, [.ref q1, .null, .null, .null, .null, .null, .null, .null])), (q1, .inl (E.2.1 1, 260, .inl (fun _ => 0)))]) rfl dX1_init_10 ?_
  refine lw_al_n F 0 dX1_init_13 rfl rfl ?_
  refine lw_bi F dX1_init_14 (v := (13 : Int32)) (by decide) ?_
  refine lw_naI (N := 13) F T.room v_144 (by decide) (by decide) (by decide) (Nat.le_of_ble_eq_true rfl) (Nat.le_of_ble_eq_true rfl) dX1_init_16 (fun q2 => ?_)
  refine lw_pF F T.ini 0 1 (fs := [.ref q1, .null, .null, .null, .null, .null, .null, .null]) cf1 rfl (by decide) v_172 rfl rfl rfl rfl (Nat.le_of_ble_eq_true rfl) (wy := [(a, .inr (1, [.ref q1, .ref q2, .null, .null, .null, .null, .null, .null])), (q1, .inl (E.2.1 1, 260, .inl (fun _ => 0))), (q2, .inl (E.2.1 0, 13, .inl (fun _ => 0)))]) rfl dX1_init_18 ?_
  refine lw_al_n F 0 dX1_init_21 rfl rfl ?_
  refine lw_si F dX1_init_22 (v := (169 : Int32)) (by decide) ?_
  refine lw_naI (N := 169) F T.room v_144 (by decide) (by decide) (by decide) (Nat.le_of_ble_eq_true rfl) (Nat.le_of_ble_eq_true rfl) dX1_init_25 (fun q3 => ?_)
  refine lw_pF F T.ini 0 2 (fs := [.ref q1, .ref q2, .null, .null, .null, .null, .null, .null]) cf1 rfl (by decide) v_175 rfl rfl rfl rfl (Nat.le_of_ble_eq_true rfl) (wy := [(a, .inr (1, [.ref q1, .ref q2, .ref q3, .null, .null, .null, .null, .null])), (q1, .inl (E.2.1 1, 260, .inl (fun _ => 0))), (q2, .inl (E.2.1 0, 13, .inl (fun _ => 0))), (q3, .inl (E.2.1 0, 169, .inl (fun _ => 0)))]) rfl dX1_init_27 ?_
  refine lw_al_n F 0 dX1_init_30 rfl rfl ?_
  refine lw_si F dX1_init_31 (v := (169 : Int32)) (by decide) ?_
  refine lw_naI (N := 169) F T.room v_144 (by decide) (by decide) (by decide) (Nat.le_of_ble_eq_true rfl) (Nat.le_of_ble_eq_true rfl) dX1_init_34 (fun q4 => ?_)
  refine lw_pF F T.ini 0 3 (fs := [.ref q1, .ref q2, .ref q3, .null, .null, .null, .null, .null]) cf1 rfl (by decide) v_177 rfl rfl rfl rfl (Nat.le_of_ble_eq_true rfl) (wy := [(a, .inr (1, [.ref q1, .ref q2, .ref q3, .ref q4, .null, .null, .null, .null])), (q1, .inl (E.2.1 1, 260, .inl (fun _ => 0))), (q2, .inl (E.2.1 0, 13, .inl (fun _ => 0))), (q3, .inl (E.2.1 0, 169, .inl (fun _ => 0))), (q4, .inl (E.2.1 0, 169, .inl (fun _ => 0)))]) rfl dX1_init_36 ?_
  refine lw_al_n F 0 dX1_init_39 rfl rfl ?_
  refine lw_si F dX1_init_40 (v := (169 : Int32)) (by decide) ?_
  refine lw_naI (N := 169) F T.room v_144 (by decide) (by decide) (by decide) (Nat.le_of_ble_eq_true rfl) (Nat.le_of_ble_eq_true rfl) dX1_init_43 (fun q5 => ?_)
  refine lw_pF F T.ini 0 4 (fs := [.ref q1, .ref q2, .ref q3, .ref q4, .null, .null, .null, .null]) cf1 rfl (by decide) v_179 rfl rfl rfl rfl (Nat.le_of_ble_eq_true rfl) (wy := [(a, .inr (1, [.ref q1, .ref q2, .ref q3, .ref q4, .ref q5, .null, .null, .null])), (q1, .inl (E.2.1 1, 260, .inl (fun _ => 0))), (q2, .inl (E.2.1 0, 13, .inl (fun _ => 0))), (q3, .inl (E.2.1 0, 169, .inl (fun _ => 0))), (q4, .inl (E.2.1 0, 169, .inl (fun _ => 0))), (q5, .inl (E.2.1 0, 169, .inl (fun _ => 0)))]) rfl dX1_init_45 ?_
  refine lw_al_n F 0 dX1_init_48 rfl rfl ?_
  refine lw_bi F dX1_init_49 (v := (13 : Int32)) (by decide) ?_
  refine lw_naI (N := 13) F T.room v_144 (by decide) (by decide) (by decide) (Nat.le_of_ble_eq_true rfl) (Nat.le_of_ble_eq_true rfl) dX1_init_51 (fun q6 => ?_)
  refine lw_pF F T.ini 0 5 (fs := [.ref q1, .ref q2, .ref q3, .ref q4, .ref q5, .null, .null, .null]) cf1 rfl (by decide) v_181 rfl rfl rfl rfl (Nat.le_of_ble_eq_true rfl) (wy := [(a, .inr (1, [.ref q1, .ref q2, .ref q3, .ref q4, .ref q5, .ref q6, .null, .null])), (q1, .inl (E.2.1 1, 260, .inl (fun _ => 0))), (q2, .inl (E.2.1 0, 13, .inl (fun _ => 0))), (q3, .inl (E.2.1 0, 169, .inl (fun _ => 0))), (q4, .inl (E.2.1 0, 169, .inl (fun _ => 0))), (q5, .inl (E.2.1 0, 169, .inl (fun _ => 0))), (q6, .inl (E.2.1 0, 13, .inl (fun _ => 0)))]) rfl dX1_init_53 ?_
  refine lw_al_n F 0 dX1_init_56 rfl rfl ?_
  refine lw_bi F dX1_init_57 (v := (13 : Int32)) (by decide) ?_
  refine lw_naI (N := 13) F T.room v_144 (by decide) (by decide) (by decide) (Nat.le_of_ble_eq_true rfl) (Nat.le_of_ble_eq_true rfl) dX1_init_59 (fun q7 => ?_)
  refine lw_pF F T.ini 0 6 (fs := [.ref q1, .ref q2, .ref q3, .ref q4, .ref q5, .ref q6, .null, .null]) cf1 rfl (by decide) v_182 rfl rfl rfl rfl (Nat.le_of_ble_eq_true rfl) (wy := [(a, .inr (1, [.ref q1, .ref q2, .ref q3, .ref q4, .ref q5, .ref q6, .ref q7, .null])), (q1, .inl (E.2.1 1, 260, .inl (fun _ => 0))), (q2, .inl (E.2.1 0, 13, .inl (fun _ => 0))), (q3, .inl (E.2.1 0, 169, .inl (fun _ => 0))), (q4, .inl (E.2.1 0, 169, .inl (fun _ => 0))), (q5, .inl (E.2.1 0, 169, .inl (fun _ => 0))), (q6, .inl (E.2.1 0, 13, .inl (fun _ => 0))), (q7, .inl (E.2.1 0, 13, .inl (fun _ => 0)))]) rfl dX1_init_61 ?_
  refine lw_al_n F 0 dX1_init_64 rfl rfl ?_
  refine lw_bi F dX1_init_65 (v := (21 : Int32)) (by decide) ?_
  refine lw_naI (N := 21) F T.room v_144 (by decide) (by decide) (by decide) (Nat.le_of_ble_eq_true rfl) (Nat.le_of_ble_eq_true rfl) dX1_init_67 (fun q8 => ?_)
  refine lw_pF F T.ini 0 7 (fs := [.ref q1, .ref q2, .ref q3, .ref q4, .ref q5, .ref q6, .ref q7, .null]) cf1 rfl (by decide) v_185 rfl rfl rfl rfl (Nat.le_of_ble_eq_true rfl) (wy := [(a, .inr (1, [.ref q1, .ref q2, .ref q3, .ref q4, .ref q5, .ref q6, .ref q7, .ref q8])), (q1, .inl (E.2.1 1, 260, .inl (fun _ => 0))), (q2, .inl (E.2.1 0, 13, .inl (fun _ => 0))), (q3, .inl (E.2.1 0, 169, .inl (fun _ => 0))), (q4, .inl (E.2.1 0, 169, .inl (fun _ => 0))), (q5, .inl (E.2.1 0, 169, .inl (fun _ => 0))), (q6, .inl (E.2.1 0, 13, .inl (fun _ => 0))), (q7, .inl (E.2.1 0, 13, .inl (fun _ => 0))), (q8, .inl (E.2.1 0, 21, .inl (fun _ => 0)))]) rfl dX1_init_69 ?_
  exact lw_vret F T (Nat.le_of_ble_eq_true rfl) (Nat.le_of_ble_eq_true rfl) ⟨fun k => if k = 1 then q1 else if k = 2 then q2 else if k = 3 then q3 else if k = 4 then q4 else if k = 5 then q5 else if k = 6 then q6 else if k = 7 then q7 else if k = 8 then q8 else a, rfl, rfl⟩ dX1_init_72
theorem fs1_ok : ∀ j, j < 8 → defaultValue (tyX1 j) = vp_V fs1 j := by
  intro j hj
  have j0 : j = 0 ∨ j = 1 ∨ j = 2 ∨ j = 3 ∨ j = 4 ∨ j = 5 ∨ j = 6 ∨ j = 7 := by omega
  rcases j0 with rfl | rfl | rfl | rfl | rfl | rfl | rfl | rfl <;> rfl
def sdW (E : Ev) (A : Nat → Nat) : va_W := [(A 0, .inr (5, [.ref (A 1), .ref (A 2), .ref (A 3), .ref (A 4), .ref (A 5), .ref (A 6), .ref (A 7), .int 0])), (A 1, .inl (E.2.1 0, 156, .inl (fun _ => 0))), (A 2, .inl (E.2.1 0, 12, .inl (fun _ => 0))), (A 3, .inl (E.2.1 0, 13, .inl (fun _ => 0))), (A 4, .inl (E.2.1 0, 13, .inl (fun _ => 0))), (A 5, .inl (E.2.1 0, 13, .inl (fun _ => 0))), (A 6, .inl (E.2.1 0, 13, .inl (fun _ => 0))), (A 7, .inl (E.2.1 0, 13, .inl (fun _ => 0)))]
def fs5 : List Value := [.null, .null, .null, .null, .null, .null, .null, .int 0]
set_option maxRecDepth 100000 in
set_option maxHeartbeats 4000000 in
theorem k_X5_init {l : Launch} {E : Ev} {w0 : va_W} {a : Nat} : CtL l yX5_init cX5_init 1 1 7 233 E w0 [(a, .inr (5, fs5))] [.ref a] (fun wx => ∃ A : Nat → Nat, A 0 = a ∧ wx = sdW E A) := by
  refine ctl_of (own := "MarkField$Standing") (by decide) rfl rfl (Nat.le_of_ble_eq_true rfl) (fun X F T el => ?_)
  subst el
  change LW E X 1 0 [(0, .ref a)] [] w0 [(a, .inr (5, [.null, .null, .null, .null, .null, .null, .null, .int 0]))] 0 0
  refine lw_al_n F 0 dX5_init_0 rfl rfl ?_
  refine lw_ini F T.room v_208 v_29 v_30 (by decide) (Nat.le_of_ble_eq_true rfl) dX5_init_1 ?_
  refine lw_al_n F 0 dX5_init_4 rfl rfl ?_
  refine lw_si F dX5_init_5 (v := (156 : Int32)) (by decide) ?_
  refine lw_naI (N := 156) F T.room v_144 (by decide) (by decide) (by decide) (Nat.le_of_ble_eq_true rfl) (Nat.le_of_ble_eq_true rfl) dX5_init_8 (fun q1 => ?_)
  refine lw_pF F T.ini 0 0 (fs := [.null, .null, .null, .null, .null, .null, .null, .int 0]) cf5 rfl (by decide) v_209 rfl rfl rfl rfl (Nat.le_of_ble_eq_true rfl) (wy := [(a, .inr (5, [.ref q1, .null, .null, .null, .null, .null, .null, .int 0])), (q1, .inl (E.2.1 0, 156, .inl (fun _ => 0)))]) rfl dX5_init_10 ?_
  refine lw_al_n F 0 dX5_init_13 rfl rfl ?_
  refine lw_bi F dX5_init_14 (v := (12 : Int32)) (by decide) ?_
  refine lw_naI (N := 12) F T.room v_144 (by decide) (by decide) (by decide) (Nat.le_of_ble_eq_true rfl) (Nat.le_of_ble_eq_true rfl) dX5_init_16 (fun q2 => ?_)
  refine lw_pF F T.ini 0 1 (fs := [.ref q1, .null, .null, .null, .null, .null, .null, .int 0]) cf5 rfl (by decide) v_210 rfl rfl rfl rfl (Nat.le_of_ble_eq_true rfl) (wy := [(a, .inr (5, [.ref q1, .ref q2, .null, .null, .null, .null, .null, .int 0])), (q1, .inl (E.2.1 0, 156, .inl (fun _ => 0))), (q2, .inl (E.2.1 0, 12, .inl (fun _ => 0)))]) rfl dX5_init_18 ?_
  refine lw_al_n F 0 dX5_init_21 rfl rfl ?_
  refine lw_bi F dX5_init_22 (v := (13 : Int32)) (by decide) ?_
  refine lw_naI (N := 13) F T.room v_144 (by decide) (by decide) (by decide) (Nat.le_of_ble_eq_true rfl) (Nat.le_of_ble_eq_true rfl) dX5_init_24 (fun q3 => ?_)
  refine lw_pF F T.ini 0 2 (fs := [.ref q1, .ref q2, .null, .null, .null, .null, .null, .int 0]) cf5 rfl (by decide) v_212 rfl rfl rfl rfl (Nat.le_of_ble_eq_true rfl) (wy := [(a, .inr (5, [.ref q1, .ref q2, .ref q3, .null, .null, .null, .null, .int 0])), (q1, .inl (E.2.1 0, 156, .inl (fun _ => 0))), (q2, .inl (E.2.1 0, 12, .inl (fun _ => 0))), (q3, .inl (E.2.1 0, 13, .inl (fun _ => 0)))]) rfl dX5_init_26 ?_
  refine lw_al_n F 0 dX5_init_29 rfl rfl ?_
  refine lw_bi F dX5_init_30 (v := (13 : Int32)) (by decide) ?_
  refine lw_naI (N := 13) F T.room v_144 (by decide) (by decide) (by decide) (Nat.le_of_ble_eq_true rfl) (Nat.le_of_ble_eq_true rfl) dX5_init_32 (fun q4 => ?_)
  refine lw_pF F T.ini 0 3 (fs := [.ref q1, .ref q2, .ref q3, .null, .null, .null, .null, .int 0]) cf5 rfl (by decide) v_214 rfl rfl rfl rfl (Nat.le_of_ble_eq_true rfl) (wy := [(a, .inr (5, [.ref q1, .ref q2, .ref q3, .ref q4, .null, .null, .null, .int 0])), (q1, .inl (E.2.1 0, 156, .inl (fun _ => 0))), (q2, .inl (E.2.1 0, 12, .inl (fun _ => 0))), (q3, .inl (E.2.1 0, 13, .inl (fun _ => 0))), (q4, .inl (E.2.1 0, 13, .inl (fun _ => 0)))]) rfl dX5_init_34 ?_
  refine lw_al_n F 0 dX5_init_37 rfl rfl ?_
  refine lw_bi F dX5_init_38 (v := (13 : Int32)) (by decide) ?_
  refine lw_naI (N := 13) F T.room v_144 (by decide) (by decide) (by decide) (Nat.le_of_ble_eq_true rfl) (Nat.le_of_ble_eq_true rfl) dX5_init_40 (fun q5 => ?_)
  refine lw_pF F T.ini 0 4 (fs := [.ref q1, .ref q2, .ref q3, .ref q4, .null, .null, .null, .int 0]) cf5 rfl (by decide) v_216 rfl rfl rfl rfl (Nat.le_of_ble_eq_true rfl) (wy := [(a, .inr (5, [.ref q1, .ref q2, .ref q3, .ref q4, .ref q5, .null, .null, .int 0])), (q1, .inl (E.2.1 0, 156, .inl (fun _ => 0))), (q2, .inl (E.2.1 0, 12, .inl (fun _ => 0))), (q3, .inl (E.2.1 0, 13, .inl (fun _ => 0))), (q4, .inl (E.2.1 0, 13, .inl (fun _ => 0))), (q5, .inl (E.2.1 0, 13, .inl (fun _ => 0)))]) rfl dX5_init_42 ?_
  refine lw_al_n F 0 dX5_init_45 rfl rfl ?_
  refine lw_bi F dX5_init_46 (v := (13 : Int32)) (by decide) ?_
  refine lw_naI (N := 13) F T.room v_144 (by decide) (by decide) (by decide) (Nat.le_of_ble_eq_true rfl) (Nat.le_of_ble_eq_true rfl) dX5_init_48 (fun q6 => ?_)
  refine lw_pF F T.ini 0 5 (fs := [.ref q1, .ref q2, .ref q3, .ref q4, .ref q5, .null, .null, .int 0]) cf5 rfl (by decide) v_219 rfl rfl rfl rfl (Nat.le_of_ble_eq_true rfl) (wy := [(a, .inr (5, [.ref q1, .ref q2, .ref q3, .ref q4, .ref q5, .ref q6, .null, .int 0])), (q1, .inl (E.2.1 0, 156, .inl (fun _ => 0))), (q2, .inl (E.2.1 0, 12, .inl (fun _ => 0))), (q3, .inl (E.2.1 0, 13, .inl (fun _ => 0))), (q4, .inl (E.2.1 0, 13, .inl (fun _ => 0))), (q5, .inl (E.2.1 0, 13, .inl (fun _ => 0))), (q6, .inl (E.2.1 0, 13, .inl (fun _ => 0)))]) rfl dX5_init_50 ?_
  refine lw_al_n F 0 dX5_init_53 rfl rfl ?_
  refine lw_bi F dX5_init_54 (v := (13 : Int32)) (by decide) ?_
  refine lw_naI (N := 13) F T.room v_144 (by decide) (by decide) (by decide) (Nat.le_of_ble_eq_true rfl) (Nat.le_of_ble_eq_true rfl) dX5_init_56 (fun q7 => ?_)
  refine lw_pF F T.ini 0 6 (fs := [.ref q1, .ref q2, .ref q3, .ref q4, .ref q5, .ref q6, .null, .int 0]) cf5 rfl (by decide) v_221 rfl rfl rfl rfl (Nat.le_of_ble_eq_true rfl) (wy := [(a, .inr (5, [.ref q1, .ref q2, .ref q3, .ref q4, .ref q5, .ref q6, .ref q7, .int 0])), (q1, .inl (E.2.1 0, 156, .inl (fun _ => 0))), (q2, .inl (E.2.1 0, 12, .inl (fun _ => 0))), (q3, .inl (E.2.1 0, 13, .inl (fun _ => 0))), (q4, .inl (E.2.1 0, 13, .inl (fun _ => 0))), (q5, .inl (E.2.1 0, 13, .inl (fun _ => 0))), (q6, .inl (E.2.1 0, 13, .inl (fun _ => 0))), (q7, .inl (E.2.1 0, 13, .inl (fun _ => 0)))]) rfl dX5_init_58 ?_
  refine lw_al_n F 0 dX5_init_61 rfl rfl ?_
  refine lw_ic F dX5_init_62 (v := (0 : Int32)) (by decide) ?_
  refine lw_p F 0 7 (fs := [.ref q1, .ref q2, .ref q3, .ref q4, .ref q5, .ref q6, .ref q7, .int 0]) cf5 rfl (by decide) v_222 rfl rfl rfl (Nat.le_of_ble_eq_true rfl) (wy := [(a, .inr (5, [.ref q1, .ref q2, .ref q3, .ref q4, .ref q5, .ref q6, .ref q7, .int 0])), (q1, .inl (E.2.1 0, 156, .inl (fun _ => 0))), (q2, .inl (E.2.1 0, 12, .inl (fun _ => 0))), (q3, .inl (E.2.1 0, 13, .inl (fun _ => 0))), (q4, .inl (E.2.1 0, 13, .inl (fun _ => 0))), (q5, .inl (E.2.1 0, 13, .inl (fun _ => 0))), (q6, .inl (E.2.1 0, 13, .inl (fun _ => 0))), (q7, .inl (E.2.1 0, 13, .inl (fun _ => 0)))]) rfl dX5_init_63 ?_
  exact lw_vret F T (Nat.le_of_ble_eq_true rfl) (Nat.le_of_ble_eq_true rfl) ⟨fun k => if k = 1 then q1 else if k = 2 then q2 else if k = 3 then q3 else if k = 4 then q4 else if k = 5 then q5 else if k = 6 then q6 else if k = 7 then q7 else a, rfl, rfl⟩ dX5_init_66
theorem fs5_ok : ∀ j, j < 8 → defaultValue (tyX5 j) = vp_V fs5 j := by
  intro j hj
  have j0 : j = 0 ∨ j = 1 ∨ j = 2 ∨ j = 3 ∨ j = 4 ∨ j = 5 ∨ j = 6 ∨ j = 7 := by omega
  rcases j0 with rfl | rfl | rfl | rfl | rfl | rfl | rfl | rfl <;> rfl
def rdW (E : Ev) (A : Nat → Nat) (p1 : Nat) (p2 : Nat) : va_W := [(A 0, .inr (3, [.ref p1, .ref p2, .int 0, .int 0, .int (-1)]))]
def fs3 : List Value := [.null, .null, .int 0, .int 0, .int 0]
set_option maxRecDepth 100000 in
set_option maxHeartbeats 4000000 in
theorem k_X3_init {l : Launch} {E : Ev} {w0 : va_W} {a p1 p2 : Nat} : CtL l yX3_init cX3_init 3 1 0 0 E w0 [(a, .inr (3, fs3))] [.ref a, .ref p1, .ref p2] (fun wx => ∃ A : Nat → Nat, A 0 = a ∧ wx = rdW E A p1 p2) := by
  refine ctl_of (own := "MarkField$Reader") (by decide) rfl rfl (Nat.le_of_ble_eq_true rfl) (fun X F T el => ?_)
  subst el
  change LW E X 3 0 [(0, .ref a), (1, .ref p1), (2, .ref p2)] [] w0 [(a, .inr (3, [.null, .null, .int 0, .int 0, .int 0]))] 0 0
  refine lw_al_n F 0 dX3_init_0 rfl rfl ?_
  refine lw_ini F T.room v_246 v_29 v_30 (by decide) (Nat.le_of_ble_eq_true rfl) dX3_init_1 ?_
  refine lw_al_n F 0 dX3_init_4 rfl rfl ?_
  refine lw_ic F dX3_init_5 (v := (0 : Int32)) (by decide) ?_
  refine lw_p F 0 2 (fs := [.null, .null, .int 0, .int 0, .int 0]) cf3 rfl (by decide) v_249 rfl rfl rfl (Nat.le_of_ble_eq_true rfl) (wy := [(a, .inr (3, [.null, .null, .int 0, .int 0, .int 0]))]) rfl dX3_init_6 ?_
  refine lw_al_n F 0 dX3_init_9 rfl rfl ?_
  refine lw_ic F dX3_init_10 (v := (0 : Int32)) (by decide) ?_
  refine lw_p F 0 3 (fs := [.null, .null, .int 0, .int 0, .int 0]) cf3 rfl (by decide) v_250 rfl rfl rfl (Nat.le_of_ble_eq_true rfl) (wy := [(a, .inr (3, [.null, .null, .int 0, .int 0, .int 0]))]) rfl dX3_init_11 ?_
  refine lw_al_n F 0 dX3_init_14 rfl rfl ?_
  refine lw_ic F dX3_init_15 (v := (-1 : Int32)) (by decide) ?_
  refine lw_p F 0 4 (fs := [.null, .null, .int 0, .int 0, .int 0]) cf3 rfl (by decide) v_251 rfl rfl rfl (Nat.le_of_ble_eq_true rfl) (wy := [(a, .inr (3, [.null, .null, .int 0, .int 0, .int (-1)]))]) rfl dX3_init_16 ?_
  refine lw_al_n F 0 dX3_init_19 rfl rfl ?_
  refine lw_al_n F 1 dX3_init_20 rfl rfl ?_
  refine lw_pF F T.ini 0 0 (fs := [.null, .null, .int 0, .int 0, .int (-1)]) cf3 rfl (by decide) v_247 rfl rfl rfl rfl (Nat.le_of_ble_eq_true rfl) (wy := [(a, .inr (3, [.ref p1, .null, .int 0, .int 0, .int (-1)]))]) rfl dX3_init_21 ?_
  refine lw_al_n F 0 dX3_init_24 rfl rfl ?_
  refine lw_al_n F 2 dX3_init_25 rfl rfl ?_
  refine lw_pF F T.ini 0 1 (fs := [.ref p1, .null, .int 0, .int 0, .int (-1)]) cf3 rfl (by decide) v_248 rfl rfl rfl rfl (Nat.le_of_ble_eq_true rfl) (wy := [(a, .inr (3, [.ref p1, .ref p2, .int 0, .int 0, .int (-1)]))]) rfl dX3_init_26 ?_
  exact lw_vret F T (Nat.le_of_ble_eq_true rfl) (Nat.le_of_ble_eq_true rfl) ⟨fun k => a, rfl, rfl⟩ dX3_init_29
theorem fs3_ok : ∀ j, j < 5 → defaultValue (tyX3 j) = vp_V fs3 j := by
  intro j hj
  have j0 : j = 0 ∨ j = 1 ∨ j = 2 ∨ j = 3 ∨ j = 4 := by omega
  rcases j0 with rfl | rfl | rfl | rfl | rfl <;> rfl
def quW (E : Ev) (A : Nat → Nat) (p1 : Nat) (p2 : Nat) (p3 : Nat) (p4 : Nat) : va_W := [(A 0, .inr (2, [.ref p1, .ref p2, .ref p3, .ref p4, .int 0, .int (-1), .int 0]))]
def fs2 : List Value := [.null, .null, .null, .null, .int 0, .int 0, .int 0]
set_option maxRecDepth 100000 in
set_option maxHeartbeats 4000000 in
theorem k_X2_init {l : Launch} {E : Ev} {w0 : va_W} {a p1 p2 p3 p4 : Nat} : CtL l yX2_init cX2_init 5 1 0 0 E w0 [(a, .inr (2, fs2))] [.ref a, .ref p1, .ref p2, .ref p3, .ref p4] (fun wx => ∃ A : Nat → Nat, A 0 = a ∧ wx = quW E A p1 p2 p3 p4) := by
  refine ctl_of (own := "MarkField$Question") (by decide) rfl rfl (Nat.le_of_ble_eq_true rfl) (fun X F T el => ?_)
  subst el
  change LW E X 5 0 [(0, .ref a), (1, .ref p1), (2, .ref p2), (3, .ref p3), (4, .ref p4)] [] w0 [(a, .inr (2, [.null, .null, .null, .null, .int 0, .int 0, .int 0]))] 0 0
  refine lw_al_n F 0 dX2_init_0 rfl rfl ?_
  refine lw_ini F T.room v_269 v_29 v_30 (by decide) (Nat.le_of_ble_eq_true rfl) dX2_init_1 ?_
  refine lw_al_n F 0 dX2_init_4 rfl rfl ?_
  refine lw_ic F dX2_init_5 (v := (0 : Int32)) (by decide) ?_
  refine lw_p F 0 4 (fs := [.null, .null, .null, .null, .int 0, .int 0, .int 0]) cf2 rfl (by decide) v_274 rfl rfl rfl (Nat.le_of_ble_eq_true rfl) (wy := [(a, .inr (2, [.null, .null, .null, .null, .int 0, .int 0, .int 0]))]) rfl dX2_init_6 ?_
  refine lw_al_n F 0 dX2_init_9 rfl rfl ?_
  refine lw_ic F dX2_init_10 (v := (-1 : Int32)) (by decide) ?_
  refine lw_p F 0 5 (fs := [.null, .null, .null, .null, .int 0, .int 0, .int 0]) cf2 rfl (by decide) v_275 rfl rfl rfl (Nat.le_of_ble_eq_true rfl) (wy := [(a, .inr (2, [.null, .null, .null, .null, .int 0, .int (-1), .int 0]))]) rfl dX2_init_11 ?_
  refine lw_al_n F 0 dX2_init_14 rfl rfl ?_
  refine lw_ic F dX2_init_15 (v := (0 : Int32)) (by decide) ?_
  refine lw_p F 0 6 (fs := [.null, .null, .null, .null, .int 0, .int (-1), .int 0]) cf2 rfl (by decide) v_277 rfl rfl rfl (Nat.le_of_ble_eq_true rfl) (wy := [(a, .inr (2, [.null, .null, .null, .null, .int 0, .int (-1), .int 0]))]) rfl dX2_init_16 ?_
  refine lw_al_n F 0 dX2_init_19 rfl rfl ?_
  refine lw_al_n F 1 dX2_init_20 rfl rfl ?_
  refine lw_pF F T.ini 0 0 (fs := [.null, .null, .null, .null, .int 0, .int (-1), .int 0]) cf2 rfl (by decide) v_270 rfl rfl rfl rfl (Nat.le_of_ble_eq_true rfl) (wy := [(a, .inr (2, [.ref p1, .null, .null, .null, .int 0, .int (-1), .int 0]))]) rfl dX2_init_21 ?_
  refine lw_al_n F 0 dX2_init_24 rfl rfl ?_
  refine lw_al_n F 2 dX2_init_25 rfl rfl ?_
  refine lw_pF F T.ini 0 1 (fs := [.ref p1, .null, .null, .null, .int 0, .int (-1), .int 0]) cf2 rfl (by decide) v_271 rfl rfl rfl rfl (Nat.le_of_ble_eq_true rfl) (wy := [(a, .inr (2, [.ref p1, .ref p2, .null, .null, .int 0, .int (-1), .int 0]))]) rfl dX2_init_26 ?_
  refine lw_al_n F 0 dX2_init_29 rfl rfl ?_
  refine lw_al_n F 3 dX2_init_30 rfl rfl ?_
  refine lw_pF F T.ini 0 2 (fs := [.ref p1, .ref p2, .null, .null, .int 0, .int (-1), .int 0]) cf2 rfl (by decide) v_272 rfl rfl rfl rfl (Nat.le_of_ble_eq_true rfl) (wy := [(a, .inr (2, [.ref p1, .ref p2, .ref p3, .null, .int 0, .int (-1), .int 0]))]) rfl dX2_init_31 ?_
  refine lw_al_n F 0 dX2_init_34 rfl rfl ?_
  refine lw_al F 4 dX2_init_35 rfl ?_
  refine lw_pF F T.ini 0 3 (fs := [.ref p1, .ref p2, .ref p3, .null, .int 0, .int (-1), .int 0]) cf2 rfl (by decide) v_273 rfl rfl rfl rfl (Nat.le_of_ble_eq_true rfl) (wy := [(a, .inr (2, [.ref p1, .ref p2, .ref p3, .ref p4, .int 0, .int (-1), .int 0]))]) rfl dX2_init_37 ?_
  exact lw_vret F T (Nat.le_of_ble_eq_true rfl) (Nat.le_of_ble_eq_true rfl) ⟨fun k => a, rfl, rfl⟩ dX2_init_40
theorem fs2_ok : ∀ j, j < 7 → defaultValue (tyX2 j) = vp_V fs2 j := by
  intro j hj
  have j0 : j = 0 ∨ j = 1 ∨ j = 2 ∨ j = 3 ∨ j = 4 ∨ j = 5 ∨ j = 6 := by omega
  rcases j0 with rfl | rfl | rfl | rfl | rfl | rfl | rfl <;> rfl
