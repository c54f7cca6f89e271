theorem v_23 : (Jvm.Cond.classLink "MarkFieldLaw" (8 : Nat) "MarkField") ∈ tb := tb_of (List.mem_of_getElem? (i := 23) (by decide +kernel)) rfl
theorem v_24 : (Jvm.Cond.instantiable "MarkField" (13 : Nat)) ∈ tb := tb_of (List.mem_of_getElem? (i := 24) (by decide +kernel)) rfl
theorem v_25 : (Jvm.Cond.methodLink "MarkFieldLaw" (94 : Nat) ({ cls := "MarkField", name := "<init>", desc := "()V" } : Jvm.MethodName)) ∈ tb := tb_of (List.mem_of_getElem? (i := 25) (by decide +kernel)) rfl
theorem v_26 : (Jvm.Cond.instanceMethod ({ cls := "MarkField", name := "<init>", desc := "()V" } : Jvm.MethodName)) ∈ tb := tb_of (List.mem_of_getElem? (i := 26) (by decide +kernel)) rfl
theorem v_27 : (Jvm.Cond.code ({ cls := "MarkField", name := "<init>", desc := "()V" } : Jvm.MethodName) prog_1_method_1_code (1 : Nat) (Option.none : Option Jvm.ClassFile.FieldType)) ∈ tb := tb_of (List.mem_of_getElem? (i := 27) (by decide +kernel)) rfl
theorem v_1151 : (Jvm.Cond.classLink "MarkFieldLaw" (95 : Nat) "MarkFieldModel") ∈ tb := tb_of (List.mem_of_getElem? (i := 1151) (by decide +kernel)) rfl
theorem v_1152 : (Jvm.Cond.instantiable "MarkFieldModel" (44 : Nat)) ∈ tb := tb_of (List.mem_of_getElem? (i := 1152) (by decide +kernel)) rfl
theorem v_1153 : (Jvm.Cond.methodLink "MarkFieldLaw" (97 : Nat) ({ cls := "MarkFieldModel", name := "<init>", desc := "()V" } : Jvm.MethodName)) ∈ tb := tb_of (List.mem_of_getElem? (i := 1153) (by decide +kernel)) rfl
theorem v_1154 : (Jvm.Cond.instanceMethod ({ cls := "MarkFieldModel", name := "<init>", desc := "()V" } : Jvm.MethodName)) ∈ tb := tb_of (List.mem_of_getElem? (i := 1154) (by decide +kernel)) rfl
theorem v_1155 : (Jvm.Cond.code ({ cls := "MarkFieldModel", name := "<init>", desc := "()V" } : Jvm.MethodName) prog_10_method_1_code (1 : Nat) (Option.none : Option Jvm.ClassFile.FieldType)) ∈ tb := tb_of (List.mem_of_getElem? (i := 1155) (by decide +kernel)) rfl
/-! ===== the law from its entry ===== -/
theorem whole_start {p : Program} {e : Env} {s : State} {m : MethodId} {below : List Frame} {meth : Method} {c : Code} (l : Launch) (hflags : l.flags = flags0) {b L : Nat} {xs : Nat → Int32} (hL : L ≤ 3072) (C0 : lw_At p s m meth c b L xs) : W p l e room_1 s m #[Value.ref b] below meth c s.heap [] 0 0 (lw_Z below #[Value.ref b] s) (entryFrame m ([Value.ref b] : List Value).toArray 7) := by
  obtain ⟨hx, hb, hr, hml, hown, hts, hX, hbl, hlocks, hgv⟩ := id C0
  obtain ⟨E, hE, hK, hSE⟩ := st_env C0
  have hl0 : l.stackTraces = false := by
    unfold Launch.stackTraces
    rw [hflags]
    decide
  have htb : ∀ w ∈ tb, w.before #[Value.ref b] s = true := fun w hw => hts w (List.mem_filter.mp hw).1
  have hao : va_AO RX4 s := va_AO.of (hts _ (lw_w 152 (w := .arrayOver (.object RX4)) (by decide +kernel)))
  refine w_room (R' := rmh 1312 600000 7000000) (by decide) (by decide) (Nat.le_of_ble_eq_true rfl) (Nat.le_of_ble_eq_true rfl) ?_
  have mk : ∀ (sd : Nat → Nat → Nat) (P : Nat → Prop), (∀ o, stt o = true → P o) → Fx E ((p, l, e, rmh 1312 600000 7000000, s, m, #[Value.ref b], below, meth, c, lw_Z below #[Value.ref b] s, sd, P) : Cx) "MarkFieldLaw" code 7 := fun sd P hP => ⟨hx, hb, hml, hown, htb, hK, hSE, Nat.le_of_eq hE, hlocks, hP⟩
  have F := mk (fun _ _ => 0) (fun _ => True) (fun _ _ => trivial)
  have hl := lv_entry [.ref b] (n := 7) (Nat.le_of_ble_eq_true rfl)
  rw [lg_entry_eq]
  have hP0 : va_P E.1 vwCl ([] ++ []) s.heap := fun k q h => by simp at h
  have hD0 : va_D (rg E) ([] ++ []) := ⟨fun i j p q h => by simp at h, fun k q h => by simp at h⟩
  suffices hw : LW E ((p, l, e, rmh 1312 600000 7000000, s, m, #[Value.ref b], below, meth, c, lw_Z below #[Value.ref b] s, fun _ _ => 0, fun _ => True) : Cx) 7 0 [(0, .ref b)] [] [] [] 0 0 from hw _ s.heap [] hl hP0 hD0 va_S.rf
  refine lw_new F rfl (ci := 7) (fs := fs7) cf7 v_23 v_24 v_1 fs7_ok (Nat.le_of_ble_eq_true rfl) (Nat.le_of_ble_eq_true rfl) dL_law_0 (fun a => ?_)
  refine lw_dup F dL_law_3 rfl ?_
  refine lw_cA F rfl hao (n1 := 1) (n2 := 13) (n := 0) (wr := []) (wc := [(a, .inr (7, fs7))]) (stk := [.ref a]) [] k_X7_init ⟨v_27, v_1, by decide, by decide, by decide +kernel⟩ rfl v_26 (Or.inl v_25) rfl rfl rfl (by exact Nat.le_of_ble_eq_true rfl) ⟨(by exact Nat.le_of_ble_eq_true rfl), (by exact Nat.le_of_ble_eq_true rfl)⟩ ⟨(by exact Nat.le_of_ble_eq_true rfl), (by exact Nat.le_of_ble_eq_true rfl)⟩ dL_law_4 (fun wd hp => ?_)
  obtain ⟨A1, A2, A3, A4, A5, A6, A7, A8, A9, A10, rfl⟩ := hp
  refine lw_as_n F dL_law_7 rfl (by decide) (lv1 := [(1, .ref a), (0, .ref b)]) rfl ?_
  refine lw_new F rfl (ci := 8) (fs := fs8) cf8 v_1151 v_1152 v_10 fs8_ok (Nat.le_of_ble_eq_true rfl) (Nat.le_of_ble_eq_true rfl) dL_law_8 (fun a8 => ?_)
  refine lw_dup F dL_law_11 rfl ?_
  refine lw_cI F rfl (n1 := 64) (n2 := 4772) (n := 0) (wr := mfW E a A1 A2 A3 A4 A5 A6 A7 A8 A9 A10) (wc := [(a8, .inr (8, fs8))]) (stk := [.ref a8]) [] k_X8_init ⟨v_1155, v_10, by decide, by decide, by decide +kernel⟩ rfl v_1154 (Or.inl v_1153) rfl rfl rfl (by exact Nat.le_of_ble_eq_true rfl) ⟨(by exact Nat.le_of_ble_eq_true rfl), (by exact Nat.le_of_ble_eq_true rfl)⟩ ⟨(by exact Nat.le_of_ble_eq_true rfl), (by exact Nat.le_of_ble_eq_true rfl)⟩ dL_law_12 (fun wd hp => ?_)
  obtain ⟨Am, hAm, rfl⟩ := hp
  subst hAm
  refine lw_as_n F dL_law_15 rfl (by decide) (lv1 := [(2, .ref (Am 0)), (1, .ref a), (0, .ref b)]) rfl ?_
  refine lw_ic F dL_law_16 (v := (1 : Int32)) (by decide) ?_
  refine lw_naJ (N := 1) F rfl v_1799 (by decide) (by decide) (by decide) (Nat.le_of_ble_eq_true rfl) (Nat.le_of_ble_eq_true rfl) dL_law_17 (fun q => ?_)
  refine lw_as_n F dL_law_19 rfl (by decide) (lv1 := [(3, .ref q), (2, .ref (Am 0)), (1, .ref a), (0, .ref b)]) rfl ?_
  refine lw_ic F dL_law_20 (v := (0 : Int32)) (by decide) ?_
  refine lw_is F dL_law_21 (by decide) (lv1 := [(4, .int 0), (3, .ref q), (2, .ref (Am 0)), (1, .ref a), (0, .ref b)]) rfl ?_
  intro ls H locs hls hP hD hS
  have hH := hd0 (E := E) (a := a) (q := q) (A1 := A1) (A2 := A2) (A3 := A3) (A4 := A4) (A5 := A5) (A6 := A6) (A7 := A7) (A8 := A8) (A9 := A9) (A10 := A10) (Am := Am) (H := H) hP hD
  have Z : LwF E ((p, l, e, rmh 1312 600000 7000000, s, m, #[Value.ref b], below, meth, c, lw_Z below #[Value.ref b] s, ad0 a q A1 A2 A3 A4 A5 A6 A7 A8 A9 A10 Am, pS) : Cx) b L xs := ⟨mk _ _ (fun _ h => h), rfl, hl0, rfl, ⟨hX, hbl, hE, rfl, hr, rfl⟩, hL⟩
  exact la_loop Z 512 0 rfl G0 inv0 ls H locs _ (fun _ _ _ => rfl) hls hH hS
set_option maxHeartbeats 4000000 in
theorem lw_walk (l : Launch) (hflags : l.flags = flags0) (b : Addr) (xs : List Int32) : MetFree l x (headSpec (Jvm.Cond.code x code maxLocals ret :: tables_1) room_1) (lw_P b xs) (fun _ _ _ _ _ => True) lw_Q := by
  refine MetFree.of_bodyS (code := code) (maxLocals := maxLocals) (ret := ret) (by decide) ?_ ?_
  · intro args s m h hn
    obtain ⟨meth, c, h1, h2, h3, h4, h5, h6, -, -⟩ := Cond.code_spec hn (atoms_spec (ws := Jvm.Cond.code x code maxLocals ret :: tables_1) h _ List.mem_cons_self)
    exact ⟨meth, c, h1, h2, h3, h4, h5, h6⟩
  · intro p e s m args below meth c s₁ B hml0 hP _
    obtain ⟨rfl, hx, hbd, hgv⟩ := hP
    obtain ⟨scr, harrAt, hlist, hof, hsmall⟩ := hx
    obtain ⟨hcb, hkn, -, -⟩ := State.arrayAt?_spec harrAt
    have hown : s.vm.findClass R_law = some m.cls := findClass_of_methodNamed B.named
    have hts0 : ∀ c ∈ (Jvm.Cond.code x code maxLocals ret :: tables_1), c.before #[Value.ref b] s = true := atoms_spec (ws := Jvm.Cond.code x code maxLocals ret :: tables_1) B.pre
    have hts : ∀ w ∈ lw_tbl, w.before #[Value.ref b] s = true := k2_hts_sels lw_privs (fun w hw => hts0 w (List.mem_cons_of_mem _ hw)) lw_privs_ok
    have hml : c.maxLocals = 7 := B.maxLocals_eq (hts0 _ List.mem_cons_self)
    have X₀ : Stand p l e room_1 s m #[Value.ref b] below meth c s₁ [] 0 0 := Stand.of_body B
    have hh0 : s₁.heap = s.heap := by rw [B.state]; rfl
    have hsz : scr.slots.size = xs.length := by rw [← Array.length_toList, hlist, List.length_map]
    have hval : ∀ j : Nat, j < xs.length → scr.slots[j]? = some (.int (xs.getD j 0)) := fun j hj => by
      rw [← Array.getElem?_toList, hlist]
      simp [hj]
    have hbl : b < s.heap.size := (Array.getElem?_eq_some_iff.mp hcb).1
    have hX : va_X b xs.length (fun j => xs.getD j 0) s s.heap := ⟨scr, hcb, hof, hkn, hsz, hval⟩
    have K : W p l e room_1 s m #[Value.ref b] below meth c s₁.heap [] 0 0 (lw_Z below #[Value.ref b] s) (entryFrame m ([Value.ref b] : List Value).toArray 7) := by
      rw [hh0]
      exact whole_start l hflags hbd ⟨B.exec, B.bytes, B.returns, hml, hown, hts, hX, hbl, B.notSynchronized, hgv⟩
    obtain ⟨t, a1, o, b1, b2, b3⟩ := K s₁ rfl X₀
    exact ⟨t, o, a1, b1, b2, b3⟩
theorem lw_pre_spec {args : Array Value} {s : State} (h : (Jvm.Cond.and given_1 narrow_1).before args s = true) (hr : rest_1_c.before args s = true) : ∃ (b : Addr) (xs : List Int32), lw_P b xs args s := by
  have hs := flat_of_before _ h
  have hq := flat_of_before _ hr
  have hc : (Cond.count 1).before args s = true := hs _ (by decide +kernel)
  have harr : (Cond.arrayOf (.arg 0) .int).before args s = true := hs _ (by decide +kernel)
  have hle : (Cond.le (.length (.arg 0)) (.int 3072)).before args s = true := hs _ (by decide +kernel)
  have hlen : (Cond.isInt (.length (.arg 0))).before args s = true := hq _ (by decide +kernel)
  have hall : (Cond.all (.arg 0) (.isInt (.elem (.arg 0) (.index 0)))).before args s = true := hq _ (by decide +kernel)
  obtain ⟨b, xs, hb, hx⟩ := State.ints_of_pre rfl harr hlen hall
  have hsm : xs.length < 2 ^ 31 := hx.choose_spec.2.2.2
  have hev : (Term.length (.arg 0)).eval args s none [] s = some (.int xs.length.toInt32) := hx.length_eval hb
  have hv := Cond.le_ints hev (show (Term.int 3072).eval args s none [] s = some (.int 3072) from rfl)
  have hd : xs.length.toInt32 ≤ 3072 := by
    simpa [Cond.before, Cond.holds, hv] using hle
  have hN : xs.length ≤ 3072 := (Int32.ofNat_le_ofNat hsm (by decide)).mp (show Int32.ofNat xs.length ≤ Int32.ofNat 3072 from hd)
  exact ⟨b, xs, Cond.one_arg hc (show args[0]? = some (.ref b) from hb), hx, hN, h⟩
theorem lw_comes (l : Launch) (hflags : l.flags = flags0) : Comes l x (Jvm.Cond.code x code maxLocals ret :: tables_1) room_1 (fun tb e args s => Calls_1 tb e args s ∧ rest_1 tb e args s ∧ Pre_1 tb e args s)
    (fun _ _ args s o t => lw_Q args s o t) := by
  intro p e ha hc hk s m args below hf hfit hheap happ hpre
  obtain ⟨b, xs, hP⟩ := lw_pre_spec hpre.2.2 hpre.2.1
  obtain ⟨k, o, h1, h2, h3, hQ⟩ := lw_walk l hflags b xs p e ha hc hk s m args below hf ((Spec.applies_iff_loose hf).mp happ).1 hP trivial
  exact ⟨k, o, h1, h2, h3, hQ⟩
theorem lw_frame {s t : State} {o : Outcome} {args : Array Value} (h : Framed s o t [] 601024 7293033) :
    Framed s o t (fieldLocs frame_1_writes args s ++ arrayLocs frame_1_arrays args s ++ staticLocs frame_1_statics s) 601024 7293033 := h
theorem lw_limb (L : Cond) (hL : ∀ (args : Array Value) (s t : State), L.after args s (.returned (some (.int 1))) t = true) :
    ArmFor flags0 classFile x code maxLocals ret World_1 tables_1 room_1 Calls_1 rest_1 Pre_1
      (fun tb e a s o t => postC L tb e a s o t ∧ Framed s o t (fieldLocs frame_1_writes a s ++ arrayLocs frame_1_arrays a s ++ staticLocs frame_1_statics s) 601024 7293033) := by
  intro l hflags _ _ p e ha hc hk s m args below hf hfit hheap happ hpre
  obtain ⟨k, o, h1, h2, h3, rfl, hF⟩ := lw_comes l hflags p e ha hc hk s m args below hf hfit hheap happ hpre
  exact ⟨k, _, h1, h2, h3, hL args s _, lw_frame hF⟩
theorem i_vc : Claimed_1_1 ∧ Claimed_1_2 := ⟨lw_limb limb_1_1 (fun args s t => by simp [limb_1_1, Cond.after, Cond.holds, Cond.value]), lw_limb limb_1_2 (fun args s t => Cond.after_iff.mpr (by
  first | (rw [show limb_1_2 = Cond.eq .result (.int 1) from rfl, Cond.eq_ints (x := 1) (y := 1) rfl rfl]; simp; done) | (simp [limb_1_2, Cond.value, Term.eval]; done)))⟩

