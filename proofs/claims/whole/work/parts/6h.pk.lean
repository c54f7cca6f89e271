/-! ===== undo, image, back, register, ask ===== -/
def qun (q : Par) (a : Nat) : Par := (qvp q a, qvb q, qvs q, qvf q, (a, (qvx q + 11) % 12, qvp q), (qvk q, qvK q))
def o_undo (q : Par) : Oc := if qva q = 0 then .inr (-1, q) else .inr (((qva q - 1 : Nat) : Int), qun q (qva q - 1))
def qim (q : Par) : Par := (qvR q, qvb q, qvs q, qvf q, (qva q, qvx q, qvp q), (true, qvR q))
def qbk (q : Par) : Par := (qvK q, qvb q, qvs q, qvf q, (0, qvx q, qvp q), (qvk q, qvK q))
def o_back (q : Par) : Oc := if qvk q = true then .inr (1, qbk q) else .inr (0, q)
def qrd (q : Par) (s : Int) : Par := (qvR q, qvb q, 0, s, (qva q, qvx q, qvp q), (qvk q, qvK q))
def qrg (q : Par) (R' : RR) : Par := (R', qvb q, 0, -1, (0, qvx q, qvp q), (qvk q, qvK q))
def rgO (q : Par) : PR → Oc
  | .inl (c, s) => .inr (-10 - (c : Int), qrd q (s : Int))
  | .inr (_, R') => .inr ((R' 1 : Int), qrg q R')
def o_register (q : Par) (n : Int) : Oc := if 0 ≤ n ∧ n ≤ qvs q then rgO q (rdAll (qvb q) n.toNat) else .inl 1
def akO (q : Par) (day : Nat) (many : Bool) : (Nat × Nat) ⊕ QE → Oc
  | .inl (c, s) => .inr (-1000000000 - (c : Int), qrd q (s : Int))
  | .inr E => .inr (qAn (qvR q) day many E, qrd q (-1))
def o_ask (q : Par) (n d : Int) : Oc := if 0 ≤ n ∧ n ≤ qvs q then (if 0 ≤ d ∧ d ≤ 9999 then (if n ≤ 200 then akO q d.toNat (wdB (qvb q) n.toNat 0 15) (qsR (qvb q) n.toNat) else .inl 1) else .inl 1) else .inl 1
section
variable {q : Par} {G : GH}
theorem cI_undo (h : IC q G) : wp_X7_undo (CO (o_undo q) G) G := by
  have hV := h.V
  have hR := h.R
  unfold wp_X7_undo
  rw [hR.2.2.1, zl0, zI_eq (by have := hR.1; omega)]
  refine br_c (fun z => CO.s h (o_yes (by omega) rfl) rfl) (fun z => ?_)
  obtain ⟨b, hb⟩ : ∃ b, qva q = b + 1 := ⟨qva q - 1, by omega⟩
  have hR' := hR
  rw [hb] at hR'
  refine wI_takeBack hR' (fun G2 ag2 hC2 hR2 => ?_)
  intro G3 e3
  have hVb : VR 12 (qvp q b) := (hR'.2.2.2 b (by omega)).2.2
  have e : ∀ x, x ≠ 4 → x ≠ 8 → x ≠ 0 → G3 x = G x := fun x h1 h2 h3 => by
    have : G3 x = G2 x := by
      funext c
      rw [e3, gs_ne (by omega)]
    rw [this, ag2.ob x (fun c j z => by omega)]
  have e0 : ∀ j, j ≠ 12 → G3 0 0 j = G 0 0 j := fun j hj => by
    rw [e3, gs_eq, upd_ne hj, ag2.ob 0 (fun c j z => by omega)]
  have f : ∀ x, x ≠ 0 → G3 x = G2 x := fun x hx => by
    funext c
    rw [e3, gs_ne (by omega)]
  have hI : IC (qun q b) G3 := by
    obtain ⟨h1, h2, h3, h4, h5, h6, h7, h8⟩ := h
    refine ⟨hVb, by rw [f 8 (by omega)]; exact hC2, SK.st (by rw [e3, gs_eq, upd_eq]), ?_, by rw [e0 11 (by omega)]; exact h5, hR2.cg (fun x hx => f x (by omega)), by rw [e0 10 (by omega)]; exact h7, by rw [e 11 (by omega) (by omega) (by omega)]; exact h8⟩
    rw [e 1 (by omega) (by omega) (by omega)]
    exact h4
  refine CO.mk (v := (b : Int)) (q' := qun q b) (o_not (by omega) ?_) ?_ hI (e 24 (by omega) (by omega) (by omega)) (e 25 (by omega) (by omega) (by omega))
  · rw [hb]
    rfl
  · exact hI.R.2.2.1
theorem cM_undo (hP : PV q) (h : IR q G) : wp_X8_undo (MO kc2 (o_undo q) q G) G := by
  refine wM_undo hP.2.2 h.a h.P (fun z G1 ag h5 => ?_) (fun b hb G1 ag hM h5 h4 h7 => ?_)
  · refine MO.ok (q' := q) (o_yes z rfl) rfl h5 (IR.t (h.fr ag (fun c j y => by omega) (fun y => ?_))) ag (fun x c j y => y.1)
    rw [ag 24 0 7 (by omega)] at y
    exact (h.L y).cg (fun c hc => ag.ce 24 c (fun j y => by omega))
  · have e : ∀ c, c ≠ 0 → c ≠ 1 → G1 24 c = G 24 c := fun c h1 h2 => ag.ce 24 c (fun j z => by omega)
    have e0 : ∀ j, j ≠ 4 → j ≠ 5 → j ≠ 7 → G1 24 0 j = G 24 0 j := fun j h1 h2 h3 => ag 24 0 j (fun z => by omega)
    obtain ⟨i1, i2, i3, i4, i5, i6, i7⟩ := h
    have hI : IR (qun q b) G1 := by
      refine ⟨hM, fun z => absurd h7 z, ?_, by rw [e0 40 (by omega) (by omega) (by omega)]; exact i4, ⟨h4, ?_⟩, by rw [e0 6 (by omega) (by omega) (by omega)]; exact i6, by rw [e 3 (by omega) (by omega)]; exact i7⟩
      · rw [e 32 (by omega) (by omega), e0 32 (by omega) (by omega) (by omega)]
        exact i3
      · rw [e 4 (by omega) (by omega)]
        exact fun i j hi hj => i5.2 i j (by show i < qva q; have : i < b := hi; omega) hj
    refine MO.ok (v := (b : Int)) (q' := qun q b) (o_not (by omega) ?_) rfl h5 hI.t ag (fun x c j y => y.1)
    rw [hb]
    rfl
theorem cI_image (h : IC q G) : wp_X7_image (fun G1 => IC (qim q) G1 ∧ G1 24 = G 24 ∧ G1 25 = G 25) G := by
  refine wI_image h.V h.C (fun G1 ag g10 hC => ?_)
  have e : ∀ x, x ≠ 11 → x ≠ 0 → G1 x = G x := fun x h1 h2 => ag.ob x (fun c j z => by omega)
  have e0 : ∀ j, j ≠ 10 → G1 0 0 j = G 0 0 j := fun j hj => ag 0 0 j (fun z => by omega)
  obtain ⟨h1, h2, h3, h4, h5, h6, h7, h8⟩ := h
  refine ⟨⟨h1, by rw [e 8 (by omega) (by omega)]; exact h2, h3.cg (e 6 (by omega) (by omega)) (e0 12 (by omega)), ?_, by rw [e0 11 (by omega)]; exact h5, h6.cg (fun x hx => e x (by omega) (by omega)), ⟨fun _ => g10, fun _ => rfl⟩, fun _ => ⟨h1, hC⟩⟩, e 24 (by omega) (by omega), e 25 (by omega) (by omega)⟩
  rw [e 1 (by omega) (by omega)]
  exact h4
theorem cM_image (h : IR q G) : wp_X8_image (fun G1 => (∀ x, x ≠ 24 → G1 x = G x) ∧ G1 24 0 5 = 0 ∧ IR (qim q) G1) G := by
  refine wM_image h.M (fun G1 ag hM h5 h6 => ?_)
  have e : ∀ c, c ≠ 0 → c ≠ 3 → G1 24 c = G 24 c := fun c h1 h2 => ag.ce 24 c (fun j z => by omega)
  have e0 : ∀ j, j ≠ 5 → j ≠ 6 → G1 24 0 j = G 24 0 j := fun j h1 h2 => ag 24 0 j (fun z => by omega)
  obtain ⟨i1, i2, i3, i4, i5, i6, i7⟩ := h
  refine ⟨fun x hx => ag.ob x (fun c j z => hx z.1), h5, by rw [e 1 (by omega) (by omega)]; exact i1, fun z => ?_, ?_, by rw [e0 40 (by omega) (by omega)]; exact i4, ?_, ⟨fun _ => by rw [h6]; decide, fun _ => rfl⟩, fun _ => hM⟩
  · rw [e0 7 (by omega) (by omega)] at z
    exact (i2 z).cg (fun c hc => e c (by omega) (by omega))
  · rw [e 32 (by omega) (by omega), e0 32 (by omega) (by omega)]
    exact i3
  · rw [e0 4 (by omega) (by omega), e 4 (by omega) (by omega)]
    exact i5
theorem cI_back (h : IC q G) : wp_X7_back (CB (o_back q) G) G := by
  refine wI_back (R := qvK q) (fun z => ?_) (fun z => h.K (h.k.mpr z)) (fun z G1 ag hC h4 h12 => ?_)
  · refine CO.mk (q' := q) (v := 0) (o_not (fun y => h.k.mp y z) rfl) rfl h rfl rfl
  · have hk := h.k.mpr z
    have e : ∀ x, x ≠ 8 → x ≠ 4 → x ≠ 0 → G1 x = G x := fun x h1 h2 h3 => ag.ob x (fun c j z => by omega)
    have e0 : ∀ j, j ≠ 12 → G1 0 0 j = G 0 0 j := fun j hj => ag 0 0 j (fun z => by omega)
    obtain ⟨h1, h2, h3, h4', h5, h6, h7, h8⟩ := h
    refine CO.mk (q' := qbk q) (v := 1) (o_yes hk rfl) rfl ⟨(h8 hk).1, hC, SK.st h12, ?_, by rw [e0 11 (by omega)]; exact h5, ⟨⟨h6.1.1, by show 0 ≤ 12; omega⟩, ?_, h4, fun i hi => absurd hi (Nat.not_lt_zero i)⟩, by rw [e0 10 (by omega)]; exact h7, by rw [e 11 (by omega) (by omega) (by omega)]; exact h8⟩ (e 24 (by omega) (by omega) (by omega)) (e 25 (by omega) (by omega) (by omega))
    · rw [e 1 (by omega) (by omega) (by omega)]
      exact h4'
    · rw [ag 4 0 1 (by omega)]
      exact h6.2.1
theorem cM_back (h : IR q G) : wp_X8_back (MBo kc2 (o_back q) q G) G := by
  refine wM_back (R := qvK q) (fun z G1 ag h5 => ?_) (fun z => h.K (h.k.mpr z)) (fun z G1 ag hM h5 h4 h7 => ?_)
  · refine MO.ok (q' := q) (v := 0) (o_not (fun y => h.k.mp y z) rfl) rfl h5 (IR.t (h.fr ag (fun c j y => by omega) (fun y => ?_))) ag (fun x c j y => y.1)
    rw [ag 24 0 7 (by omega)] at y
    exact (h.L y).cg (fun c hc => ag.ce 24 c (fun j y => by omega))
  · have hk := h.k.mpr z
    have e : ∀ c, c ≠ 0 → c ≠ 1 → G1 24 c = G 24 c := fun c h1 h2 => ag.ce 24 c (fun j z => by omega)
    have e0 : ∀ j, j ≠ 4 → j ≠ 5 → j ≠ 7 → G1 24 0 j = G 24 0 j := fun j h1 h2 h3 => ag 24 0 j (fun z => by omega)
    obtain ⟨i1, i2, i3, i4, i5, i6, i7⟩ := h
    have hI : IR (qbk q) G1 := by
      refine ⟨hM, fun z => absurd h7 z, ?_, by rw [e0 40 (by omega) (by omega) (by omega)]; exact i4, ⟨h4, fun i j hi _ => absurd hi (Nat.not_lt_zero i)⟩, by rw [e0 6 (by omega) (by omega) (by omega)]; exact i6, by rw [e 3 (by omega) (by omega)]; exact i7⟩
      rw [e 32 (by omega) (by omega), e0 32 (by omega) (by omega) (by omega)]
      exact i3
    exact MO.ok (v := 1) (q' := qbk q) (o_yes hk rfl) rfl h5 hI.t ag (fun x c j y => y.1)
/-- the class has read: its tape is taken, the fault's place is told -/
theorem IC.rd {G1 G2 : GH} {s : Int} {W : Nat → Nat → Nat → Prop} (h : IC q G) (ag : Ag W G G1) (hw : ∀ x c j, W x c j → x = 1 ∧ c = 0 ∨ x = 2 ∨ x = 3 ∨ x = 10) (h1 : G1 1 0 1 = zI 0) (e2 : G2 = gs G1 0 0 (upd (G1 0 0) 11 (zI s))) : IC (qrd q s) G2 := by
  have f : ∀ x, x ≠ 0 → G2 x = G1 x := fun x hx => by
    funext c
    rw [e2, gs_ne (by omega)]
  have e : ∀ x, x = 4 ∨ x = 6 ∨ x = 8 ∨ x = 11 ∨ 12 ≤ x ∧ x ≤ 23 → G2 x = G x := fun x hx => by
    rw [f x (by omega), ag.ob x (fun c j z => by have := hw x c j z; omega)]
  have e0 : ∀ j, j ≠ 11 → G2 0 0 j = G 0 0 j := fun j hj => by
    rw [e2, gs_eq, upd_ne hj, ag.ob 0 (fun c j z => by have := hw 0 c j z; omega)]
  obtain ⟨i1, i2, i3, i4, i5, i6, i7, i8⟩ := h
  refine ⟨i1, by rw [e 8 (by omega)]; exact i2, i3.cg (e 6 (by omega)) (e0 12 (by omega)), ?_, by rw [e2, gs_eq, upd_eq]; rfl, i6.cg (fun x hx => e x (by omega)), by rw [e0 10 (by omega)]; exact i7, by rw [e 11 (by omega)]; exact i8⟩
  rw [f 1 (by omega), ag.ce 1 1 (fun j z => by have := hw 1 1 j z; omega)]
  exact ⟨i4.1, h1, by show 0 ≤ 700; omega⟩
theorem cI_register {n : Int} (hn : I32 n) (h : IC q G) : wp_X7_register (CO (o_register q n) G) (CQ (o_register q n) q G) (zI n) G := by
  have hV := h.V
  have hs7 := h.s7
  unfold wp_X7_register
  refine wI_needBytes hn h.s h.s7 (fun n1 => ?_) (fun n1 => CQ.s h (o_not n1 rfl))
  obtain ⟨k, rfl⟩ := Int.eq_ofNat_of_zero_le n1.1
  have wR : ∀ x c j, WRa x c j → x = 1 ∧ c = 0 ∨ x = 2 ∨ x = 3 ∨ x = 10 := fun x c j z => by unfold WRa at z; omega
  refine wI_read h.B (by omega) (fun c s hc G1 ag1 g1 hX => ?_) (fun t R' hc G1 ag1 g1 g4 hC1 => ?_)
  · obtain ⟨x1, x2, x3, x4⟩ := hX
    intro G2 e2
    rw [x2] at e2
    refine br_f (by rw [zl0, zI_eq (by omega)]; omega) ?_
    rw [show (-10 : Int32) = zI (-10) from rfl, zI_sub]
    have o2 : ∀ x, x = 24 ∨ x = 25 → G2 x = G x := fun x hx => by
      have : G2 x = G1 x := by
        funext c
        rw [e2, gs_ne (by omega)]
      rw [this, ag1.ob x (fun c j z => by have := wR x c j z; omega)]
    refine CO.mk (q' := qrd q (s : Int)) (v := -10 - (c : Int)) (o_yes n1 ?_) rfl (h.rd ag1 wR g1 e2) (o2 24 (by omega)) (o2 25 (by omega))
    rw [show ((k : Int)).toNat = k from rfl, hc]
    rfl
  · intro G2 e2
    rw [g4] at e2
    refine br_t rfl ?_
    have h2 := h.rd (s := -1) ag1 wR g1 e2
    have hVR := rdAll_ok hc
    refine wI_copyR (R := R') hVR (by omega) (by
      have : G2 10 = G1 10 := by
        funext c
        rw [e2, gs_ne (by omega)]
      rw [this]
      exact hC1) (by decide) (fun G3 ag3 hC3 => ?_)
    intro G4 e4 G5 e5
    have f5 : ∀ x, x ≠ 0 → x ≠ 4 → G5 x = G3 x := fun x hx h4 => by
      funext c
      rw [e5, gs_ne (by omega), e4, gs_ne (by omega)]
    have e : ∀ x, x ≠ 0 → x ≠ 4 → x ≠ 8 → G5 x = G2 x := fun x h1 h2 h3 => by rw [f5 x h1 h2, ag3.ob x (fun c j z => h3 z)]
    have e0 : ∀ j, j ≠ 12 → G5 0 0 j = G2 0 0 j := fun j hj => by
      rw [e5, gs_eq, upd_ne hj, e4, gs_ne (by omega), ag3.ob 0 (fun c j z => by omega)]
    have o2 : ∀ x, x = 24 ∨ x = 25 → G5 x = G x := fun x hx => by
      have : G2 x = G1 x := by
        funext c
        rw [e2, gs_ne (by omega)]
      rw [e x (by omega) (by omega) (by omega), this, ag1.ob x (fun c j z => by have := wR x c j z; omega)]
    have hI : IC (qrg q R') G5 := by
      obtain ⟨i1, i2, i3, i4, i5, i6, i7, i8⟩ := h2
      have c40 : G5 4 0 = upd (G2 4 0) 2 (0 : Int32) := by
        rw [e5, gs_ne (by omega), e4, gs_eq, ag3.ob 4 (fun c j z => by omega)]
      refine ⟨hVR, by rw [f5 8 (by omega) (by omega)]; exact hC3, SK.st (by rw [e5, gs_eq, upd_eq]), ?_, by rw [e0 11 (by omega)]; exact i5, ⟨⟨i6.1.1, by show 0 ≤ 12; omega⟩, ?_, ?_, fun i hi => absurd hi (Nat.not_lt_zero i)⟩, by rw [e0 10 (by omega)]; exact i7, by rw [e 11 (by omega) (by omega) (by omega)]; exact i8⟩
      · rw [e 1 (by omega) (by omega) (by omega)]
        exact i4
      · rw [c40, upd_ne (by omega)]
        exact i6.2.1
      · rw [c40, upd_eq]
        rfl
    refine CO.mk (q' := qrg q R') (v := (R' 1 : Int)) (o_yes n1 ?_) ?_ hI (o2 24 (by omega)) (o2 25 (by omega))
    · rw [show ((k : Int)).toNat = k from rfl, hc]
      rfl
    · exact hI.C.mk
theorem cM_register {n : Int} (hn : I32 n) (hP : PV q) (h : IR q G) : wp_X8_register (MO kc1 (o_register q n) q G) (zI n) G := by
  have hs7 := hP.2.1
  by_cases n1 : 0 ≤ n ∧ n ≤ qvs q
  case neg =>
    unfold wp_X8_register
    intro G1 e1
    have s1 := S0.st h e1
    rw [s1.I.s, show (0 : Int32) = zI 0 from rfl, wM_within ⟨hn, by omega⟩]
    exact br_bf (decide_eq_false n1) (s1.f (i := 1) (o_not n1 rfl) rfl)
  obtain ⟨k, rfl⟩ := Int.eq_ofNat_of_zero_le n1.1
  refine wM_register h.B h.s hs7 (by omega) (fun c s hc hcr G1 ag h5 h32 h40 => ?_) (fun t R' hc G1 ag hM h5 h32 h40 h4 h7 => ?_)
  · have e : ∀ x, x ≠ 0 → x ≠ 2 → G1 24 x = G 24 x := fun x h1 h2 => ag.ce 24 x (fun j z => by unfold WRf at z; omega)
    have e0 : ∀ j, j = 4 ∨ j = 6 ∨ j = 7 → G1 24 0 j = G 24 0 j := fun j hj => ag 24 0 j (fun z => by unfold WRf at z; omega)
    obtain ⟨i1, i2, i3, i4, i5, i6, i7⟩ := h
    have hI : IR (qrd q (s : Int)) G1 := by
      refine ⟨by rw [e 1 (by omega) (by omega)]; exact i1, fun z => ?_, ⟨by rw [e 32 (by omega) (by omega)]; exact i3.1, h32⟩, h40, ?_, by rw [e0 6 (by omega)]; exact i6, by rw [e 3 (by omega) (by omega)]; exact i7⟩
      · rw [e0 7 (by omega)] at z
        exact (i2 z).cg (fun c hc => e c (by omega) (by omega))
      · rw [e0 4 (by omega), e 4 (by omega) (by omega)]
        exact i5
    refine MO.ok (q' := qrd q (s : Int)) (v := -10 - (c : Int)) (o_yes n1 ?_) rfl h5 hI.t ag (fun x c j z => z.1)
    rw [show ((k : Int)).toNat = k from rfl, hc]
    rfl
  · have e : ∀ x, x ≠ 0 → x ≠ 1 → x ≠ 2 → G1 24 x = G 24 x := fun x h1 h2 h3 => ag.ce 24 x (fun j z => by unfold WRt at z; omega)
    have e0 : G1 24 0 6 = G 24 0 6 := ag 24 0 6 (fun z => by unfold WRt at z; omega)
    obtain ⟨i1, i2, i3, i4, i5, i6, i7⟩ := h
    have hI : IR (qrg q R') G1 := by
      refine ⟨hM, fun z => absurd h7 z, ⟨by rw [e 32 (by omega) (by omega) (by omega)]; exact i3.1, h32⟩, h40, ⟨h4, fun i j hi _ => absurd hi (Nat.not_lt_zero i)⟩, by rw [e0]; exact i6, by rw [e 3 (by omega) (by omega) (by omega)]; exact i7⟩
    refine MO.ok (q' := qrg q R') (v := (R' 1 : Int)) (o_yes n1 ?_) rfl h5 hI.t ag (fun x c j z => z.1)
    rw [show ((k : Int)).toNat = k from rfl, hc]
    rfl
set_option maxHeartbeats 1000000 in
theorem cI_ask {n d : Int} (hn : I32 n) (hd : I32 d) (h : IC q G) : wp_X7_ask (CO (o_ask q n d) G) (CQ (o_ask q n d) q G) (zI n) (zI d) G := by
  have hV := h.V
  have h12 := hV.mk
  have hs7 := h.s7
  unfold wp_X7_ask
  refine wI_needBytes hn h.s h.s7 (fun n1 => ?_) (fun n1 => CQ.s h (o_not n1 rfl))
  refine wI_needDay hd (fun d1 => ?_) (fun d1 => CQ.s h (o_yes n1 (o_not d1 rfl)))
  rw [zl200, zI_le ⟨hn, by omega⟩]
  refine br_c (fun z => ?_) (fun z => CQ.s h (o_yes n1 (o_yes d1 (o_not z rfl))))
  obtain ⟨k, rfl⟩ := Int.eq_ofNat_of_zero_le n1.1
  obtain ⟨dy, rfl⟩ := Int.eq_ofNat_of_zero_le d1.1
  refine wI_likeness h (fun G1 ag1 h1 k1 k2 k3 => ?_)
  rw [wI_allMarks h1.C (hV.to13)]
  refine wI_settleAll hV (by omega) h1.C (by decide) (by decide) (fun i hi => (k3 i hi).2) (by omega) (pw13 (by omega)) (all_clo _) (fun G2 ag2 hS => ?_)
  have h5 : ∀ (x : Nat) (_c _j : Nat), x = 5 → x = 5 := fun x c j z => z
  have h2 := h1.f5 ag2 h5
  have o2 : ∀ {x : Nat}, x ≠ 5 → G2 x = G1 x := fun {x} hx => h5o ag2 h5 hx
  have hQ : QD (qvR q) dy G2 := by
    refine ⟨h2.C, fun m hm => ⟨?_, ?_, hS m hm (all_tb hm)⟩⟩
    · rw [o2 (by omega)]
      exact (k1.1 m hm).1
    · rw [o2 (by omega)]
      exact (k3 m hm).1
  have wR : ∀ x c j, WQr x c j → x = 1 ∧ c = 0 ∨ x = 2 ∨ x = 3 ∨ x = 10 := fun x c j z => by unfold WQr at z; omega
  have e24 : ∀ (G3 G4 : GH) (v : Int32), Ag WQr G2 G3 → G4 = gs G3 0 0 (upd (G3 0 0) 11 v) → ∀ x, x = 24 ∨ x = 25 → G4 x = G x := fun G3 G4 v ag3 e4 x hx => by
    have : G4 x = G3 x := by
      funext c
      rw [e4, gs_ne (by omega)]
    rw [this, ag3.ob x (fun c j z => by have := wR x c j z; omega), o2 (by omega), WLk.o ag1 (by omega)]
  refine wI_qread hV hQ h2.B (by omega) (fun c s hc hcr G3 ag3 g1 g5 => ?_) (fun E hc G3 ag3 g1 g5 g6 => ?_)
  · intro G4 e4
    rw [g5] at e4
    refine br_f (by rw [zl0, zI_eq (by omega)]; omega) ?_
    rw [show (-1000000000 : Int32) = zI (-1000000000) from rfl, zI_sub]
    refine CO.mk (q' := qrd q (s : Int)) (v := -1000000000 - (c : Int)) (o_yes n1 (o_yes d1 (o_yes z ?_))) rfl (h2.rd ag3 wR g1 e4) (e24 _ _ _ ag3 e4 24 (by omega)) (e24 _ _ _ ag3 e4 25 (by omega))
    rw [show ((k : Int)).toNat = k from rfl, hc]
    rfl
  · intro G4 e4
    rw [g5] at e4
    refine br_t rfl ?_
    refine CO.mk (q' := qrd q (-1)) (v := qAn (qvR q) dy (wdB (qvb q) k 0 15) E) (o_yes n1 (o_yes d1 (o_yes z ?_))) ?_ (h2.rd ag3 wR g1 e4) (e24 _ _ _ ag3 e4 24 (by omega)) (e24 _ _ _ ag3 e4 25 (by omega))
    · rw [show ((k : Int)).toNat = k from rfl, hc]
      rfl
    · rw [e4, gs_ne (by omega)]
      exact g6
theorem cM_ask {n d : Int} (hn : I32 n) (hd : I32 d) (hP : PV q) (h : IR q G) : wp_X8_ask (MO kc1 (o_ask q n d) q G) (zI n) (zI d) G := by
  have hV := hP.1
  have hs7 := hP.2.1
  by_cases n1 : (0 ≤ n ∧ n ≤ qvs q) ∧ (0 ≤ d ∧ d ≤ 9999) ∧ n ≤ 200
  case neg =>
    have ho : o_ask q n d = .inl 1 := by
      by_cases c1 : 0 ≤ n ∧ n ≤ qvs q
      · by_cases c2 : 0 ≤ d ∧ d ≤ 9999
        · exact o_yes c1 (o_yes c2 (o_not (fun z => n1 ⟨c1, c2, z⟩) rfl))
        · exact o_yes c1 (o_not c2 rfl)
      · exact o_not c1 rfl
    unfold wp_X8_ask j_X8_ask_26
    rw [h.s, show (200 : Int32) = zI 200 from rfl, zI_min (by omega), show (0 : Int32) = zI 0 from rfl, wM_within ⟨hn, by omega⟩]
    by_cases c1 : 0 ≤ n ∧ n ≤ min (qvs q : Int) 200
    case neg => exact br_bf (decide_eq_false c1) (cdN (i := 1) h ho rfl (by decide))
    refine br_bt (decide_eq_true c1) ?_
    rw [wM_isDay hd]
    exact br_bf (decide_eq_false (fun c2 => n1 ⟨by omega, c2, by omega⟩)) (cdN (i := 1) h ho rfl (by decide))
  obtain ⟨n0, d1, z⟩ := n1
  obtain ⟨k, rfl⟩ := Int.eq_ofNat_of_zero_le n0.1
  obtain ⟨dy, rfl⟩ := Int.eq_ofNat_of_zero_le d1.1
  have w : ∀ c j, WAk 24 c j → (9 ≤ c ∧ c ≤ 24 ∨ c = 0 ∧ (j = 5 ∨ j = 7 ∨ 24 ≤ j ∧ j ≤ 26 ∨ 32 ≤ j ∧ j ≤ 43)) := fun c j z => z.2
  have hI : ∀ (s : Int) (G1 : GH), Ag WAk G G1 → (G1 24 0 7 ≠ 0 → LT (qvR q) (G1 24)) → G1 24 0 32 = zI 0 → G1 24 0 40 = zI s → IR (qrd q s) G1 := by
    intro s G1 ag hL h32 h40
    have e : ∀ c, c = 1 ∨ c = 3 ∨ c = 4 ∨ c = 32 → G1 24 c = G 24 c := fun c hc => ag.ce 24 c (fun j z => by have := w c j z; omega)
    have e0 : ∀ j, j = 4 ∨ j = 6 → G1 24 0 j = G 24 0 j := fun j hj => ag 24 0 j (fun z => by have := w 0 j z; omega)
    obtain ⟨i1, i2, i3, i4, i5, i6, i7⟩ := h
    refine ⟨by rw [e 1 (by omega)]; exact i1, hL, ⟨by rw [e 32 (by omega)]; exact i3.1, h32⟩, h40, ?_, by rw [e0 6 (by omega)]; exact i6, by rw [e 3 (by omega)]; exact i7⟩
    rw [e0 4 (by omega), e 4 (by omega)]
    exact i5
  refine wM_ask (by omega) hs7 (by omega) hV (by omega) h.B h.s h.M h.L (fun c s hc hcr G1 ag hL h5 h32 h40 => ?_) (fun E hc G1 ag hL h5 h32 h40 => ?_)
  · refine MO.ok (q' := qrd q (s : Int)) (v := -1000000000 - (c : Int)) (o_yes n0 (o_yes d1 (o_yes z ?_))) rfl h5 (hI _ G1 ag hL h32 h40).t ag (fun x c j z => z.1)
    rw [show ((k : Int)).toNat = k from rfl, hc]
    rfl
  · refine MO.ok (q' := qrd q (-1)) (v := qAn (qvR q) dy (wdB (qvb q) k 0 15) E) (o_yes n0 (o_yes d1 (o_yes z ?_))) rfl h5 (hI _ G1 ag hL h32 h40).t ag (fun x c j z => z.1)
    rw [show ((k : Int)).toNat = k from rfl, hc]
    rfl
end
