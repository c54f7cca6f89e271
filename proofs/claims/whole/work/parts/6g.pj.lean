/-! use, consent, drop, rule, near -/
def o_rule (q : Par) (k v : Int) : Oc := if 0 ≤ k ∧ k ≤ 5 then (if 0 ≤ v ∧ v ≤ mst k.toNat then .inr ((qvR q (2 + k.toNat) : Int), qkp q (ruR (qvR q) k.toNat v.toNat)) else .inl 1) else .inl 0
def o_near (q : Par) (a b : Int) (y : Bool) : Oc := if 0 ≤ a ∧ a ≤ 9 then (if 0 ≤ b ∧ b ≤ 9 then (if a = b then .inl 0 else .inr ((((qvR q (8 + a.toNat)).testBit b.toNat).toNat : Int), qkp q (jnR y (qvR q) a.toNat b.toNat))) else .inl 0) else .inl 0
section
variable {q : Par} {G : GH}
theorem KN.n2 {R R' : RR} {A : Nat → Nat → Int32} (h1 : R 1 = R' 1) (hN : ∀ m, m < R 1 → eqN R R' m) (hK : KN R A) : KN R' A := by
  refine ⟨fun m hm => ?_, fun a b ha hb hab => ?_⟩
  · rw [← h1] at hm
    rw [← snd_cg (hN m hm)]
    exact hK.1 m hm
  · rw [← h1] at ha hb
    rw [← lkL_cg (hN a ha) (hN b hb), ← lkS_cg (hN a ha) (hN b hb)]
    exact hK.2 a b ha hb hab
theorem KG.n2 {R R' : RR} {A : Nat → Nat → Int32} (h1 : R 1 = R' 1) (h8 : ∀ c, c < 10 → R (8 + c) = R' (8 + c)) (hg : ∀ m, m < R 1 → qq R m 11 = qq R' m 11) (hK : KG R A) : KG R' A := by
  intro a b ha hb
  rw [← h1] at ha hb
  have e : apS R' a b = apS R a b := by
    unfold apS stp
    rw [hg a ha, hg b hb]
    exact fsn_cg (fun c hc => (h8 c hc).symm) 10
  rw [e]
  exact hK a b ha hb
theorem WSe.g {G1 : GH} {v : Int32} : Ag WSe G1 (gs G1 0 0 (upd (G1 0 0) 12 v)) := (Ag.rf G1).up (Or.inr ⟨rfl, rfl, rfl⟩)
theorem g12 {G1 : GH} {v : Int32} : gs G1 0 0 (upd (G1 0 0) 12 v) 8 = G1 8 := by
  funext c
  rw [gs_ne (by omega)]
theorem g12b {G1 : GH} {v : Int32} : gs G1 0 0 (upd (G1 0 0) 12 v) 6 = G1 6 := by
  funext c
  rw [gs_ne (by omega)]
theorem cI_use {a b f t : Int} (ha : I32 a) (hb : I32 b) (hf : I32 f) (ht : I32 t) (h : IC q G) : wp_X7_use (CO (o_use q a b f t) G) (CQ (o_use q a b f t) q G) (zI a) (zI b) (zI f) (zI t) G := by
  have hV := h.V
  have h12 := hV.mk
  have l6 := hV.l6
  unfold wp_X7_use j_X7_use_31
  refine wI_needMark ha hV (by omega) h.C (fun a1 => ?_) (fun a1 => CQ.s h (o_not a1 rfl))
  refine wI_needHalf hb hV h.C (fun b1 => ?_) (fun b1 => CQ.s h (o_yes a1 (o_not b1 rfl)))
  refine wI_isDay hf ?_
  by_cases f1 : 0 ≤ f ∧ f ≤ 9999
  case neg => exact br_bf (decide_eq_false f1) (CQ.s h (o_yes a1 (o_yes b1 (o_not f1 rfl))))
  refine br_bt (decide_eq_true f1) (wI_isDay ht ?_)
  by_cases t1 : 0 ≤ t ∧ t ≤ 9999
  case neg => exact br_bf (decide_eq_false t1) (CQ.s h (o_yes a1 (o_yes b1 (o_yes f1 (o_not t1 rfl)))))
  refine br_bt (decide_eq_true t1) ?_
  rw [zI_le ⟨hf, ht⟩]
  refine br_c (fun z => ?_) (fun z => CQ.s h (o_yes a1 (o_yes b1 (o_yes f1 (o_yes t1 (o_not z rfl))))))
  obtain ⟨m, rfl⟩ := Int.eq_ofNat_of_zero_le a1.1
  obtain ⟨hh, rfl⟩ := Int.eq_ofNat_of_zero_le b1.1
  obtain ⟨x, rfl⟩ := Int.eq_ofNat_of_zero_le f1.1
  obtain ⟨y, rfl⟩ := Int.eq_ofNat_of_zero_le t1.1
  have hm : m < qvR q 1 := by omega
  have hu := hV.uc hm
  refine ⟨zI_in (by omega), ?_⟩
  rw [zI_clN (by omega), h.C.uc hm, zl12, zI_lt (by omega)]
  refine br_c (fun z1 => ?_) (fun z1 => CO.s h (o_yes a1 (o_yes b1 (o_yes f1 (o_yes t1 (o_yes z (o_not (by show ¬ qq (qvR q) m 13 < 12; omega) rfl)))))) rfl)
  have hu2 : qq (qvR q) m 13 < 12 := by omega
  refine wI_keep hV h.C h.R (fun G2 ag2 hR2 => ?_)
  have h2 := h.kp ag2 hR2
  refine wI_addUse hV (by omega) h2.C hm hu2 (fun G3 ag3 hC3 => ?_)
  have a3 : Ag WSe G2 G3 := ag3.mo (fun x c j z => Or.inl z)
  have eA : eqA (qvR q) (usR (qvR q) m hh x y) := ⟨(usR_lo (by omega)).symm, fun i h1 h2 => (usR_lo h2).symm, fun m' hm' => ⟨⟨hV.ln hm', fun w hw => (usR_q (by omega) hu2 (by omega)).symm⟩, (usR_q (by omega) hu2 (by omega)).symm⟩⟩
  have hS3 : SK (usR (qvR q) m hh x y) G3 := (h2.S.cg (ag3.ob 6 (fun c j z => by omega)) (ag3 0 0 12 (by omega))).A eA
  have h3 := h2.se a3 (usR_V hV hu2 (by omega) (by omega) (by omega)) hC3 hS3
  refine CO.mk (o_yes a1 (o_yes b1 (o_yes f1 (o_yes t1 (o_yes z (o_yes (by exact hu2) rfl)))))) rfl h3 ?_ ?_
  · rw [WSe.o a3 (by omega), WKc.o ag2 (by omega)]
  · rw [WSe.o a3 (by omega), WKc.o ag2 (by omega)]
theorem cM_use {a b f t : Int} (ha : I32 a) (hb : I32 b) (hf : I32 f) (ht : I32 t) (hP : PV q) (h : IR q G) : wp_X8_use (MO kc2 (o_use q a b f t) q G) (zI a) (zI b) (zI f) (zI t) G := by
  have hV := hP.1
  have h12 := hV.mk
  have l6 := hV.l6
  unfold wp_X8_use j_X8_use_17 j_X8_use_42
  refine wM_isMark ha hV (by omega) h.M ?_
  by_cases a1 : 0 ≤ a ∧ a < qvR q 1
  case neg => exact br_bf (decide_eq_false a1) (cdN (i := 0) h (o_not a1 rfl) rfl (by decide))
  refine br_bt (decide_eq_true a1) (wM_isHalf hb hV h.M ?_)
  by_cases b1 : 0 ≤ b ∧ b < 2 * qvR q 0
  case neg => exact br_bf (decide_eq_false b1) (cdN (i := 0) h (o_yes a1 (o_not b1 rfl)) rfl (by decide))
  refine br_bt (decide_eq_true b1) ?_
  rw [wM_isDay hf]
  by_cases f1 : 0 ≤ f ∧ f ≤ 9999
  case neg => exact br_bf (decide_eq_false f1) (cdN (i := 1) h (o_yes a1 (o_yes b1 (o_not f1 rfl))) rfl (by decide))
  refine br_bt (decide_eq_true f1) ?_
  rw [wM_isDay ht]
  by_cases t1 : 0 ≤ t ∧ t ≤ 9999
  case neg => exact br_bf (decide_eq_false t1) (cdN (i := 1) h (o_yes a1 (o_yes b1 (o_yes f1 (o_not t1 rfl)))) rfl (by decide))
  refine br_bt (decide_eq_true t1) ?_
  rw [zI_le ⟨hf, ht⟩]
  refine br_c (fun z => cd0 h (fun G1 s1 => ?_)) (fun z => cdN (i := 1) h (o_yes a1 (o_yes b1 (o_yes f1 (o_yes t1 (o_not z rfl))))) rfl (by decide))
  obtain ⟨m, rfl⟩ := Int.eq_ofNat_of_zero_le a1.1
  obtain ⟨hh, rfl⟩ := Int.eq_ofNat_of_zero_le b1.1
  obtain ⟨x, rfl⟩ := Int.eq_ofNat_of_zero_le f1.1
  obtain ⟨y, rfl⟩ := Int.eq_ofNat_of_zero_le t1.1
  have hm : m < qvR q 1 := by omega
  have hu := hV.uc hm
  refine wM_of1 s1.I.M m 13 rfl rfl (by omega) (by omega) ?_
  rw [zl12, zI_eq (by omega)]
  refine br_c (fun z1 => s1.ok (o_yes a1 (o_yes b1 (o_yes f1 (o_yes t1 (o_yes z (o_not (by show ¬ qq (qvR q) m 13 < 12; omega) rfl)))))) rfl) (fun z1 => ?_)
  have hu2 : qq (qvR q) m 13 < 12 := by omega
  refine wM_keep s1.I.M hP.2.2 s1.I.a s1.I.P (fun G2 ag2 h72 h42 hP2 => ?_)
  have hM2 : MR (qvR q) (G2 24 1) := s1.I.M.fr ag2 (fun j w => by unfold WKp at w; omega)
  have e0 : (14 : Int32) + (3 : Int32) * zI (qq (qvR q) m 13 : Int) = zI ((14 + 3 * qq (qvR q) m 13 : Nat) : Int) := by
    rw [zl14, zl3, zI_mul, zI_add]
    exact zI_cg (by omega)
  rw [e0, show zI ((14 + 3 * qq (qvR q) m 13 : Nat) : Int) + (1 : Int32) = zI ((15 + 3 * qq (qvR q) m 13 : Nat) : Int) from by rw [zl1, zI_add]; exact zI_cg (by omega), show zI ((14 + 3 * qq (qvR q) m 13 : Nat) : Int) + (2 : Int32) = zI ((16 + 3 * qq (qvR q) m 13 : Nat) : Int) from by rw [zl2, zI_add]; exact zI_cg (by omega), show zI (qq (qvR q) m 13 : Int) + (1 : Int32) = zI ((qq (qvR q) m 13 + 1 : Nat) : Int) from zI_add _ 1]
  refine wM_put m _ rfl rfl (by omega) (by omega) (fun G3 e3 => ?_)
  refine wM_put m _ rfl rfl (by omega) (by omega) (fun G4 e4 => ?_)
  refine wM_put m _ rfl rfl (by omega) (by omega) (fun G5 e5 => ?_)
  refine wM_put m 13 rfl rfl (by omega) (by omega) (fun G6 e6 => ?_)
  have ag6 : Ag (fun x c _ => x = 24 ∧ c = 1) G2 G6 := by
    rw [e6, e5, e4, e3]
    exact ((((Ag.rf G2).up ⟨rfl, rfl⟩).up ⟨rfl, rfl⟩).up ⟨rfl, rfl⟩).up ⟨rfl, rfl⟩
  have hM6 : MR (usR (qvR q) m hh x y) (G6 24 1) := by
    intro i hi
    rw [e6, gs_eq]
    unfold upd usR
    rw [e5, gs_eq]
    unfold upd
    rw [e4, gs_eq]
    unfold upd
    rw [e3, gs_eq]
    unfold upd
    by_cases w1 : i = 18 + 51 * m + (14 + 3 * qq (qvR q) m 13)
    · rw [if_neg (show ¬ i = 18 + 51 * m + 13 by omega), if_neg (show ¬ i = 18 + 51 * m + (16 + 3 * qq (qvR q) m 13) by omega), if_neg (show ¬ i = 18 + 51 * m + (15 + 3 * qq (qvR q) m 13) by omega), if_pos w1, if_pos w1]
    · rw [if_neg (c := i = 18 + 51 * m + (14 + 3 * qq (qvR q) m 13)) w1, if_neg (c := i = 18 + 51 * m + (14 + 3 * qq (qvR q) m 13)) w1]
      by_cases w2 : i = 18 + 51 * m + (15 + 3 * qq (qvR q) m 13)
      · rw [if_neg (show ¬ i = 18 + 51 * m + 13 by omega), if_neg (show ¬ i = 18 + 51 * m + (16 + 3 * qq (qvR q) m 13) by omega), if_pos w2, if_pos w2]
      · rw [if_neg (c := i = 18 + 51 * m + (15 + 3 * qq (qvR q) m 13)) w2, if_neg (c := i = 18 + 51 * m + (15 + 3 * qq (qvR q) m 13)) w2]
        by_cases w3 : i = 18 + 51 * m + (16 + 3 * qq (qvR q) m 13)
        · rw [if_neg (show ¬ i = 18 + 51 * m + 13 by omega), if_pos w3, if_pos w3]
        · rw [if_neg (c := i = 18 + 51 * m + (16 + 3 * qq (qvR q) m 13)) w3, if_neg (c := i = 18 + 51 * m + (16 + 3 * qq (qvR q) m 13)) w3]
          by_cases w4 : i = 18 + 51 * m + 13
          · rw [if_pos w4, if_pos w4]
          · rw [if_neg w4, if_neg w4]
            exact hM2 i hi
  exact s1.kp ag2 h72 h42 hP2 ag6 hM6 (o_yes a1 (o_yes b1 (o_yes f1 (o_yes t1 (o_yes z (o_yes (by exact hu2) rfl)))))) rfl
theorem cI_consent {a b : Int} {y : Bool} (ha : I32 a) (hb : I32 b) (h : IC q G) : wp_X7_consent (CB (o_consent q a b y) G) (CQ (o_consent q a b y) q G) (zI a) (zI b) (bI y) G := by
  have hV := h.V
  have h12 := hV.mk
  unfold wp_X7_consent
  refine wI_needCouple ha hb hV (by omega) h.C (fun c1 => ?_) (fun c1 => CQ.s h (o_not c1 rfl))
  obtain ⟨m, rfl⟩ := Int.eq_ofNat_of_zero_le c1.1.1
  obtain ⟨k, rfl⟩ := Int.eq_ofNat_of_zero_le c1.2.1.1
  have hne : m ≠ k := fun z => c1.2.2 (by rw [z])
  refine wI_keep hV h.C h.R (fun G2 ag2 hR2 => ?_)
  have h2 := h.kp ag2 hR2
  refine wI_setC y rfl hV (by omega) h2.C (by omega) (by omega) hne (fun G3 ag3 hC3 => ?_)
  have a3 : Ag WSe G2 G3 := ag3.mo (fun x c j z => Or.inl z.1)
  have eA : eqA (qvR q) (cnR y (qvR q) m k) := ⟨(cnR_lo (by omega)).symm, fun i h1 h2 => (cnR_lo h2).symm, fun m' hm' => ⟨⟨hV.ln hm', fun w hw => (cnR_q (by omega)).symm⟩, (cnR_q (by omega)).symm⟩⟩
  have hS3 : SK (cnR y (qvR q) m k) G3 := (h2.S.cg (ag3.ob 6 (fun c j z => by omega)) (ag3 0 0 12 (by omega))).A eA
  have h3 := h2.se a3 (cnR_V hV (by omega) (by omega)) hC3 hS3
  refine CO.mk (o_yes c1 rfl) bN h3 ?_ ?_
  · rw [WSe.o a3 (by omega), WKc.o ag2 (by omega)]
  · rw [WSe.o a3 (by omega), WKc.o ag2 (by omega)]
theorem cM_consent {a b : Int} {y : Bool} (ha : I32 a) (hb : I32 b) (hP : PV q) (h : IR q G) : wp_X8_consent (MBo kc2 (o_consent q a b y) q G) (zI a) (zI b) (bI y) G := by
  have hV := hP.1
  have h12 := hV.mk
  unfold wp_X8_consent
  refine wM_areTwoMarks ha hb hV (by omega) h.M ?_
  by_cases c1 : (0 ≤ a ∧ a < qvR q 1) ∧ (0 ≤ b ∧ b < qvR q 1) ∧ a ≠ b
  case neg => exact br_bf (decide_eq_false c1) (cdN (i := 0) h (o_not c1 rfl) rfl (by decide))
  refine br_bt (decide_eq_true c1) (cd0 h (fun G1 s1 => ?_))
  obtain ⟨m, rfl⟩ := Int.eq_ofNat_of_zero_le c1.1.1
  obtain ⟨k, rfl⟩ := Int.eq_ofNat_of_zero_le c1.2.1.1
  have hne : m ≠ k := fun z => c1.2.2 (by rw [z])
  have hm : m < qvR q 1 := by omega
  have hcn := hV.cn hm
  refine wM_of1 s1.I.M m 50 rfl rfl (by omega) (by omega) ?_
  rw [wM_has (by omega) (by omega)]
  refine wM_keep s1.I.M hP.2.2 s1.I.a s1.I.P (fun G2 ag2 h72 h42 hP2 => ?_)
  have hM2 : MR (qvR q) (G2 24 1) := s1.I.M.fr ag2 (fun j w => by unfold WKp at w; omega)
  refine wM_consents y rfl hM2 (by omega) (by omega) hne (fun G3 ag3 hM3 => ?_)
  exact s1.kp ag2 h72 h42 hP2 ag3 hM3 (o_yes c1 rfl) bN
theorem cI_drop {a : Int} (ha : I32 a) (h : IC q G) : wp_X7_drop (CO (o_drop q a) G) (CQ (o_drop q a) q G) (zI a) G := by
  have hV := h.V
  have h12 := hV.mk
  unfold wp_X7_drop
  refine wI_needMark ha hV (by omega) h.C (fun a1 => ?_) (fun a1 => CQ.s h (o_not a1 rfl))
  obtain ⟨m, rfl⟩ := Int.eq_ofNat_of_zero_le a1.1
  have hm : m < qvR q 1 := by omega
  refine wI_keep hV h.C h.R (fun G2 ag2 hR2 => ?_)
  have h2 := h.kp ag2 hR2
  intro G3 e3
  subst e3
  refine wI_removeMark (R := qvR q) hV (by omega) (by rw [g12]; exact h2.C) hm (fun G4 ag4 hC4 => ?_)
  have a4 : Ag WSe G2 G4 := WSe.g.wk ag4 (fun x c j z => Or.inl z)
  have h4 := h2.se a4 (drR_V hV (by omega) hm) hC4 (SK.st (by rw [ag4 0 0 12 (by omega), gs_eq, upd_eq]))
  refine CO.mk (o_yes a1 rfl) ?_ h4 ?_ ?_
  · rw [hC4.mk]
    rfl
  · rw [WSe.o a4 (by omega), WKc.o ag2 (by omega)]
  · rw [WSe.o a4 (by omega), WKc.o ag2 (by omega)]
theorem cM_drop {a : Int} (ha : I32 a) (hP : PV q) (h : IR q G) : wp_X8_drop (MO kc2 (o_drop q a) q G) (zI a) G := by
  have hV := hP.1
  have h12 := hV.mk
  unfold wp_X8_drop
  intro G1 e1
  have s1 := S0.st h e1
  refine wM_isMark ha hV (by omega) s1.I.M ?_
  by_cases a1 : 0 ≤ a ∧ a < qvR q 1
  case neg => exact br_bf (decide_eq_false a1) (s1.f (i := 0) (o_not a1 rfl) rfl)
  refine br_bt (decide_eq_true a1) ?_
  obtain ⟨m, rfl⟩ := Int.eq_ofNat_of_zero_le a1.1
  refine wM_keep s1.I.M hP.2.2 s1.I.a s1.I.P (fun G2 ag2 h72 h42 hP2 => ?_)
  have hM2 : MR (qvR q) (G2 24 1) := s1.I.M.fr ag2 (fun j w => by unfold WKp at w; omega)
  refine wM_dropL hV (by omega) hM2 (by omega) (fun G3 ag3 hM3 => ?_)
  exact s1.kp ag2 h72 h42 hP2 ag3 hM3 (o_yes a1 rfl) rfl
theorem cI_rule {k v : Int} (hk : I32 k) (hv : I32 v) (h : IC q G) : wp_X7_rule (CO (o_rule q k v) G) (CQ (o_rule q k v) q G) (zI k) (zI v) G := by
  have hV := h.V
  have h12 := hV.mk
  unfold wp_X7_rule j_X7_rule_18
  rw [zl5]
  refine wI_needWhat hk (by unfold I32; omega) (fun k1 => ?_) (fun k1 => CQ.s h (o_not k1 rfl))
  obtain ⟨j, rfl⟩ := Int.eq_ofNat_of_zero_le k1.1
  have hms : mst j ≤ 999 := by
    have k6 : j = 0 ∨ j = 1 ∨ j = 2 ∨ j = 3 ∨ j = 4 ∨ j = 5 := by omega
    rcases k6 with rfl | rfl | rfl | rfl | rfl | rfl <;> decide
  rw [zl0, zI_lt ⟨hv, by omega⟩]
  refine br_c (fun z => CQ.s h (o_yes k1 (o_not (by omega) rfl))) (fun z => ⟨zI_in (by show _ ∧ _ < ((6 : Nat) : Int) ∧ _; omega), ?_⟩)
  rw [zI_clN (by omega), ← zl0, tb1 (by omega), zI_le ⟨hv, by omega⟩]
  refine br_c (fun z1 => ?_) (fun z1 => CQ.s h (o_yes k1 (o_not (by show ¬ (0 ≤ v ∧ v ≤ (mst j : Nat)); omega) rfl)))
  obtain ⟨x, rfl⟩ := Int.eq_ofNat_of_zero_le (show 0 ≤ v by omega)
  refine wI_keep hV h.C h.R (fun G2 ag2 hR2 => ?_)
  have h2 := h.kp ag2 hR2
  intro G3 e3
  subst e3
  refine ⟨zI_in (by omega), ?_⟩
  intro y ey
  refine ⟨zI_in (by omega), ?_⟩
  intro G4 e4
  rw [g12, h2.C.rl (by omega)] at ey
  subst ey
  have a4 : Ag WSe G2 G4 := by
    rw [e4]
    exact WSe.g.up (Or.inl rfl)
  have hC4 : CR (ruR (qvR q) j x) (G4 8) := by
    refine CR.ru (A := G2 8) h2.C (by omega) ?_ (fun c hc => ?_)
    · rw [e4, gs_eq, g12]
    · rw [e4, gs_ne (by omega), g12]
  have hS4 : SK (ruR (qvR q) j x) G4 := by
    obtain ⟨t, t1, t2, t3, t4, t5⟩ := h2.S
    have e6 : G4 6 = G2 6 := by
      funext c
      rw [e4, gs_ne (by omega), g12b]
    have r1 : qvR q 1 = ruR (qvR q) j x 1 := (ruR_ne (by omega)).symm
    refine ⟨max t 1, by omega, ?_, fun z => ?_, fun z => ?_, fun z => by omega⟩
    · rw [e4, gs_ne (by omega), gs_eq, upd_eq, t2, zl1, zI_max (by omega)]
      exact zI_cg (by omega)
    · rw [e6]
      exact KN.n2 r1 (fun m hm => ⟨hV.ln hm, fun w hw => (ruR_q (by omega)).symm⟩) (t3 (by omega))
    · rw [e6]
      exact KG.n2 r1 (fun c hc => (ruR_ne (by omega)).symm) (fun m hm => (ruR_q (by omega)).symm) (t4 (by omega))
  have h4 := h2.se a4 (ruR_V hV (by omega) (by omega)) hC4 hS4
  refine CO.mk (o_yes k1 (o_yes (by show 0 ≤ (x : Int) ∧ (x : Int) ≤ (mst j : Nat); omega) rfl)) rfl h4 ?_ ?_
  · rw [WSe.o a4 (by omega), WKc.o ag2 (by omega)]
  · rw [WSe.o a4 (by omega), WKc.o ag2 (by omega)]
theorem cM_rule {k v : Int} (hk : I32 k) (hv : I32 v) (hP : PV q) (h : IR q G) : wp_X8_rule (MO kc2 (o_rule q k v) q G) (zI k) (zI v) G := by
  have hV := hP.1
  have h12 := hV.mk
  unfold wp_X8_rule
  rw [show (0 : Int32) = zI 0 from rfl, zl5, wM_within ⟨hk, by omega⟩]
  by_cases k1 : 0 ≤ k ∧ k ≤ 5
  case neg => exact br_bf (decide_eq_false k1) (cdN (i := 0) h (o_not k1 rfl) rfl (by decide))
  refine br_bt (decide_eq_true k1) ?_
  obtain ⟨j, rfl⟩ := Int.eq_ofNat_of_zero_le k1.1
  have hms : mst j ≤ 999 := by
    have k6 : j = 0 ∨ j = 1 ∨ j = 2 ∨ j = 3 ∨ j = 4 ∨ j = 5 := by omega
    rcases k6 with rfl | rfl | rfl | rfl | rfl | rfl <;> decide
  refine wM_mostOf (by omega) ?_
  rw [wM_within ⟨hv, by omega⟩]
  by_cases v1 : 0 ≤ v ∧ v ≤ (mst j : Nat)
  case neg => exact br_bf (decide_eq_false v1) (cdN (i := 1) h (o_yes k1 (o_not v1 rfl)) rfl (by decide))
  refine br_bt (decide_eq_true v1) (cd0 h (fun G1 s1 => ?_))
  obtain ⟨x, rfl⟩ := Int.eq_ofNat_of_zero_le v1.1
  refine wM_keep s1.I.M hP.2.2 s1.I.a s1.I.P (fun G2 ag2 h72 h42 hP2 => ?_)
  have hM2 : MR (qvR q) (G2 24 1) := s1.I.M.fr ag2 (fun j w => by unfold WKp at w; omega)
  have e2 : (2 : Int32) + zI (j : Int) = zI ((2 + j : Nat) : Int) := by
    rw [zl2, zI_add]
    exact zI_cg (by omega)
  rw [e2, zI_clN (by omega), hM2.at (by omega)]
  refine ⟨zI_in (by omega), ?_⟩
  intro y ey
  subst ey
  refine ⟨zI_in (by omega), ?_⟩
  intro G3 e3
  have hM3 : MR (ruR (qvR q) j x) (G3 24 1) := by
    intro i hi
    rw [e3, gs_eq]
    unfold upd ruR
    by_cases w : i = 2 + j
    · rw [if_pos w, if_pos w]
    · rw [if_neg w, if_neg w]
      exact hM2 i hi
  exact s1.kp ag2 h72 h42 hP2 (by rw [e3]; exact (Ag.rf G2).up ⟨rfl, rfl⟩) hM3 (o_yes k1 (o_yes v1 rfl)) rfl
theorem cI_near {a b : Int} {y : Bool} (ha : I32 a) (hb : I32 b) (h : IC q G) : wp_X7_near (CB (o_near q a b y) G) (CQ (o_near q a b y) q G) (zI a) (zI b) (bI y) G := by
  have hV := h.V
  have h12 := hV.mk
  unfold wp_X7_near j_X7_near_19
  refine wI_isCl ha ?_
  by_cases a1 : 0 ≤ a ∧ a ≤ 9
  case neg => exact br_bf (decide_eq_false a1) (CQ.s h (o_not a1 rfl))
  refine br_bt (decide_eq_true a1) (wI_isCl hb ?_)
  by_cases b1 : 0 ≤ b ∧ b ≤ 9
  case neg => exact br_bf (decide_eq_false b1) (CQ.s h (o_yes a1 (o_not b1 rfl)))
  refine br_bt (decide_eq_true b1) ?_
  rw [zI_eq ⟨ha, hb⟩]
  refine br_c (fun z => CQ.s h (o_yes a1 (o_yes b1 (o_yes z rfl)))) (fun z => ?_)
  obtain ⟨m, rfl⟩ := Int.eq_ofNat_of_zero_le a1.1
  obtain ⟨k, rfl⟩ := Int.eq_ofNat_of_zero_le b1.1
  have hne : m ≠ k := fun w => z (by rw [w])
  refine wI_keep hV h.C h.R (fun G2 ag2 hR2 => ?_)
  have h2 := h.kp ag2 hR2
  intro G3 e3
  subst e3
  refine wI_setN (R := qvR q) y rfl hV (by rw [g12]; exact h2.C) (by omega) (by omega) hne (fun G4 ag4 hC4 => ?_)
  have a4 : Ag WSe G2 G4 := WSe.g.wk ag4 (fun x c j z => Or.inl z.1)
  have hS4 : SK (jnR y (qvR q) m k) G4 := by
    obtain ⟨t, t1, t2, t3, t4, t5⟩ := h2.S
    have e6 : G4 6 = G2 6 := by rw [ag4.ob 6 (fun c j z => by omega), g12b]
    have r1 : qvR q 1 = jnR y (qvR q) m k 1 := (jnR_ne (by omega) (by omega) (by omega)).symm
    refine ⟨max t 2, by omega, ?_, fun z => ?_, fun z => by omega, fun z => by omega⟩
    · rw [ag4 0 0 12 (by omega), gs_eq, upd_eq, t2, zl2, zI_max (by omega)]
      exact zI_cg (by omega)
    · rw [e6]
      exact KN.n2 r1 (fun m' hm => ⟨hV.ln hm, fun w hw => by unfold qq; rw [jnR_ne (by omega) (by omega) (by omega)]⟩) (t3 (by omega))
  have h4 := h2.se a4 (jnR_V hV (by omega) (by omega) hne) hC4 hS4
  refine CO.mk (o_yes a1 (o_yes b1 (o_not z rfl))) bN h4 ?_ ?_
  · rw [WSe.o a4 (by omega), WKc.o ag2 (by omega)]
  · rw [WSe.o a4 (by omega), WKc.o ag2 (by omega)]
theorem cM_near {a b : Int} {y : Bool} (ha : I32 a) (hb : I32 b) (hP : PV q) (h : IR q G) : wp_X8_near (MBo kc2 (o_near q a b y) q G) (zI a) (zI b) (bI y) G := by
  have hV := hP.1
  have h12 := hV.mk
  unfold wp_X8_near j_X8_near_24
  refine wM_isClass ha ?_
  by_cases a1 : 0 ≤ a ∧ a ≤ 9
  case neg => exact br_bf (decide_eq_false a1) (cdN (i := 0) h (o_not a1 rfl) rfl (by decide))
  refine br_bt (decide_eq_true a1) (wM_isClass hb ?_)
  by_cases b1 : 0 ≤ b ∧ b ≤ 9
  case neg => exact br_bf (decide_eq_false b1) (cdN (i := 0) h (o_yes a1 (o_not b1 rfl)) rfl (by decide))
  refine br_bt (decide_eq_true b1) ?_
  rw [zI_eq ⟨ha, hb⟩]
  refine br_c (fun z => cdN (i := 0) h (o_yes a1 (o_yes b1 (o_yes z rfl))) rfl (by decide)) (fun z => cd0 h (fun G1 s1 => ?_))
  obtain ⟨m, rfl⟩ := Int.eq_ofNat_of_zero_le a1.1
  obtain ⟨k, rfl⟩ := Int.eq_ofNat_of_zero_le b1.1
  have hne : m ≠ k := fun w => z (by rw [w])
  have hnb := hV.nb (c := m) (by omega)
  have e2 : (8 : Int32) + zI (m : Int) = zI ((8 + m : Nat) : Int) := by
    rw [zl8, zI_add]
    exact zI_cg (by omega)
  rw [e2, zI_clN (n := 8 + m) (by omega), s1.I.M.at (by omega)]
  refine ⟨zI_in (by omega), ?_⟩
  rw [wM_has (by omega) (by omega)]
  refine wM_keep s1.I.M hP.2.2 s1.I.a s1.I.P (fun G2 ag2 h72 h42 hP2 => ?_)
  have hM2 : MR (qvR q) (G2 24 1) := s1.I.M.fr ag2 (fun j w => by unfold WKp at w; omega)
  refine wM_joins y rfl hV hM2 (by omega) (by omega) hne (fun G3 ag3 hM3 => ?_)
  exact s1.kp ag2 h72 h42 hP2 ag3 hM3 (o_yes a1 (o_yes b1 (o_not z rfl))) bN
end
