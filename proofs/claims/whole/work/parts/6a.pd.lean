/-! here, halves, holders, ranked, firstDay, letterFor -/
def o_firstDay (q : Par) (a b : Int) : Oc := if 0 ≤ a ∧ a < qvR q 1 then (if 0 ≤ b ∧ b < 2 * qvR q 0 then .inr (fdI (qvR q) a.toNat b.toNat, q) else .inl 0) else .inl 0
def o_letterFor (q : Par) (a d : Int) : Oc := if 0 ≤ a ∧ a < qvR q 1 then (if 0 ≤ d ∧ d ≤ 9999 then .inr (lfI (qvR q) a.toNat d.toNat, q) else .inl 1) else .inl 0
section
variable {q : Par} {G : GH}
theorem VR.to13 {R : RR} (h : VR 12 R) : VR 13 R := ⟨h.1, Nat.le_trans h.2.1 (by omega), h.2.2⟩
theorem rfI_in {n : Nat} {R : RR} (hV : VR n R) (hn : n ≤ 13) {h d s m : Nat} (hcl : clo R s) (hsm : s.testBit m = true) : rfF R [] 0 (orS R h d s.testBit (R 1)) m = rfI R d m h := by
  have h13 := Nat.le_trans hV.mk hn
  have hal : ∀ m, alS R m < 8192 := fun m => bset_lt13 _ h13
  have := rfF_cut (R := R) (s := s) (x := m) hal hcl hsm (L := orL R h d) (pre := []) (H := 0) (H' := 0) (fun y hy => (orL_mem.mp hy).1) (fun i => by rw [Nat.zero_testBit]; rfl)
  rw [orS_filter]
  exact this
theorem pw13 {k : Nat} (h : k ≤ 13) : 2 ^ k - 1 < 8192 := by
  have := pow_le13 h
  have := Nat.two_pow_pos k
  omega
theorem IC.f5 {q : Par} {G G1 : GH} {W : Nat → Nat → Nat → Prop} (h : IC q G) (ag : Ag W G G1) (hw : ∀ x c j, W x c j → x = 5) : IC q G1 := h.fr ag (fun x c j z => by have := hw x c j z; omega)
theorem h5o {G1 : GH} {W : Nat → Nat → Nat → Prop} (ag : Ag W G G1) (hw : ∀ x c j, W x c j → x = 5) {x : Nat} (hx : x ≠ 5) : G1 x = G x := ag.ob x (fun c j z => hx (hw x c j z))
set_option maxHeartbeats 1000000 in
theorem cI_here {a b d w : Int} (ha : I32 a) (hb : I32 b) (hd : I32 d) (hw : I32 w) (h : IC q G) : wp_X7_here (CO (o_here q a b d w) G) (CQ (o_here q a b d w) q G) (zI a) (zI b) (zI d) (zI w) G := by
  have hV := h.V
  have hC := h.C
  have h12 := hV.mk
  have l6 := hV.l6
  unfold wp_X7_here
  refine wI_needMark ha hV (by omega) hC (fun a1 => ?_) (fun a1 => CQ.s h (o_not a1 rfl))
  refine wI_needHalf hb hV hC (fun b1 => ?_) (fun b1 => CQ.s h (o_yes a1 (o_not b1 rfl)))
  rw [zl3]
  refine wI_needWhat hw (by unfold I32; omega) (fun w1 => ?_) (fun w1 => CQ.s h (o_yes a1 (o_yes b1 (o_not w1 rfl))))
  refine wI_needDay hd (fun d1 => ?_) (fun d1 => CQ.s h (o_yes a1 (o_yes b1 (o_yes w1 (o_not d1 rfl)))))
  obtain ⟨m, rfl⟩ := Int.eq_ofNat_of_zero_le a1.1
  obtain ⟨k, rfl⟩ := Int.eq_ofNat_of_zero_le b1.1
  obtain ⟨dy, rfl⟩ := Int.eq_ofNat_of_zero_le d1.1
  obtain ⟨j, rfl⟩ := Int.eq_ofNat_of_zero_le w1.1
  have hm : m < qvR q 1 := by omega
  have dn : ∀ (v : Int) (r : Int32) (G1 : GH), heV (qvR q) m k dy j = v → r = zI v → IC q G1 → G1 24 = G 24 → G1 25 = G 25 → CO (o_here q (m : Int) (k : Int) (dy : Int) (j : Int)) G r G1 := by
    intro v r G1 hv hr hI e1 e2
    exact CO.mk (o_yes a1 (o_yes b1 (o_yes w1 (o_yes d1 (by rw [← hv]; rfl))))) hr hI e1 e2
  rw [zl0, zl1, zl2, zI_eq (by omega), zI_eq (by omega), zI_eq (by omega)]
  refine br_c (fun z => ?_) (fun z => br_c (fun z1 => ?_) (fun z1 => ?_))
  · have e : j = 0 := by omega
    subst e
    exact wI_sinceOf hV (by omega) hC hm (by omega) (by omega) (dn _ _ G rfl rfl h rfl rfl)
  · have e : j = 1 := by omega
    subst e
    exact wI_priorityOf hV (by omega) hC hm (by omega) (by omega) (dn _ _ G rfl rfl h rfl rfl)
  refine wI_likeness h (fun G1 ag h1 k1 k2 k3 => ?_)
  refine wI_groupOf hV (by omega) h1.C hm (fun i hi => (k3 i hi).2) ?_
  have hcl := gp_clo hV (by omega) hm
  have hgl := gp_lt hV (by omega) hm
  refine wI_rs hV (by omega) h1.C (by decide) (by decide) (fun i hi => (k3 i hi).2) (by omega) (by omega) hgl (fun G2 ag2 er g7 g2 => ?_)
  have h5 : ∀ x c j, WRS k x c j → x = 5 := fun x c j z => WRS.o z
  have h2 := h1.f5 ag2 h5
  have e24 : G2 24 = G 24 := (h5o ag2 h5 (by omega)).trans (WLk.o ag (by omega))
  have e25 : G2 25 = G 25 := (h5o ag2 h5 (by omega)).trans (WLk.o ag (by omega))
  refine br_c (fun z2 => ?_) (fun z2 => ?_)
  · have e : j = 2 := by omega
    subst e
    refine ⟨zI_in (by omega), ?_⟩
    rw [zI_clN (by omega), g2 m hm, rfI_in hV (by omega) hcl gp_self]
    exact dn _ _ G2 rfl rfl h2 e24 e25
  · have e : j = 3 := by omega
    subst e
    have hsl : stl (qvR q) 0 (orS (qvR q) k dy (gpS (qvR q) m).testBit (qvR q 1)) < 8192 := stl_lt (fun x hx => by have := (orS_mem.mp hx).1; omega) (by omega)
    rw [g7, ← zl1, zI_tb (by omega) (by omega), hoB_in hV (by omega) hcl gp_self]
    exact dn _ _ G2 rfl rfl h2 e24 e25
set_option maxHeartbeats 1000000 in
theorem cM_here {a b d w : Int} (ha : I32 a) (hb : I32 b) (hd : I32 d) (hw : I32 w) (hP : PV q) (h : IR q G) : wp_X8_here (MO kc2 (o_here q a b d w) q G) (zI a) (zI b) (zI d) (zI w) G := by
  have hV := hP.1
  have h12 := hV.mk
  have l6 := hV.l6
  unfold wp_X8_here j_X8_here_27
  refine wM_isMark ha hV (by omega) h.M ?_
  by_cases a1 : 0 ≤ a ∧ a < qvR q 1
  case neg => exact br_bf (decide_eq_false a1) (cdN (i := 0) h (o_not a1 rfl) rfl (by decide))
  refine br_bt (decide_eq_true a1) (wM_isHalf hb hV h.M ?_)
  by_cases b1 : 0 ≤ b ∧ b < 2 * qvR q 0
  case neg => exact br_bf (decide_eq_false b1) (cdN (i := 0) h (o_yes a1 (o_not b1 rfl)) rfl (by decide))
  refine br_bt (decide_eq_true b1) ?_
  rw [show (0 : Int32) = zI 0 from rfl, zl3, wM_within ⟨hw, by omega⟩]
  by_cases w1 : 0 ≤ w ∧ w ≤ 3
  case neg => exact br_bf (decide_eq_false w1) (cdN (i := 0) h (o_yes a1 (o_yes b1 (o_not w1 rfl))) rfl (by decide))
  refine br_bt (decide_eq_true w1) ?_
  rw [wM_isDay hd]
  by_cases d1 : 0 ≤ d ∧ d ≤ 9999
  case neg => exact br_bf (decide_eq_false d1) (cdN (i := 1) h (o_yes a1 (o_yes b1 (o_yes w1 (o_not d1 rfl)))) rfl (by decide))
  refine br_bt (decide_eq_true d1) (cd0 h (fun G1 s1 => ?_))
  obtain ⟨m, rfl⟩ := Int.eq_ofNat_of_zero_le a1.1
  obtain ⟨k, rfl⟩ := Int.eq_ofNat_of_zero_le b1.1
  obtain ⟨dy, rfl⟩ := Int.eq_ofNat_of_zero_le d1.1
  obtain ⟨j, rfl⟩ := Int.eq_ofNat_of_zero_le w1.1
  have hm : m < qvR q 1 := by omega
  have dn : ∀ (v : Int) (r : Int32) (G1 : GH), S0 q G G1 → heV (qvR q) m k dy j = v → r = zI v → MO kc2 (o_here q (m : Int) (k : Int) (dy : Int) (j : Int)) q G r G1 := by
    intro v r G1 s hv hr
    exact s.ok (o_yes a1 (o_yes b1 (o_yes w1 (o_yes d1 (by rw [← hv]; rfl))))) hr
  rw [show (0 : Int32) = zI 0 from rfl, zl1, zl2, zI_eq (by omega), zI_eq (by omega), zI_eq (by omega)]
  refine br_c (fun z => ?_) (fun z => ?_)
  · have e : j = 0 := by omega
    subst e
    exact wM_sinceOf hV (by omega) s1.I.M hm (by omega) (by omega) (dn _ _ G1 s1 rfl rfl)
  refine wM_layHalf hV (by omega) s1.I.M s1.I.L (by omega) (by omega) (fun G2 ag2 hH => ?_)
  have s2 := s1.h ag2 (fun _ => hH.1)
  obtain ⟨hL, f7, f24, f23, f25, f26, g24, g22⟩ := hH
  refine br_c (fun z1 => ?_) (fun z1 => br_c (fun z2 => ?_) (fun z2 => ?_))
  · have e : j = 1 := by omega
    subst e
    refine ⟨zI_in (by omega), ?_⟩
    rw [zI_clN (by omega)]
    exact dn _ _ G2 s2 rfl (g22 m hm)
  · have e : j = 2 := by omega
    subst e
    refine ⟨zI_in (by omega), ?_⟩
    rw [zI_clN (by omega)]
    exact dn _ _ G2 s2 rfl (g24 m hm)
  · have e : j = 3 := by omega
    subst e
    have hsl : stl (qvR q) 0 (orS (qvR q) k dy (fun _ => true) (qvR q 1)) < 8192 := stl_lt (fun x hx => by have := (orS_mem.mp hx).1; omega) (by omega)
    rw [f25, wM_has (by omega) (by omega)]
    exact b01 (P := fun r => MO kc2 (o_here q (m : Int) (k : Int) (dy : Int) ((3 : Nat) : Int)) q G r G2) (dn _ _ G2 s2 rfl rfl)
theorem cI_halves {a d w : Int} (ha : I32 a) (hd : I32 d) (hw : I32 w) (h : IC q G) : wp_X7_halves (CO (o_halves q a d w) G) (CQ (o_halves q a d w) q G) (zI a) (zI d) (zI w) G := by
  have hV := h.V
  have hC := h.C
  have h12 := hV.mk
  have l6 := hV.l6
  unfold wp_X7_halves
  refine wI_needMark ha hV (by omega) hC (fun a1 => ?_) (fun a1 => CQ.s h (o_not a1 rfl))
  rw [zl2]
  refine wI_needWhat hw (by unfold I32; omega) (fun w1 => ?_) (fun w1 => CQ.s h (o_yes a1 (o_not w1 rfl)))
  refine wI_needDay hd (fun d1 => ?_) (fun d1 => CQ.s h (o_yes a1 (o_yes w1 (o_not d1 rfl))))
  obtain ⟨m, rfl⟩ := Int.eq_ofNat_of_zero_le a1.1
  obtain ⟨dy, rfl⟩ := Int.eq_ofNat_of_zero_le d1.1
  obtain ⟨j, rfl⟩ := Int.eq_ofNat_of_zero_le w1.1
  have hm : m < qvR q 1 := by omega
  refine wI_likeness h (fun G1 ag h1 k1 k2 k3 => ?_)
  refine wI_groupOf hV (by omega) h1.C hm (fun i hi => (k3 i hi).2) ?_
  refine wI_settleAll hV (by omega) h1.C (by decide) (by decide) (fun i hi => (k3 i hi).2) (by omega) (gp_lt hV (by omega) hm) (gp_clo hV (by omega) hm) (fun G2 ag2 hS => ?_)
  have h5 : ∀ (x : Nat) (_c _j : Nat), x = 5 → x = 5 := fun x c j z => z
  have h2 := h1.f5 ag2 h5
  have e24 : G2 24 = G 24 := (h5o ag2 h5 (by omega)).trans (WLk.o ag (by omega))
  have e25 : G2 25 = G 25 := (h5o ag2 h5 (by omega)).trans (WLk.o ag (by omega))
  obtain ⟨g3, g4, g5⟩ := hS m hm gp_self
  have dn : ∀ r : Int32, r = zI (hvS (qvR q) dy m j : Nat) → CO (o_halves q (m : Int) (dy : Int) (j : Int)) G r G2 := by
    intro r hr
    exact CO.mk (o_yes a1 (o_yes w1 (o_yes d1 rfl))) hr h2 e24 e25
  rw [zl0, zl1, zI_eq (by omega), zI_eq (by omega)]
  refine br_c (fun z => ?_) (fun z => br_c (fun z1 => ?_) (fun z1 => ?_))
  · have e : j = 0 := by omega
    subst e
    refine ⟨zI_in (by omega), dn _ ?_⟩
    rw [zI_clN (by omega), g3, hvS_0]
  · have e : j = 1 := by omega
    subst e
    refine ⟨zI_in (by omega), dn _ ?_⟩
    rw [zI_clN (by omega), g4, hvS_1]
  · have e : j = 2 := by omega
    subst e
    have hlt := bset_lt13 (hoB (qvR q) dy m) (n := 2 * qvR q 0) (by omega)
    unfold wp_X5_refusedHalves
    refine ⟨zI_in (by omega), zI_in (by omega), dn _ ?_⟩
    rw [zI_clN (by omega), g3, g4, zI_difX (by omega), hvS_2 hV hm]
theorem cM_halves {a d w : Int} (ha : I32 a) (hd : I32 d) (hw : I32 w) (hP : PV q) (h : IR q G) : wp_X8_halves (MO kc2 (o_halves q a d w) q G) (zI a) (zI d) (zI w) G := by
  have hV := hP.1
  have h12 := hV.mk
  unfold wp_X8_halves j_X8_halves_18
  refine wM_isMark ha hV (by omega) h.M ?_
  by_cases a1 : 0 ≤ a ∧ a < qvR q 1
  case neg => exact br_bf (decide_eq_false a1) (cdN (i := 0) h (o_not a1 rfl) rfl (by decide))
  refine br_bt (decide_eq_true a1) ?_
  rw [show (0 : Int32) = zI 0 from rfl, zl2, wM_within ⟨hw, by omega⟩]
  by_cases w1 : 0 ≤ w ∧ w ≤ 2
  case neg => exact br_bf (decide_eq_false w1) (cdN (i := 0) h (o_yes a1 (o_not w1 rfl)) rfl (by decide))
  refine br_bt (decide_eq_true w1) ?_
  rw [wM_isDay hd]
  by_cases d1 : 0 ≤ d ∧ d ≤ 9999
  case neg => exact br_bf (decide_eq_false d1) (cdN (i := 1) h (o_yes a1 (o_yes w1 (o_not d1 rfl))) rfl (by decide))
  refine br_bt (decide_eq_true d1) (cd0 h (fun G1 s1 => ?_))
  obtain ⟨m, rfl⟩ := Int.eq_ofNat_of_zero_le a1.1
  obtain ⟨dy, rfl⟩ := Int.eq_ofNat_of_zero_le d1.1
  obtain ⟨j, rfl⟩ := Int.eq_ofNat_of_zero_le w1.1
  exact wM_halvesOf hV (by omega) s1.I.M s1.I.L (by omega) (by omega) (by omega) (fun G2 ag2 hL => (s1.h ag2 hL).ok (o_yes a1 (o_yes w1 (o_yes d1 rfl))) rfl)
theorem cI_holders {b d : Int} (hb : I32 b) (hd : I32 d) (h : IC q G) : wp_X7_holders (CO (o_holders q b d) G) (CQ (o_holders q b d) q G) (zI b) (zI d) G := by
  have hV := h.V
  have hC := h.C
  have h12 := hV.mk
  have l6 := hV.l6
  unfold wp_X7_holders
  refine wI_needHalf hb hV hC (fun b1 => ?_) (fun b1 => CQ.s h (o_not b1 rfl))
  refine wI_needDay hd (fun d1 => ?_) (fun d1 => CQ.s h (o_yes b1 (o_not d1 rfl)))
  obtain ⟨k, rfl⟩ := Int.eq_ofNat_of_zero_le b1.1
  obtain ⟨dy, rfl⟩ := Int.eq_ofNat_of_zero_le d1.1
  rw [wI_allMarks hC (hV.to13)]
  refine wI_rank hV (by omega) hC (by decide) (by omega) (by omega) (pw13 (by omega)) (fun G0 ag0 hr => ?_)
  have h50 : ∀ x c j, WK k x c j → x = 5 := fun x c j z => z.1
  refine wI_likeness (h.f5 ag0 h50) (fun G1 ag h1 k1 k2 k3 => ?_)
  refine wI_settle hV (by omega) h1.C (by decide) (by decide) (fun i hi => (k3 i hi).2) (by omega) (by rw [WLk.o ag (by omega)]; exact hr) (Nat.le_trans (orS_len _ _ _ _ _) (by omega)) orS_lt (orS_nodup _) (fun G2 ag2 g7 g2 => ?_)
  have h5 : ∀ x c j, WSt x c j → x = 5 := fun x c j z => z.1
  refine CO.mk (o_yes b1 (o_yes d1 rfl)) ?_ (h1.f5 ag2 h5) ((h5o ag2 h5 (by omega)).trans ((WLk.o ag (by omega)).trans (h5o ag0 h50 (by omega)))) ((h5o ag2 h5 (by omega)).trans ((WLk.o ag (by omega)).trans (h5o ag0 h50 (by omega))))
  rw [g7, orS_all]
  rfl
theorem cM_holders {b d : Int} (hb : I32 b) (hd : I32 d) (hP : PV q) (h : IR q G) : wp_X8_holders (MO kc2 (o_holders q b d) q G) (zI b) (zI d) G := by
  have hV := hP.1
  have h12 := hV.mk
  have l6 := hV.l6
  unfold wp_X8_holders
  refine wM_isHalf hb hV h.M ?_
  by_cases b1 : 0 ≤ b ∧ b < 2 * qvR q 0
  case neg => exact br_bf (decide_eq_false b1) (cdN (i := 0) h (o_not b1 rfl) rfl (by decide))
  refine br_bt (decide_eq_true b1) ?_
  rw [wM_isDay hd]
  by_cases d1 : 0 ≤ d ∧ d ≤ 9999
  case neg => exact br_bf (decide_eq_false d1) (cdN (i := 1) h (o_yes b1 (o_not d1 rfl)) rfl (by decide))
  refine br_bt (decide_eq_true d1) (cd0 h (fun G1 s1 => ?_))
  obtain ⟨k, rfl⟩ := Int.eq_ofNat_of_zero_le b1.1
  obtain ⟨dy, rfl⟩ := Int.eq_ofNat_of_zero_le d1.1
  exact wM_layHalf hV (by omega) s1.I.M s1.I.L (by omega) (by omega) (fun G2 ag2 hH => (s1.h ag2 (fun _ => hH.1)).ok (o_yes b1 (o_yes d1 rfl)) hH.2.2.2.2.1)
theorem cI_ranked {b d p : Int} (hb : I32 b) (hd : I32 d) (hp : I32 p) (h : IC q G) : wp_X7_ranked (CO (o_ranked q b d p) G) (CQ (o_ranked q b d p) q G) (zI b) (zI d) (zI p) G := by
  have hV := h.V
  have hC := h.C
  have h12 := hV.mk
  have l6 := hV.l6
  unfold wp_X7_ranked j_X7_ranked_46
  refine wI_needHalf hb hV hC (fun b1 => ?_) (fun b1 => CQ.s h (o_not b1 rfl))
  refine wI_needDay hd (fun d1 => ?_) (fun d1 => CQ.s h (o_yes b1 (o_not d1 rfl)))
  obtain ⟨k, rfl⟩ := Int.eq_ofNat_of_zero_le b1.1
  obtain ⟨dy, rfl⟩ := Int.eq_ofNat_of_zero_le d1.1
  rw [wI_allMarks hC (hV.to13)]
  refine wI_rank hV (by omega) hC (by decide) (by omega) (by omega) (pw13 (by omega)) (fun G2 ag2 hr => ?_)
  have h5 : ∀ x c j, WK k x c j → x = 5 := fun x c j z => z.1
  have h2 := h.f5 ag2 h5
  have e24 : G2 24 = G 24 := h5o ag2 h5 (by omega)
  have e25 : G2 25 = G 25 := h5o ag2 h5 (by omega)
  rw [orS_all] at hr
  have hl : (orL (qvR q) k dy).length ≤ qvR q 1 := orS_len ..
  have no : ¬ (0 ≤ p ∧ p < (orL (qvR q) k dy).length) → CQ (o_ranked q (k : Int) (dy : Int) p) q G 0 G2 := fun z => ⟨o_yes b1 (o_yes d1 (o_not z rfl)), h2, e24, e25⟩
  unfold I32 at hp
  rw [zl0, zI_lt (by omega)]
  refine br_c (fun z => no (by omega)) (fun z => ⟨zI_in (by omega), ?_⟩)
  rw [zI_clN (n := k) (by omega), hr.1, zI_lt (by omega)]
  refine br_c (fun z1 => ?_) (fun z1 => no (by omega))
  have p1 : 0 ≤ p ∧ p < (orL (qvR q) k dy).length := by omega
  obtain ⟨j, rfl⟩ := Int.eq_ofNat_of_zero_le p1.1
  refine wI_inOrder (by omega) (by omega) hr (by omega) ?_
  exact CO.mk (o_yes b1 (o_yes d1 (o_yes p1 rfl))) rfl h2 e24 e25
theorem cM_ranked {b d p : Int} (hb : I32 b) (hd : I32 d) (hp : I32 p) (hP : PV q) (h : IR q G) : wp_X8_ranked (MO kc2 (o_ranked q b d p) q G) (zI b) (zI d) (zI p) G := by
  have hV := hP.1
  have h12 := hV.mk
  have l6 := hV.l6
  unfold wp_X8_ranked
  refine wM_isHalf hb hV h.M ?_
  by_cases b1 : 0 ≤ b ∧ b < 2 * qvR q 0
  case neg => exact br_bf (decide_eq_false b1) (cdN (i := 0) h (o_not b1 rfl) rfl (by decide))
  refine br_bt (decide_eq_true b1) ?_
  rw [wM_isDay hd]
  by_cases d1 : 0 ≤ d ∧ d ≤ 9999
  case neg => exact br_bf (decide_eq_false d1) (cdN (i := 1) h (o_yes b1 (o_not d1 rfl)) rfl (by decide))
  refine br_bt (decide_eq_true d1) (cd0 h (fun G1 s1 => ?_))
  obtain ⟨k, rfl⟩ := Int.eq_ofNat_of_zero_le b1.1
  obtain ⟨dy, rfl⟩ := Int.eq_ofNat_of_zero_le d1.1
  refine wM_layHalf hV (by omega) s1.I.M s1.I.L (by omega) (by omega) (fun G2 ag2 hH => ?_)
  have s2 := s1.h ag2 (fun _ => hH.1)
  obtain ⟨hL, f7, f24, f23, f25, f26, g24, g22⟩ := hH
  have hl : (orL (qvR q) k dy).length ≤ qvR q 1 := orS_len ..
  have f24' : G2 24 0 24 = zI (orL (qvR q) k dy).length := f24
  rw [f24', show (0 : Int32) = zI 0 from rfl, zl1, zI_sub, wM_within ⟨hp, by omega⟩]
  by_cases p1 : 0 ≤ p ∧ p < (orL (qvR q) k dy).length
  case neg => exact br_bf (decide_eq_false (by omega)) (s2.f (i := 0) (o_yes b1 (o_yes d1 (o_not p1 rfl))) rfl)
  refine br_bt (decide_eq_true (by omega)) ⟨zI_in (by omega), ?_⟩
  obtain ⟨j, rfl⟩ := Int.eq_ofNat_of_zero_le p1.1
  refine s2.ok (o_yes b1 (o_yes d1 (o_yes p1 rfl))) ?_
  rw [zI_clN (by omega)]
  exact f23 j (by have : j < (orL (qvR q) k dy).length := by omega
                  exact this)
end
