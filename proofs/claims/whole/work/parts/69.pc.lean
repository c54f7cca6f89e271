/-! two, steps, group, here, halves, holders, ranked -/
def twV (R : RR) (a b : Nat) : Nat → Int
  | 0 => lkL R a b
  | 1 => lkS R a b
  | 2 => nmS R a b
  | 3 => apS R a b
  | 4 => (nrB R a b).toNat
  | 5 => ((alS R a).testBit b).toNat
  | _ => ((qq R a 50).testBit b).toNat
def o_two (q : Par) (a b w : Int) : Oc := if (0 ≤ a ∧ a < qvR q 1) ∧ (0 ≤ b ∧ b < qvR q 1) ∧ a ≠ b then (if 0 ≤ w ∧ w ≤ 6 then .inr (twV (qvR q) a.toNat b.toNat w.toNat, q) else .inl 0) else .inl 0
def o_steps (q : Par) (a b : Int) : Oc := if 0 ≤ a ∧ a ≤ 9 then (if 0 ≤ b ∧ b ≤ 9 then .inr (stp (qvR q) (2 ^ a.toNat) (2 ^ b.toNat), q) else .inl 0) else .inl 0
def o_group (q : Par) (a : Int) : Oc := if 0 ≤ a ∧ a < qvR q 1 then .inr ((gpS (qvR q) a.toNat : Int), q) else .inl 0
def heV (R : RR) (m h d : Nat) : Nat → Int
  | 0 => snc R m h d
  | 1 => pri R m h d
  | 2 => rfI R d m h
  | _ => (hoB R d m h).toNat
def o_here (q : Par) (a b d w : Int) : Oc := if 0 ≤ a ∧ a < qvR q 1 then (if 0 ≤ b ∧ b < 2 * qvR q 0 then (if 0 ≤ w ∧ w ≤ 3 then (if 0 ≤ d ∧ d ≤ 9999 then .inr (heV (qvR q) a.toNat b.toNat d.toNat w.toNat, q) else .inl 1) else .inl 0) else .inl 0) else .inl 0
def o_halves (q : Par) (a d w : Int) : Oc := if 0 ≤ a ∧ a < qvR q 1 then (if 0 ≤ w ∧ w ≤ 2 then (if 0 ≤ d ∧ d ≤ 9999 then .inr ((hvS (qvR q) d.toNat a.toNat w.toNat : Int), q) else .inl 1) else .inl 0) else .inl 0
def o_holders (q : Par) (b d : Int) : Oc := if 0 ≤ b ∧ b < 2 * qvR q 0 then (if 0 ≤ d ∧ d ≤ 9999 then .inr ((stl (qvR q) 0 (orL (qvR q) b.toNat d.toNat) : Int), q) else .inl 1) else .inl 0
def o_ranked (q : Par) (b d p : Int) : Oc := if 0 ≤ b ∧ b < 2 * qvR q 0 then (if 0 ≤ d ∧ d ≤ 9999 then (if 0 ≤ p ∧ p < (orL (qvR q) b.toNat d.toNat).length then .inr (((orL (qvR q) b.toNat d.toNat).getD p.toNat 0 : Nat), q) else .inl 0) else .inl 1) else .inl 0
section
variable {q : Par} {G : GH}
theorem wI_pr {post : Int32 → GH → Prop} {a b : Nat} (h : post (zI ((13 * a + b : Nat) : Int)) G) : wp_X1_pair post (zI a) (zI b) G := by
  unfold wp_X1_pair
  rw [zl13, zI_mul, zI_add, show (a : Int) * 13 + (b : Int) = ((13 * a + b : Nat) : Int) by omega]
  exact h
theorem bN {b : Bool} : bI b = zI (b.toNat : Int) := by cases b <;> rfl
theorem b01 {b : Bool} {P : Int32 → Prop} (h : P (zI (b.toNat : Int))) : (b = false → P 0) ∧ (b = true → P 1) := by
  cases b
  · exact br_bf rfl h
  · exact br_bt rfl h
set_option maxHeartbeats 1000000 in
theorem cI_two {a b w : Int} (ha : I32 a) (hb : I32 b) (hw : I32 w) (h : IC q G) : wp_X7_two (CO (o_two q a b w) G) (CQ (o_two q a b w) q G) (zI a) (zI b) (zI w) G := by
  have hV := h.V
  have hC := h.C
  have h12 := hV.mk
  unfold wp_X7_two
  refine wI_needCouple ha hb hV (by omega) hC (fun c1 => ?_) (fun c1 => CQ.s h (o_not c1 rfl))
  rw [zl6]
  refine wI_needWhat hw (by unfold I32; omega) (fun w1 => ?_) (fun w1 => CQ.s h (o_yes c1 (o_not w1 rfl)))
  refine wI_likeness h (fun G1 ag h1 k1 k2 k3 => ?_)
  obtain ⟨m, rfl⟩ := Int.eq_ofNat_of_zero_le c1.1.1
  obtain ⟨k, rfl⟩ := Int.eq_ofNat_of_zero_le c1.2.1.1
  have hm : m < qvR q 1 := by omega
  have hk : k < qvR q 1 := by omega
  have hne : m ≠ k := fun z => c1.2.2 (by rw [z])
  have hN := k1.2 m k hm hk hne
  have hcn := hV.cn hm
  have hal := alS_lt hV (by omega) m hm
  have dn : ∀ (j : Nat) (v : Int) (r : Int32), w = (j : Int) → twV (qvR q) m k j = v → r = zI v → CO (o_two q (m : Int) (k : Int) w) G r G1 := by
    intro j v r e hv hr
    subst e
    exact CO.mk (o_yes c1 (o_yes w1 (by rw [← hv]; rfl))) hr h1 (WLk.o ag (by omega)) (WLk.o ag (by omega))
  refine ⟨fun z => ?_, fun z => ?_, fun z => ?_, fun z => ?_, fun z => ?_, fun z => ?_, fun z => ?_⟩
  · rw [zI_toInt hw] at z
    refine ⟨zI_in (by omega), ?_⟩
    rw [zI_clN (by omega), h1.C.cn hm, zI_tb (by omega) (by omega)]
    exact dn 6 _ _ (by omega) rfl rfl
  · refine wI_pr ⟨zI_in (by omega), ?_⟩
    rw [zI_clN (by omega)]
    exact dn 0 _ _ (swk (k := 0) hw (by unfold I32; omega) z) rfl hN.1
  · refine wI_pr ⟨zI_in (by omega), ?_⟩
    rw [zI_clN (by omega)]
    exact dn 1 _ _ (swk (k := 1) hw (by unfold I32; omega) z) rfl hN.2
  · exact wI_ofNames hV h1.C (by omega) (by omega) hN.1 hN.2 (dn 2 _ _ (swk (k := 2) hw (by unfold I32; omega) z) rfl rfl)
  · refine wI_pr ⟨zI_in (by omega), ?_⟩
    rw [zI_clN (by omega)]
    exact dn 3 _ _ (swk (k := 3) hw (by unfold I32; omega) z) rfl (k2 m k hm hk)
  · exact wI_isNear hV h1.C (by omega) (by omega) (k2 m k hm hk) (b01 (P := fun r => CO (o_two q (m : Int) (k : Int) w) G r G1) (dn 4 _ _ (swk (k := 4) hw (by unfold I32; omega) z) rfl rfl))
  · refine ⟨zI_in (by omega), ?_⟩
    rw [zI_clN (by omega), (k3 m hm).2, zI_tb (by omega) (by omega)]
    exact dn 5 _ _ (swk (k := 5) hw (by unfold I32; omega) z) rfl rfl
set_option maxHeartbeats 1000000 in
theorem cM_two {a b w : Int} (ha : I32 a) (hb : I32 b) (hw : I32 w) (hP : PV q) (h : IR q G) : wp_X8_two (MO kc2 (o_two q a b w) q G) (zI a) (zI b) (zI w) G := by
  have hV := hP.1
  have h12 := hV.mk
  unfold wp_X8_two
  intro G1 e1
  have s1 := S0.st h e1
  unfold j_X8_two_24
  refine wM_areTwoMarks ha hb hV (by omega) s1.I.M ?_
  by_cases c1 : (0 ≤ a ∧ a < qvR q 1) ∧ (0 ≤ b ∧ b < qvR q 1) ∧ a ≠ b
  case neg => exact br_bf (decide_eq_false c1) (s1.f (i := 0) (o_not c1 rfl) rfl)
  refine br_bt (decide_eq_true c1) ?_
  rw [show (0 : Int32) = zI 0 from rfl, zl6, wM_within ⟨hw, by omega⟩]
  by_cases w1 : 0 ≤ w ∧ w ≤ 6
  case neg => exact br_bf (decide_eq_false w1) (s1.f (i := 0) (o_yes c1 (o_not w1 rfl)) rfl)
  refine br_bt (decide_eq_true w1) ?_
  refine wM_lay (n := 12) hV (by omega) s1.I.M s1.I.L (fun G2 ag2 hL2 h72 => ?_)
  have s2 := s1.l ag2 hL2
  have hM := s2.I.M
  obtain ⟨m, rfl⟩ := Int.eq_ofNat_of_zero_le c1.1.1
  obtain ⟨k, rfl⟩ := Int.eq_ofNat_of_zero_le c1.2.1.1
  have hm : m < qvR q 1 := by omega
  have hk : k < qvR q 1 := by omega
  have hT := hL2.2.1 m k hm hk
  have hcn := hV.cn hm
  have hal := alS_lt hV (by omega) m hm
  intro y ey
  rw [zl13, zI_mul, zI_add, show (13 : Int) * (m : Int) + (k : Int) = ((13 * m + k : Nat) : Int) by omega] at ey
  subst ey
  have dn : ∀ (j : Nat) (v : Int) (r : Int32), w = (j : Int) → twV (qvR q) m k j = v → r = zI v → MO kc2 (o_two q (m : Int) (k : Int) w) q G r G2 := by
    intro j v r e hv hr
    subst e
    exact s2.ok (o_yes c1 (o_yes w1 (by rw [← hv]; rfl))) hr
  refine ⟨fun z => ?_, fun z => ?_, fun z => ?_, fun z => ?_, fun z => ?_, fun z => ?_, fun z => ?_⟩
  · rw [zI_toInt hw] at z
    refine wM_of1 hM m 50 rfl rfl (by omega) (by omega) ?_
    rw [wM_has (by omega) (by omega)]
    exact b01 (P := fun r => MO kc2 (o_two q (m : Int) (k : Int) w) q G r G2) (dn 6 _ _ (by omega) rfl rfl)
  · refine ⟨zI_in (by omega), ?_⟩
    rw [zI_clN (by omega)]
    exact dn 0 _ _ (swk (k := 0) hw (by unfold I32; omega) z) rfl hT.1
  · refine ⟨zI_in (by omega), ?_⟩
    rw [zI_clN (by omega)]
    exact dn 1 _ _ (swk (k := 1) hw (by unfold I32; omega) z) rfl hT.2.1
  · refine ⟨zI_in (by omega), ?_⟩
    rw [zI_clN (by omega)]
    exact dn 2 _ _ (swk (k := 2) hw (by unfold I32; omega) z) rfl hT.2.2.1
  · refine ⟨zI_in (by omega), ?_⟩
    rw [zI_clN (by omega)]
    exact dn 3 _ _ (swk (k := 3) hw (by unfold I32; omega) z) rfl hT.2.2.2
  · exact wM_areNear hV hM (by omega) (by omega) hT.2.2.2 (b01 (P := fun r => MO kc2 (o_two q (m : Int) (k : Int) w) q G r G2) (dn 4 _ _ (swk (k := 4) hw (by unfold I32; omega) z) rfl rfl))
  · refine ⟨zI_in (by omega), ?_⟩
    rw [zI_clN (n := m) (by omega), (hL2.2.2 m hm).2.2, wM_has (by omega) (by omega)]
    exact b01 (P := fun r => MO kc2 (o_two q (m : Int) (k : Int) w) q G r G2) (dn 5 _ _ (swk (k := 5) hw (by unfold I32; omega) z) rfl rfl)
theorem wI_isCl {post : Bool → GH → Prop} {a : Int} (ha : I32 a) (hp : post (decide (0 ≤ a ∧ a ≤ 9)) G) : wp_X7_isClass post (zI a) G := by
  unfold I32 at ha
  unfold wp_X7_isClass
  rw [zl0, zl10, zI_lt (by omega), zI_le (by omega)]
  refine br_c (fun w => ?_) (fun w => br_c (fun z => ?_) (fun z => ?_))
  · rw [decide_eq_false (by omega)] at hp
    exact hp
  · rw [decide_eq_false (by omega)] at hp
    exact hp
  · rw [decide_eq_true (by omega)] at hp
    exact hp
theorem cI_steps {a b : Int} (ha : I32 a) (hb : I32 b) (h : IC q G) : wp_X7_steps (CO (o_steps q a b) G) (CQ (o_steps q a b) q G) (zI a) (zI b) G := by
  unfold wp_X7_steps j_X7_steps_14
  refine wI_isCl ha ?_
  by_cases a1 : 0 ≤ a ∧ a ≤ 9
  case neg => exact br_bf (decide_eq_false a1) (CQ.s h (o_not a1 rfl))
  refine br_bt (decide_eq_true a1) (wI_isCl hb ?_)
  by_cases b1 : 0 ≤ b ∧ b ≤ 9
  case neg => exact br_bf (decide_eq_false b1) (CQ.s h (o_yes a1 (o_not b1 rfl)))
  refine br_bt (decide_eq_true b1) ?_
  obtain ⟨m, rfl⟩ := Int.eq_ofNat_of_zero_le a1.1
  obtain ⟨k, rfl⟩ := Int.eq_ofNat_of_zero_le b1.1
  have p1 : 2 ^ m < 2 ^ 10 := Nat.pow_lt_pow_right (by decide) (by omega)
  have p2 : 2 ^ k < 2 ^ 10 := Nat.pow_lt_pow_right (by decide) (by omega)
  rw [zI_bit (by omega), zI_bit (by omega)]
  exact wI_stepsApart h.V h.C p1 p2 (CO.s h (o_yes a1 (o_yes b1 rfl)) rfl)
theorem cM_steps {a b : Int} (ha : I32 a) (hb : I32 b) (hP : PV q) (h : IR q G) : wp_X8_steps (MO kc2 (o_steps q a b) q G) (zI a) (zI b) G := by
  have hV := hP.1
  unfold wp_X8_steps
  intro G1 e1
  have s1 := S0.st h e1
  unfold j_X8_steps_19
  refine wM_isClass ha ?_
  by_cases a1 : 0 ≤ a ∧ a ≤ 9
  case neg => exact br_bf (decide_eq_false a1) (s1.f (i := 0) (o_not a1 rfl) rfl)
  refine br_bt (decide_eq_true a1) (wM_isClass hb ?_)
  by_cases b1 : 0 ≤ b ∧ b ≤ 9
  case neg => exact br_bf (decide_eq_false b1) (s1.f (i := 0) (o_yes a1 (o_not b1 rfl)) rfl)
  refine br_bt (decide_eq_true b1) ?_
  obtain ⟨m, rfl⟩ := Int.eq_ofNat_of_zero_le a1.1
  obtain ⟨k, rfl⟩ := Int.eq_ofNat_of_zero_le b1.1
  have p1 : 2 ^ m < 2 ^ 10 := Nat.pow_lt_pow_right (by decide) (by omega)
  rw [zI_bit (by omega)]
  refine wM_layStepsFrom hV s1.I.M p1 (fun g hg => ?_)
  have s2 : S0 q G (gs G1 24 21 g) := by
    refine s1.h (fun x c j z => ?_) (fun z => ?_)
    · by_cases e : x = 24 ∧ c = 21
      · exact absurd (show WH x c j by unfold WH; omega) z
      · rw [gs_ne (by omega)]
    · rw [gs_ne (by omega)] at z
      have hL := s1.I.L z
      unfold LT HS at hL ⊢
      simp only [gs_ne (show ¬ ((24 : Nat) = 24 ∧ (9 : Nat) = 21) by omega), gs_ne (show ¬ ((24 : Nat) = 24 ∧ (10 : Nat) = 21) by omega), gs_ne (show ¬ ((24 : Nat) = 24 ∧ (14 : Nat) = 21) by omega), gs_ne (show ¬ ((24 : Nat) = 24 ∧ (15 : Nat) = 21) by omega), gs_ne (show ¬ ((24 : Nat) = 24 ∧ (16 : Nat) = 21) by omega), gs_ne (show ¬ ((24 : Nat) = 24 ∧ (17 : Nat) = 21) by omega), gs_ne (show ¬ ((24 : Nat) = 24 ∧ (18 : Nat) = 21) by omega), gs_ne (show ¬ ((24 : Nat) = 24 ∧ (19 : Nat) = 21) by omega), gs_ne (show ¬ ((24 : Nat) = 24 ∧ (20 : Nat) = 21) by omega)]
      exact hL
  have hr := rc_lt10 hV p1 9
  rw [wM_has (by omega) (by omega)]
  by_cases z : (rc (nei (qvR q)) 10 (2 ^ m) 9).testBit k = true
  · refine br_bt z ⟨zI_in (by omega), ?_⟩
    rw [gs_eq, zI_clN (by omega), hg k (by omega)]
    exact s2.ok (o_yes a1 (o_yes b1 rfl)) rfl
  · refine br_bf (Bool.eq_false_iff.mpr z) (s2.ok (o_yes a1 (o_yes b1 rfl)) ?_)
    show (-1 : Int32) = zI (stp (qvR q) (2 ^ m) (2 ^ k))
    unfold stp
    rw [fsn_no 10 (fun t ht y => z (rc_le (by omega) (mee_1.mp y)))]
    rfl
theorem cI_group {a : Int} (ha : I32 a) (h : IC q G) : wp_X7_group (CO (o_group q a) G) (CQ (o_group q a) q G) (zI a) G := by
  have hV := h.V
  have h12 := hV.mk
  unfold wp_X7_group
  refine wI_needMark ha hV (by omega) h.C (fun a1 => ?_) (fun a1 => CQ.s h (o_not a1 rfl))
  obtain ⟨m, rfl⟩ := Int.eq_ofNat_of_zero_le a1.1
  refine wI_likeness h (fun G1 ag h1 k1 k2 k3 => ?_)
  exact wI_groupOf hV (by omega) h1.C (by omega) (fun i hi => (k3 i hi).2) (CO.mk (o_yes a1 rfl) rfl h1 (WLk.o ag (by omega)) (WLk.o ag (by omega)))
theorem cM_group {a : Int} (ha : I32 a) (hP : PV q) (h : IR q G) : wp_X8_group (MO kc2 (o_group q a) q G) (zI a) G := by
  have hV := hP.1
  have h12 := hV.mk
  unfold wp_X8_group
  intro G1 e1
  have s1 := S0.st h e1
  refine wM_isMark ha hV (by omega) s1.I.M ?_
  by_cases a1 : 0 ≤ a ∧ a < qvR q 1
  case neg => exact br_bf (decide_eq_false a1) (s1.f (i := 0) (o_not a1 rfl) rfl)
  refine br_bt (decide_eq_true a1) ?_
  obtain ⟨m, rfl⟩ := Int.eq_ofNat_of_zero_le a1.1
  refine wM_lay (n := 12) hV (by omega) s1.I.M s1.I.L (fun G2 ag2 hL2 h72 => ?_)
  have s2 := s1.l ag2 hL2
  intro y ey
  rw [zI_bit (by omega)] at ey
  subst ey
  exact wM_groupL hV (by omega) s2.I.M (by omega) (fun i hi => (hL2.2.2 i hi).2.2) (s2.ok (o_yes a1 rfl) rfl)
end
