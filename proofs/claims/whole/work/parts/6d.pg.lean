/-! ===== marks refused everywhere ===== -/
def rdB (R : RR) (d m : Nat) : Bool := decide (bset (enB R d m) (2 * R 0) ≠ 0) && decide (bset (hoB R d m) (2 * R 0) = 0)
def elI (R : RR) (p : Nat → Bool) : Nat → Int
  | 0 => -1
  | k + 1 => if p k then (if elI R p k = -1 then (k : Int) else if qq R k 12 < qq R (elI R p k).toNat 12 then (k : Int) else elI R p k) else elI R p k
theorem elI_rg (R : RR) (p : Nat → Bool) : ∀ k, -1 ≤ elI R p k ∧ elI R p k < k
  | 0 => by unfold elI; omega
  | k + 1 => by
    have := elI_rg R p k
    unfold elI
    split
    · split
      · omega
      · split <;> omega
    · omega
def o_refused (q : Par) (d w : Int) : Oc := if 0 ≤ w ∧ w ≤ 1 then (if 0 ≤ d ∧ d ≤ 9999 then .inr (if w = 0 then (bset (rdB (qvR q) d.toNat) (qvR q 1) : Int) else elI (qvR q) (rdB (qvR q) d.toNat) (qvR q 1), q) else .inl 1) else .inl 0
section
variable {q : Par} {G : GH}
set_option maxHeartbeats 1000000 in
theorem cI_refused {d w : Int} (hd : I32 d) (hw : I32 w) (h : IC q G) : wp_X7_refused (CO (o_refused q d w) G) (CQ (o_refused q d w) q G) (zI d) (zI w) G := by
  have hV := h.V
  have h12 := hV.mk
  have l6 := hV.l6
  unfold wp_X7_refused
  rw [zl1]
  refine wI_needWhat hw (by unfold I32; omega) (fun w1 => ?_) (fun w1 => CQ.s h (o_not w1 rfl))
  refine wI_needDay hd (fun d1 => ?_) (fun d1 => CQ.s h (o_yes w1 (o_not d1 rfl)))
  obtain ⟨dy, rfl⟩ := Int.eq_ofNat_of_zero_le d1.1
  refine wI_likeness h (fun G1 ag h1 k1 k2 k3 => ?_)
  rw [wI_allMarks h1.C (hV.to13)]
  refine wI_settleAll hV (by omega) h1.C (by decide) (by decide) (fun i hi => (k3 i hi).2) (by omega) (pw13 (by omega)) (all_clo _) (fun G2 ag2 hS => ?_)
  have h5 : ∀ (x : Nat) (_c _j : Nat), x = 5 → x = 5 := fun x c j z => z
  have h2 := h1.f5 ag2 h5
  have e24 : G2 24 = G 24 := (h5o ag2 h5 (by omega)).trans (WLk.o ag (by omega))
  have e25 : G2 25 = G 25 := (h5o ag2 h5 (by omega)).trans (WLk.o ag (by omega))
  intro P K
  have main : ∀ g k : Nat, k + g = qvR q 1 → P (zI w) (zI (bset (rdB (qvR q) dy) k)) (zI (elI (qvR q) (rdB (qvR q) dy) k)) (zI k) G2 := by
    intro g
    induction g with
    | zero =>
      intro k hk
      have : k = qvR q 1 := by omega
      subst this
      refine K _ _ _ _ _ ?_
      unfold lb_X7_refused_40
      rw [h2.C.mk]
      refine br_t (by rw [zI_le (by omega)]; omega) ?_
      rw [zl0, zI_eq ⟨hw, by omega⟩]
      refine br_c (fun z => ?_) (fun z => ?_)
      · refine CO.mk (o_yes w1 (o_yes d1 ?_)) rfl h2 e24 e25
        rw [if_pos z]
        rfl
      · refine CO.mk (o_yes w1 (o_yes d1 ?_)) rfl h2 e24 e25
        rw [if_neg z]
        rfl
    | succ g ih =>
      intro k hk
      have hk1 : k < qvR q 1 := by omega
      have er := elI_rg (qvR q) (rdB (qvR q) dy) k
      obtain ⟨g3, g4, g5⟩ := hS k hk1 (all_tb hk1)
      have b3 := bset_lt13 (enB (qvR q) dy k) (n := 2 * qvR q 0) (by omega)
      have b4 := bset_lt13 (hoB (qvR q) dy k) (n := 2 * qvR q 0) (by omega)
      have e := ih (k + 1) (by omega)
      rw [bset_s] at e
      have nx : rdB (qvR q) dy k = false → P (zI w) (zI (bset (rdB (qvR q) dy) k)) (zI (elI (qvR q) (rdB (qvR q) dy) k)) (zI (k : Int) + zI 1) G2 := fun z => by
        rw [show zI (k : Int) + zI 1 = zI ((k + 1 : Nat) : Int) from zI_add _ 1]
        unfold elI at e
        rw [if_neg (by rw [z]; decide), if_neg (by rw [z]; decide), Nat.or_zero] at e
        exact e
      refine K _ _ _ _ _ ?_
      unfold lb_X7_refused_40
      rw [h2.C.mk]
      refine br_f (by rw [zI_le (by omega)]; omega) ⟨zI_in (by omega), ?_⟩
      rw [zI_clN (n := k) (by omega), g3, g4, zl0, zI_eq (by omega), zI_eq (by omega)]
      refine br_c (fun z => nx ?_) (fun z => ⟨zI_in (by omega), br_c (fun z1 => ?_) (fun z1 => nx ?_)⟩)
      · unfold rdB
        rw [decide_eq_false (by omega), Bool.false_and]
      · intro y ey
        have hrd : rdB (qvR q) dy k = true := by
          unfold rdB
          rw [decide_eq_true (by omega), decide_eq_true (by omega)]
          rfl
        rw [show zI (k : Int) + (1 : Int32) = zI ((k + 1 : Nat) : Int) from zI_add _ 1]
        rw [zI_bit (by omega), zI_or] at ey
        subst ey
        unfold elI at e
        rw [if_pos hrd, if_pos hrd] at e
        rw [show (-1 : Int32) = zI (-1) from rfl, zI_eq (by omega)]
        refine br_c (fun z2 => ?_) (fun z2 => ⟨zI_in (by omega), zI_in (by omega), ?_⟩)
        · rw [if_pos z2] at e
          exact e
        · have hE : (elI (qvR q) (rdB (qvR q) dy) k).toNat < qvR q 1 := by omega
          have f1 := hV.fl hk1
          have f2 := hV.fl hE
          rw [if_neg z2] at e
          rw [zI_cl (by omega), h2.C.fl hE, h2.C.fl hk1, zI_le (by omega)]
          refine br_c (fun z3 => ?_) (fun z3 => ?_)
          · rw [if_neg (by omega)] at e
            exact e
          · rw [if_pos (by omega)] at e
            exact e
      · unfold rdB
        rw [decide_eq_false (show ¬ bset (hoB (qvR q) dy k) (2 * qvR q 0) = 0 by omega), Bool.and_false]
  exact main (qvR q 1) 0 (by omega)
theorem wM_refusedOf {post : Int32 → GH → Prop} {dy : Nat} {G1 : GH} (hV : VR 12 (qvR q)) (s1 : S0 q G G1) (hd : dy ≤ 9999) (hp : ∀ G2, S0 q G G2 → post (zI (bset (rdB (qvR q) dy) (qvR q 1))) G2) : wp_X8_refusedOf post (zI dy) G1 := by
  have h12 := hV.mk
  unfold wp_X8_refusedOf
  intro P K
  have main : ∀ g k : Nat, k + g = qvR q 1 → ∀ G2, S0 q G G2 → P (zI dy) (zI (bset (rdB (qvR q) dy) k)) (zI k) G2 := by
    intro g
    induction g with
    | zero =>
      intro k hk G2 s2
      have : k = qvR q 1 := by omega
      subst this
      refine K _ _ _ _ ?_
      unfold lb_X8_refusedOf_4
      rw [wM_marks s2.I.M]
      exact br_t (by rw [zI_le (by omega)]; omega) (hp G2 s2)
    | succ g ih =>
      intro k hk G2 s2
      refine K _ _ _ _ ?_
      unfold lb_X8_refusedOf_4
      rw [wM_marks s2.I.M]
      refine br_f (by rw [zI_le (by omega)]; omega) ?_
      have b3 := hvS_lt (R := qvR q) (d := dy) (m := k) (w := 0) hV
      have b4 := hvS_lt (R := qvR q) (d := dy) (m := k) (w := 1) hV
      have e1 : zI (k : Int) + (1 : Int32) = zI ((k + 1 : Nat) : Int) := zI_add _ 1
      rw [e1]
      have e := ih (k + 1) (by omega)
      rw [bset_s] at e
      refine wM_halvesOf (what := 0) hV (by omega) s2.I.M s2.I.L (by omega) hd (by omega) (fun G3 ag3 hL3 => ?_)
      have s3 := s2.h ag3 hL3
      rw [zl0, zI_eq (by omega)]
      refine br_c (fun z => ?_) (fun z => ?_)
      · have e := e G3 s3
        rw [hvS_0] at z
        have hr : rdB (qvR q) dy k = false := by
          unfold rdB
          rw [decide_eq_false (by omega), Bool.false_and]
        rw [hr, if_neg (by decide), Nat.or_zero] at e
        exact e
      · refine wM_halvesOf (what := 1) hV (by omega) s3.I.M s3.I.L (by omega) hd (by omega) (fun G4 ag4 hL4 => ?_)
        have s4 := s3.h ag4 hL4
        have e := e G4 s4
        rw [hvS_0] at z
        rw [zI_eq (by omega), hvS_1]
        refine br_c (fun z1 => ?_) (fun z1 => ?_)
        · intro y ey
          rw [zI_bit (by omega), zI_or] at ey
          subst ey
          have hr : rdB (qvR q) dy k = true := by
            unfold rdB
            rw [decide_eq_true (by omega), decide_eq_true (by omega)]
            rfl
          rw [if_pos hr] at e
          exact e
        · have hr : rdB (qvR q) dy k = false := by
            unfold rdB
            rw [decide_eq_false (show ¬ bset (hoB (qvR q) dy k) (2 * qvR q 0) = 0 by omega), Bool.and_false]
          rw [hr, if_neg (by decide), Nat.or_zero] at e
          exact e
  exact main (qvR q 1) 0 (by omega) G1 s1
theorem cM_refused {d w : Int} (hd : I32 d) (hw : I32 w) (hP : PV q) (h : IR q G) : wp_X8_refused (MO kc2 (o_refused q d w) q G) (zI d) (zI w) G := by
  have hV := hP.1
  have h12 := hV.mk
  unfold wp_X8_refused
  rw [show (0 : Int32) = zI 0 from rfl, zl1, wM_within ⟨hw, by omega⟩]
  by_cases w1 : 0 ≤ w ∧ w ≤ 1
  case neg => exact br_bf (decide_eq_false w1) (cdN (i := 0) h (o_not w1 rfl) rfl (by decide))
  refine br_bt (decide_eq_true w1) ?_
  rw [wM_isDay hd]
  by_cases d1 : 0 ≤ d ∧ d ≤ 9999
  case neg => exact br_bf (decide_eq_false d1) (cdN (i := 1) h (o_yes w1 (o_not d1 rfl)) rfl (by decide))
  refine br_bt (decide_eq_true d1) (cd0 h (fun G1 s1 => ?_))
  obtain ⟨dy, rfl⟩ := Int.eq_ofNat_of_zero_le d1.1
  refine wM_refusedOf hV s1 (by omega) (fun G2 s2 => ?_)
  rw [show (0 : Int32) = zI 0 from rfl, zI_eq ⟨hw, by omega⟩]
  refine br_c (fun z => ?_) (fun z => ?_)
  · refine s2.ok (o_yes w1 (o_yes d1 ?_)) rfl
    rw [if_pos z]
    rfl
  intro P K
  have hM := s2.I.M
  have hbl := bset_lt13 (rdB (qvR q) dy) (n := qvR q 1) (by omega)
  have main : ∀ g k : Nat, k + g = qvR q 1 → P (zI (bset (rdB (qvR q) dy) (qvR q 1))) (zI (elI (qvR q) (rdB (qvR q) dy) k)) (zI k) G2 := by
    intro g
    induction g with
    | zero =>
      intro k hk
      have : k = qvR q 1 := by omega
      subst this
      refine K _ _ _ _ ?_
      unfold lb_X8_refused_56
      rw [wM_marks hM]
      refine br_t (by rw [zI_le (by omega)]; omega) ?_
      refine s2.ok (o_yes w1 (o_yes d1 ?_)) rfl
      rw [if_neg z]
      rfl
    | succ g ih =>
      intro k hk
      have hk1 : k < qvR q 1 := by omega
      have er := elI_rg (qvR q) (rdB (qvR q) dy) k
      have e := ih (k + 1) (by omega)
      unfold elI at e
      refine K _ _ _ _ ?_
      unfold lb_X8_refused_56
      rw [wM_marks hM]
      refine br_f (by rw [zI_le (by omega)]; omega) ?_
      rw [show zI (k : Int) + (1 : Int32) = zI ((k + 1 : Nat) : Int) from zI_add _ 1, wM_has (by omega) (by omega), bset_tb, decide_eq_true hk1, Bool.true_and]
      by_cases y : rdB (qvR q) dy k = true
      · rw [if_pos y] at e
        refine br_bt y ?_
        rw [show (-1 : Int32) = zI (-1) from rfl, zI_eq (by omega)]
        refine br_c (fun z2 => ?_) (fun z2 => ?_)
        · rw [if_pos z2] at e
          exact e
        · have hE : (elI (qvR q) (rdB (qvR q) dy) k).toNat < qvR q 1 := by omega
          have f1 := hV.fl hk1
          have f2 := hV.fl hE
          rw [if_neg z2] at e
          refine wM_of1 hM k 12 rfl rfl (by omega) (by omega) ?_
          refine wM_of1 hM (elI (qvR q) (rdB (qvR q) dy) k).toNat 12 (zI_cg (by omega)) rfl (by omega) (by omega) ?_
          rw [zI_lt (by omega)]
          refine br_c (fun z3 => ?_) (fun z3 => ?_)
          · rw [if_pos (by omega)] at e
            exact e
          · rw [if_neg (by omega)] at e
            exact e
      · rw [if_neg y] at e
        exact br_bf (Bool.eq_false_iff.mpr y) e
  exact main (qvR q 1) 0 (by omega)
end
