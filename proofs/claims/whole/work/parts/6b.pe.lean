/-! firstDay, letterFor -/
section
variable {q : Par} {G : GH}
theorem cI_firstDay {a b : Int} (ha : I32 a) (hb : I32 b) (h : IC q G) : wp_X7_firstDay (CO (o_firstDay q a b) G) (CQ (o_firstDay q a b) q G) (zI a) (zI b) G := by
  have hV := h.V
  have h12 := hV.mk
  have l6 := hV.l6
  unfold wp_X7_firstDay
  refine wI_needMark ha hV (by omega) h.C (fun a1 => ?_) (fun a1 => CQ.s h (o_not a1 rfl))
  refine wI_needHalf hb hV h.C (fun b1 => ?_) (fun b1 => CQ.s h (o_yes a1 (o_not b1 rfl)))
  obtain ⟨m, rfl⟩ := Int.eq_ofNat_of_zero_le a1.1
  obtain ⟨k, rfl⟩ := Int.eq_ofNat_of_zero_le b1.1
  have hm : m < qvR q 1 := by omega
  refine wI_likeness h (fun G1 ag h1 k1 k2 k3 => ?_)
  refine wI_groupOf hV (by omega) h1.C hm (fun i hi => (k3 i hi).2) ?_
  refine wI_firstDayL hV (by omega) h1.C (fun i hi => (k3 i hi).2) hm (by omega) (fun G2 ag2 => ?_)
  have h5 : ∀ (x : Nat) (_c _j : Nat), x = 5 → x = 5 := fun x c j z => z
  exact CO.mk (o_yes a1 (o_yes b1 rfl)) rfl (h1.f5 ag2 h5) ((h5o ag2 h5 (by omega)).trans (WLk.o ag (by omega))) ((h5o ag2 h5 (by omega)).trans (WLk.o ag (by omega)))
theorem cM_firstDay {a b : Int} (ha : I32 a) (hb : I32 b) (hP : PV q) (h : IR q G) : wp_X8_firstDay (MO kc2 (o_firstDay q a b) q G) (zI a) (zI b) G := by
  have hV := hP.1
  have h12 := hV.mk
  have l6 := hV.l6
  unfold wp_X8_firstDay
  intro G1 e1
  have s1 := S0.st h e1
  unfold j_X8_firstDay_21
  refine wM_isMark ha hV (by omega) s1.I.M ?_
  by_cases a1 : 0 ≤ a ∧ a < qvR q 1
  case neg => exact br_bf (decide_eq_false a1) (s1.f (i := 0) (o_not a1 rfl) rfl)
  refine br_bt (decide_eq_true a1) (wM_isHalf hb hV s1.I.M ?_)
  by_cases b1 : 0 ≤ b ∧ b < 2 * qvR q 0
  case neg => exact br_bf (decide_eq_false b1) (s1.f (i := 0) (o_yes a1 (o_not b1 rfl)) rfl)
  refine br_bt (decide_eq_true b1) ?_
  obtain ⟨m, rfl⟩ := Int.eq_ofNat_of_zero_le a1.1
  obtain ⟨k, rfl⟩ := Int.eq_ofNat_of_zero_le b1.1
  refine wM_layTurns (n := 12) hV (by omega) s1.I.M (fun G2 ag2 hT => ?_)
  have hL2 : G2 24 0 7 ≠ 0 → LT (qvR q) (G2 24) := fun z => by
    rw [ag2 24 0 7 (fun y => by unfold WT at y; omega)] at z
    have hL := s1.I.L z
    have e : ∀ c, c ≠ 28 → c ≠ 0 → G2 24 c = G1 24 c := fun c h1 h2 => ag2.ce 24 c (fun j y => by unfold WT at y; omega)
    unfold LT HS at hL ⊢
    rw [e 9 (by omega) (by omega), e 10 (by omega) (by omega), e 14 (by omega) (by omega), e 15 (by omega) (by omega), e 16 (by omega) (by omega), e 17 (by omega) (by omega), e 18 (by omega) (by omega), e 19 (by omega) (by omega), e 20 (by omega) (by omega)]
    exact hL
  have s2 : S0 q G G2 := by
    refine ⟨s1.1.fr ag2 (fun c j z => by unfold WT at z; omega) hL2, s1.2.1.wk ag2 (fun x c j z => z.1), ?_⟩
    rw [ag2 24 0 5 (fun y => by unfold WT at y; omega)]
    exact s1.2.2
  exact wM_firstDayL hV (by omega) s2.I.M hL2 hT (by omega) (by omega) (fun G3 ag3 hL3 => (s2.h ag3 hL3).ok (o_yes a1 (o_yes b1 rfl)) rfl)
set_option maxHeartbeats 1000000 in
theorem cI_letterFor {a d : Int} (ha : I32 a) (hd : I32 d) (h : IC q G) : wp_X7_letterFor (CO (o_letterFor q a d) G) (CQ (o_letterFor q a d) q G) (zI a) (zI d) G := by
  have hV := h.V
  have h12 := hV.mk
  have l6 := hV.l6
  unfold wp_X7_letterFor
  refine wI_needMark ha hV (by omega) h.C (fun a1 => ?_) (fun a1 => CQ.s h (o_not a1 rfl))
  refine wI_needDay hd (fun d1 => ?_) (fun d1 => CQ.s h (o_yes a1 (o_not d1 rfl)))
  obtain ⟨m, rfl⟩ := Int.eq_ofNat_of_zero_le a1.1
  obtain ⟨dy, rfl⟩ := Int.eq_ofNat_of_zero_le d1.1
  have hm : m < qvR q 1 := by omega
  refine wI_copyR hV (by omega) h.C (by decide) (fun G1 ag1 hC1 => ?_)
  have h1 : IC q G1 := h.fr ag1 (fun x c j z => by omega)
  refine wI_likeness h1 (fun G2 ag2 h2 k1 k2 k3 => ?_)
  refine wI_copyL (by decide) (fun G3 ag3 hc => ?_)
  have h3 : IC q G3 := h2.fr ag3 (fun x c j z => by omega)
  have hC9 : CR (qvR q) (G3 9) := by
    rw [ag3.ob 9 (fun c j z => by omega), WLk.o ag2 (by omega)]
    exact hC1
  have h7 : ∀ i, i < qvR q 1 → G3 7 7 i = zI (alS (qvR q) i) := fun i hi => by
    rw [hc.2.2.2.2.2.2 i (by omega)]
    exact (k3 i hi).2
  have hI3 : IM (qvR q) m (G3 7) := by
    refine ⟨fun i hi _ => ?_, fun x y hx hy hxy _ _ => ?_, fun x y hx hy => ?_⟩
    · have hS := k1.1 i hi
      have hl := snd_len (qvR q) i
      refine ⟨by rw [hc.2.1 i (by omega)]; exact hS.1, fun j hj => ?_⟩
      rw [hc.1 (20 * i + j) (by omega)]
      exact hS.2 j hj
    · rw [hc.2.2.1 (13 * x + y) (by omega), hc.2.2.2.1 (13 * x + y) (by omega)]
      exact k1.2 x y hx hy hxy
    · rw [hc.2.2.2.2.1 (13 * x + y) (by omega)]
      exact k2 x y hx hy
  have e24 : G3 24 = G 24 := by rw [ag3.ob 24 (fun c j z => by omega), WLk.o ag2 (by omega), ag1.ob 24 (fun c j z => by omega)]
  have e25 : G3 25 = G 25 := by rw [ag3.ob 25 (fun c j z => by omega), WLk.o ag2 (by omega), ag1.ob 25 (fun c j z => by omega)]
  refine wI_rankAll hV (by omega) hC9 (by decide) (by omega) (fun Gr agr hrk => ?_)
  have hrA : RKA (Gr 5) (qvR q) dy := RKA.of hrk
  have hcr : IC q Gr := h3.f5 agr (fun x c j z => z.1)
  have oR : ∀ {x : Nat}, x ≠ 5 → Gr x = G3 x := fun {x} hx => h5o agr (fun x c j z => z.1) hx
  refine wI_halvesWithPriority hV (by omega) hcr.C hm (by omega) ?_
  refine wI_wouldHold hV (by omega) (by rw [oR (by omega)]; exact hC9) (by rw [oR (by omega)]; exact h7) hm (bset_lt13 _ (by omega)) hrA (fun G4 ag4 => ?_)
  have h5 : ∀ x c j, WSt x c j → x = 5 := fun x c j z => z.1
  have h4 := hcr.f5 ag4 h5
  have o4 : ∀ {x : Nat}, x ≠ 5 → G4 x = G3 x := fun {x} hx => (h5o ag4 h5 hx).trans (oR hx)
  rw [wh_hr rfl (fun _ => rfl)]
  by_cases z : hrB (qvR q) dy m = true
  · refine br_bt z (CO.mk (o_yes a1 (o_yes d1 rfl)) ?_ h4 ((o4 (by omega)).trans e24) ((o4 (by omega)).trans e25))
    show (-1 : Int32) = zI (lfI (qvR q) m dy)
    unfold lfI
    rw [if_pos z]
    rfl
  · refine br_bf (Bool.eq_false_iff.mpr z) ?_
    refine wI_letterL hV (by omega) hm (by omega) h4.C (by rw [o4 (by omega)]; exact hC9) (by rw [o4 (by omega)]; exact hI3) (hrA.fr (by omega) ag4) (fun G5 ag5 => ?_)
    have w9 : ∀ x c j, WL9 x c j → x ≠ 24 ∧ x ≠ 25 := fun x c j y => by unfold WL9 at y; omega
    refine CO.mk (o_yes a1 (o_yes d1 rfl)) ?_ (h4.fr ag5 (fun x c j y => by unfold WL9 at y; omega)) ?_ ?_
    · show zI (fsB (lfB (qvR q) m dy) (26 * qq (qvR q) m 0)) = zI (lfI (qvR q) m dy)
      unfold lfI
      rw [if_neg z]
    · rw [ag5.ob 24 (fun c j y => (w9 _ _ _ y).1 rfl), o4 (by omega), e24]
    · rw [ag5.ob 25 (fun c j y => (w9 _ _ _ y).2 rfl), o4 (by omega), e25]
theorem cM_letterFor {a d : Int} (ha : I32 a) (hd : I32 d) (hP : PV q) (h : IR q G) : wp_X8_letterFor (MO kc2 (o_letterFor q a d) q G) (zI a) (zI d) G := by
  have hV := hP.1
  have h12 := hV.mk
  unfold wp_X8_letterFor
  refine wM_isMark ha hV (by omega) h.M ?_
  by_cases a1 : 0 ≤ a ∧ a < qvR q 1
  case neg => exact br_bf (decide_eq_false a1) (cdN (i := 0) h (o_not a1 rfl) rfl (by decide))
  refine br_bt (decide_eq_true a1) ?_
  rw [wM_isDay hd]
  by_cases d1 : 0 ≤ d ∧ d ≤ 9999
  case neg => exact br_bf (decide_eq_false d1) (cdN (i := 1) h (o_yes a1 (o_not d1 rfl)) rfl (by decide))
  refine br_bt (decide_eq_true d1) (cd0 h (fun G1 s1 => ?_))
  obtain ⟨m, rfl⟩ := Int.eq_ofNat_of_zero_le a1.1
  obtain ⟨dy, rfl⟩ := Int.eq_ofNat_of_zero_le d1.1
  refine wM_holdsWhereRight hV (by omega) s1.I.M s1.I.L (by omega) (by omega) (fun G2 ag2 hL2 => ?_)
  have s2 := s1.h ag2 hL2
  refine wM_letterL hV (by omega) (by omega) (by omega) s2.I.M hL2 (fun G3 ag3 hM3 hL3 => ?_)
  have w : ∀ c j, WHa 24 c j → (c = 1 ∨ 9 ≤ c ∧ c ≤ 24 ∨ c = 0 ∧ (j = 7 ∨ 24 ≤ j ∧ j ≤ 26)) := fun c j z => by unfold WHa WH at z; omega
  have hI3 : IR q G3 := by
    have e : ∀ c, c = 3 ∨ c = 4 ∨ c = 32 → G3 24 c = G2 24 c := fun c hc => ag3.ce 24 c (fun j z => by have := w c j z; omega)
    have e0 : ∀ j, j = 4 ∨ j = 6 ∨ j = 32 ∨ j = 40 → G3 24 0 j = G2 24 0 j := fun j hj => ag3 24 0 j (fun z => by have := w 0 j z; omega)
    obtain ⟨i1, i2, i3, i4, i5, i6, i7⟩ := s2.1
    refine ⟨hM3, hL3, ?_, by rw [e0 40 (by omega)]; exact i4, ?_, by rw [e0 6 (by omega)]; exact i6, by rw [e 3 (by omega)]; exact i7⟩
    · rw [e 32 (by omega), e0 32 (by omega)]
      exact i3
    · rw [e0 4 (by omega), e 4 (by omega)]
      exact i5
  refine MO.ok (W := W24) (o_yes a1 (o_yes d1 rfl)) rfl ?_ hI3.t (s2.2.1.wk ag3 (fun x c j z => by unfold WHa WH at z; unfold W24; omega)) (fun x c j z => z)
  rw [ag3 24 0 5 (fun z => by have := w 0 5 z; omega)]
  exact s2.2.2
end
