/-! ===== the text of a register, read: in the reference ===== -/
def WMR (x c j : Nat) : Prop := x = 24 ∧ (c = 2 ∨ c = 0 ∧ 34 ≤ j ∧ j ≤ 39)
theorem WM_R {x c j : Nat} (h : WM x c j) : WMR x c j := ⟨h.1, Or.inr ⟨h.2.1, h.2.2⟩⟩
theorem AgR {G G' G'' : GH} (h1 : Ag WMR G G') (h2 : Ag WM G' G'') : Ag WMR G G'' := h1.wk h2 (fun _ _ _ => WM_R)
theorem AgR2 {G G' G'' : GH} (h1 : Ag WMR G G') (h2 : Ag (fun x c _ => x = 24 ∧ c = 2) G' G'') : Ag WMR G G'' := h1.wk h2 (fun _ _ _ z => ⟨z.1, Or.inl z.2⟩)
section
variable {G : GH} {b : Nat → Nat} {n p : Nat} {R : RR}
theorem MR.fr {W : Nat → Nat → Nat → Prop} {G' : GH} {k : Nat} (h : MR R (G 24 k)) (ag : Ag W G G') (hw : ∀ j, ¬ W 24 k j) : MR R (G' 24 k) := by
  rw [ag.ce 24 k hw]
  exact h
theorem nWM2 {k : Nat} (hk : k ≠ 0) : ∀ j, ¬ WM 24 k j := fun j w => by unfold WM at w; omega
theorem MG.fr {G' : GH} (h : MG b n p G) (ag : Ag (fun x c _ => x = 24 ∧ c = 2) G G') : MG b n p G' := by
  have e1 : G' 24 32 = G 24 32 := ag.ce 24 32 (fun j w => by omega)
  have e0 : G' 24 0 = G 24 0 := ag.ce 24 0 (fun j w => by omega)
  unfold MG MT
  rw [e1, e0]
  exact h
theorem wM_joins {post : GH → Prop} {k a c : Nat} {x : Int32} (y : Bool) (hx : x = bI y) (hV : VR n R) (hM : MR R (G 24 k)) (ha : a < 10) (hc : c < 10) (hac : a ≠ c) (hp : ∀ G', Ag (fun x c _ => x = 24 ∧ c = k) G G' → MR (jnR y R a c) (G' 24 k) → post G') : wp_X8_joins post 24 k 681 (zI a) (zI c) x G := by
  subst hx
  have b1 : 2 ^ a < 4294967296 := Nat.lt_of_lt_of_le (Nat.pow_lt_pow_right (a := 2) (by decide) (show a < 32 by omega)) (by decide)
  have b2 : 2 ^ c < 4294967296 := Nat.lt_of_lt_of_le (Nat.pow_lt_pow_right (a := 2) (by decide) (show c < 32 by omega)) (by decide)
  have i1 : (8 : Int32) + zI (a : Int) = zI ((8 + a : Nat) : Int) := zI_add 8 a
  have i2 : (8 : Int32) + zI (c : Int) = zI ((8 + c : Nat) : Int) := zI_add 8 c
  have hend : ∀ G', G' = gs G 24 k (upd (upd (G 24 k) (8 + a) (zI (cpl y (R (8 + a)) c))) (8 + c) (zI (cpl y (R (8 + c)) a))) → post G' := by
    intro G' e
    refine hp G' ?_ ?_
    · intro x d j hw
      rw [e]
      unfold gs
      rw [if_neg hw]
    · intro j hj
      rw [e, gs_eq]
      unfold jnR
      by_cases w : j = 8 + c
      · subst w
        rw [upd_eq, if_neg (by omega), if_pos rfl]
      · rw [upd_ne w]
        by_cases z : j = 8 + a
        · subst z
          rw [upd_eq, if_pos rfl]
        · rw [upd_ne z, if_neg z, if_neg w]
          exact hM.at hj
  unfold wp_X8_joins j_X8_joins_34 j_X8_joins_69
  rw [i1, i2, zI_clN (n := 8 + a) (by omega), zI_clN (n := 8 + c) (by omega), hM.at (by omega), zI_bit (by omega), zI_bit (by omega)]
  cases y
  · refine br_t rfl ⟨zI_in (by omega), zI_in (by omega), ?_⟩
    intro G2 e2
    refine br_t rfl ⟨zI_in (by omega), zI_in (by omega), ?_⟩
    intro G4 e4
    refine hend G4 ?_
    have q : G2 24 k (8 + c) = zI (R (8 + c)) := by
      rw [e2, gs_eq, upd_ne (by omega), hM.at (by omega)]
    rw [q, zI_difX b1] at e4
    rw [zI_difX b2] at e2
    rw [e4, e2, gs_gs, gs_eq]
    rfl
  · refine br_f (by decide) ⟨zI_in (by omega), zI_in (by omega), ?_⟩
    intro G2 e2
    refine br_f (by decide) ⟨zI_in (by omega), zI_in (by omega), ?_⟩
    intro G4 e4
    refine hend G4 ?_
    have q : G2 24 k (8 + c) = zI (R (8 + c)) := by
      rw [e2, gs_eq, upd_ne (by omega), hM.at (by omega)]
    rw [q, zI_or] at e4
    rw [zI_or] at e2
    rw [e4, e2, gs_gs, gs_eq]
    rfl
theorem wM_consents {post : GH → Prop} {k a c : Nat} {x : Int32} (y : Bool) (hx : x = bI y) (hM : MR R (G 24 k)) (ha : a < 13) (hc : c < 13) (hac : a ≠ c) (hp : ∀ G', Ag (fun x c _ => x = 24 ∧ c = k) G G' → MR (cnR y R a c) (G' 24 k) → post G') : wp_X8_consents post 24 k 681 (zI a) (zI c) x G := by
  subst hx
  have b1 : 2 ^ a < 4294967296 := Nat.lt_of_lt_of_le (Nat.pow_lt_pow_right (a := 2) (by decide) (show a < 32 by omega)) (by decide)
  have b2 : 2 ^ c < 4294967296 := Nat.lt_of_lt_of_le (Nat.pow_lt_pow_right (a := 2) (by decide) (show c < 32 by omega)) (by decide)
  have i1 : (18 : Int32) + (51 : Int32) * zI (a : Int) + (50 : Int32) = zI ((18 + 51 * a + 50 : Nat) : Int) := by
    rw [zl18, zl51, zl50, zI_mul, zI_add, zI_add]
    exact zI_cg (by omega)
  have i2 : (18 : Int32) + (51 : Int32) * zI (c : Int) + (50 : Int32) = zI ((18 + 51 * c + 50 : Nat) : Int) := by
    rw [zl18, zl51, zl50, zI_mul, zI_add, zI_add]
    exact zI_cg (by omega)
  have hend : ∀ G', G' = gs G 24 k (upd (upd (G 24 k) (18 + 51 * a + 50) (zI (cpl y (R (18 + 51 * a + 50)) c))) (18 + 51 * c + 50) (zI (cpl y (R (18 + 51 * c + 50)) a))) → post G' := by
    intro G' e
    refine hp G' ?_ ?_
    · intro x d j hw
      rw [e]
      unfold gs
      rw [if_neg hw]
    · intro j hj
      rw [e, gs_eq]
      unfold cnR
      by_cases w : j = 18 + 51 * c + 50
      · subst w
        rw [upd_eq, if_neg (by omega), if_pos rfl]
      · rw [upd_ne w]
        by_cases z : j = 18 + 51 * a + 50
        · subst z
          rw [upd_eq, if_pos rfl]
        · rw [upd_ne z, if_neg z, if_neg w]
          exact hM.at hj
  unfold wp_X8_consents
  intro y1 ey1 y2 ey2
  rw [i1] at ey1
  rw [i2] at ey2
  subst ey1 ey2
  unfold j_X8_consents_53 j_X8_consents_83
  rw [zI_clN (n := 18 + 51 * a + 50) (by omega), zI_clN (n := 18 + 51 * c + 50) (by omega), hM.at (j := 18 + 51 * a + 50) (by omega), zI_bit (k := a) (by omega), zI_bit (k := c) (by omega)]
  cases y
  · refine br_t rfl ⟨zI_in (by omega), zI_in (by omega), ?_⟩
    intro G2 e2
    refine br_t rfl ⟨zI_in (by omega), zI_in (by omega), ?_⟩
    intro G4 e4
    refine hend G4 ?_
    have q : G2 24 k (18 + 51 * c + 50) = zI (R (18 + 51 * c + 50)) := by
      rw [e2, gs_eq, upd_ne (by omega), hM.at (by omega)]
    rw [q, zI_difX b1] at e4
    rw [zI_difX b2] at e2
    rw [e4, e2, gs_gs, gs_eq]
    rfl
  · refine br_f (by decide) ⟨zI_in (by omega), zI_in (by omega), ?_⟩
    intro G2 e2
    refine br_f (by decide) ⟨zI_in (by omega), zI_in (by omega), ?_⟩
    intro G4 e4
    refine hend G4 ?_
    have q : G2 24 k (18 + 51 * c + 50) = zI (R (18 + 51 * c + 50)) := by
      rw [e2, gs_eq, upd_ne (by omega), hM.at (by omega)]
    rw [q, zI_or] at e4
    rw [zI_or] at e2
    rw [e4, e2, gs_gs, gs_eq]
    rfl
end
section
variable {G : GH} {b : Nat → Nat} {n p : Nat} {R : RR} {post : GH → Prop}
theorem wM_readNear (hV : VR 12 R) (hT : MG b n p G) (hM : MR R (G 24 2)) (hf : ∀ c s, rdCpl b n p 9 (jnR true R) = .inl (c, s) → ∀ G', Ag WMR G G' → MX c s G' → post G') (ht : ∀ q R', rdCpl b n p 9 (jnR true R) = .inr (q, R') → ∀ G', Ag WMR G G' → MG b n q G' → MR R' (G' 24 2) → post G') : wp_X8_readNear post G := by
  unfold wp_X8_readNear
  unfold rdCpl at hf ht
  refine wM_pass hT (fun G1 ag1 hT1 => ?_)
  have a1 := AgR (Ag.rf G) ag1
  have hM1 := hM.fr ag1 (nWM2 (by decide))
  refine wM_number (lo := 0) (hi := 9) hT1 (by omega) (by omega) (fun c s e G3 ag3 hX => ?_) (fun v q e G3 ag3 hT3 => ?_)
  · exact wM_otherNumberX hX.ne (br_f hX.ne (hf c s (sB_l e) G3 (AgR a1 ag3) hX))
  · have a3 := AgR a1 ag3
    have hM3 := hM1.fr ag3 (nWM2 (by decide))
    have hv := numR_ok e
    refine wM_otherNumber (hi := 9) (un := v) hT3 (by omega) (by omega) (fun c s e2 G5 ag5 hX => ?_) (fun v2 q2 e2 G5 ag5 hT5 => ?_)
    · refine br_f hX.ne (hf c s ?_ G5 (AgR a3 ag5) hX)
      rw [sB_r e]
      exact sB_l e2
    · have hv2 := numR_ok e2
      have hM5 := hM3.fr ag5 (nWM2 (by decide))
      refine br_t hT5.2 (wM_joins true rfl hV hM5 (by omega) (by omega) (by omega) (fun G8 ag8 hM8 => ?_))
      refine ht q2 (jnR true R v v2) ?_ G8 (AgR2 (AgR a3 ag5) ag8) (hT5.fr ag8) hM8
      rw [sB_r e, sB_r e2]
theorem wM_readConsent (hV : VR 12 R) (hT : MG b n p G) (hM : MR R (G 24 2)) (hf : ∀ c s, rdCpl b n p ((R 1 : Int) - 1) (cnR true R) = .inl (c, s) → ∀ G', Ag WMR G G' → MX c s G' → post G') (ht : ∀ q R', rdCpl b n p ((R 1 : Int) - 1) (cnR true R) = .inr (q, R') → ∀ G', Ag WMR G G' → MG b n q G' → MR R' (G' 24 2) → post G') : wp_X8_readConsent post G := by
  have hm := hV.mk
  unfold wp_X8_readConsent
  unfold rdCpl at hf ht
  refine wM_pass hT (fun G1 ag1 hT1 => ?_)
  have a1 := AgR (Ag.rf G) ag1
  have hM1 := hM.fr ag1 (nWM2 (by decide))
  rw [hM1.at (by decide), show zI (R 1 : Int) - (1 : Int32) = zI ((R 1 : Int) - 1) from zI_sub _ 1]
  refine wM_number (lo := 0) (hi := (R 1 : Int) - 1) hT1 (by omega) (by omega) (fun c s e G3 ag3 hX => ?_) (fun v q e G3 ag3 hT3 => ?_)
  · exact wM_otherNumberX hX.ne (br_f hX.ne (hf c s (sB_l e) G3 (AgR a1 ag3) hX))
  · have a3 := AgR a1 ag3
    have hM3 := hM1.fr ag3 (nWM2 (by decide))
    have hv := numR_ok e
    rw [hM3.at (by decide), show zI (R 1 : Int) - (1 : Int32) = zI ((R 1 : Int) - 1) from zI_sub _ 1]
    refine wM_otherNumber (hi := (R 1 : Int) - 1) (un := v) hT3 (by omega) (by omega) (fun c s e2 G5 ag5 hX => ?_) (fun v2 q2 e2 G5 ag5 hT5 => ?_)
    · refine br_f hX.ne (hf c s ?_ G5 (AgR a3 ag5) hX)
      rw [sB_r e]
      exact sB_l e2
    · have hv2 := numR_ok e2
      have hM5 := hM3.fr ag5 (nWM2 (by decide))
      refine br_t hT5.2 (wM_consents true rfl hM5 (by omega) (by omega) (by omega) (fun G8 ag8 hM8 => ?_))
      refine ht q2 (cnR true R v v2) ?_ G8 (AgR2 (AgR a3 ag5) ag8) (hT5.fr ag8) hM8
      rw [sB_r e, sB_r e2]
theorem wM_readUseX {v2 : Int32} (hX : ¬ G 24 0 38 = 0) (hp : post G) : j_X8_readUse_69 post v2 G := by
  unfold j_X8_readUse_69
  exact wM_numberX hX (wM_numberX hX (wM_numberX hX (wM_numberX hX (br_f hX hp))))
set_option maxHeartbeats 1000000 in
theorem wM_readUse69 {v2 : Int32} (hV : VR 12 R) (hT : MG b n p G) (hM : MR R (G 24 2)) (hm0 : ∀ v q, numR b n p 0 ((R 1 : Int) - 1) (-1) = .inr (v, q) → v2 = zI ((18 + 51 * v : Nat) : Int) ∧ qq R v 13 < 12) (hf : ∀ c s, rdUs b n p R = .inl (c, s) → ∀ G', Ag WMR G G' → MX c s G' → post G') (ht : ∀ q R', rdUs b n p R = .inr (q, R') → ∀ G', Ag WMR G G' → MG b n q G' → MR R' (G' 24 2) → post G') : j_X8_readUse_69 post v2 G := by
  have hm := hV.mk
  have l6 := hV.l6
  have l1 := hV.l1
  unfold j_X8_readUse_69
  unfold rdUs at hf ht
  rw [hM.at (by decide), show zI (R 1 : Int) - (1 : Int32) = zI ((R 1 : Int) - 1) from zI_sub _ 1]
  refine wM_number (lo := 0) (hi := (R 1 : Int) - 1) hT (by omega) (by omega) (fun c s e G3 ag3 hX => ?_) (fun m q e G3 ag3 hT3 => ?_)
  · exact wM_numberX hX.ne (wM_numberX hX.ne (wM_numberX hX.ne (br_f hX.ne (hf c s (sB_l e) G3 (AgR (Ag.rf G) ag3) hX))))
  · have am := numR_ok e
    obtain ⟨ev, hu⟩ := hm0 m q e
    subst ev
    have a3 := AgR (Ag.rf G) ag3
    have hM3 := hM.fr ag3 (nWM2 (by decide))
    rw [sB_r e] at hf ht
    rw [hM3.at (by decide), show (2 : Int32) * zI (R 0 : Int) - (1 : Int32) = zI (2 * (R 0 : Int) - 1) by rw [zl2, zl1, zI_mul, zI_sub]]
    refine wM_number (lo := 0) (hi := 2 * (R 0 : Int) - 1) hT3 (by omega) (by omega) (fun c s e2 G5 ag5 hX => ?_) (fun h q2 e2 G5 ag5 hT5 => ?_)
    · exact wM_numberX hX.ne (wM_numberX hX.ne (br_f hX.ne (hf c s (sB_l e2) G5 (AgR a3 ag5) hX)))
    · have ah := numR_ok e2
      have a5 := AgR a3 ag5
      have hM5 := hM3.fr ag5 (nWM2 (by decide))
      rw [sB_r e2] at hf ht
      refine wM_number (lo := 0) (hi := 9999) hT5 (by omega) (by omega) (fun c s e3 G7 ag7 hX => ?_) (fun f q3 e3 G7 ag7 hT7 => ?_)
      · exact wM_numberX hX.ne (br_f hX.ne (hf c s (sB_l e3) G7 (AgR a5 ag7) hX))
      · have af := numR_ok e3
        have a7 := AgR a5 ag7
        have hM7 := hM5.fr ag7 (nWM2 (by decide))
        rw [sB_r e3] at hf ht
        refine wM_number (lo := f) (hi := 9999) hT7 (by omega) (by omega) (fun c s e4 G9 ag9 hX => ?_) (fun t q4 e4 G9 ag9 hT9 => ?_)
        · exact br_f hX.ne (hf c s (sB_l e4) G9 (AgR a7 ag9) hX)
        · have at' := numR_ok e4
          have a9 := AgR a7 ag9
          have hM9 := hM7.fr ag9 (nWM2 (by decide))
          rw [sB_r e4] at ht
          refine br_t hT9.2 ?_
          have i13 : zI ((18 + 51 * m : Nat) : Int) + (13 : Int32) = zI ((18 + 51 * m + 13 : Nat) : Int) := zI_add _ 13
          rw [i13]
          refine ⟨zI_in (by omega), ?_⟩
          intro y ey
          rw [zI_clN (n := 18 + 51 * m + 13) (by omega), hM9.at (by omega)] at ey
          have ey : y = zI (qq R m 13) := ey
          subst ey
          have i14 : zI ((18 + 51 * m : Nat) : Int) + (14 : Int32) + (3 : Int32) * zI (qq R m 13 : Int) = zI ((18 + 51 * m + (14 + 3 * qq R m 13) : Nat) : Int) := by
            rw [zl14, zl3, zI_mul, zI_add, zI_add]
            exact zI_cg (by omega)
          have i15 : zI ((18 + 51 * m + (14 + 3 * qq R m 13) : Nat) : Int) + (1 : Int32) = zI ((18 + 51 * m + (15 + 3 * qq R m 13) : Nat) : Int) := by
            rw [zl1, zI_add]
            exact zI_cg (by omega)
          have i16 : zI ((18 + 51 * m + (14 + 3 * qq R m 13) : Nat) : Int) + (2 : Int32) = zI ((18 + 51 * m + (16 + 3 * qq R m 13) : Nat) : Int) := by
            rw [zl2, zI_add]
            exact zI_cg (by omega)
          rw [i14]
          refine ⟨zI_in (by omega), ?_⟩
          intro G20 e20
          rw [i15]
          refine ⟨zI_in (by omega), ?_⟩
          intro G21 e21
          rw [i16]
          refine ⟨zI_in (by omega), ?_⟩
          intro G22 e22
          refine ⟨zI_in (by omega), ?_⟩
          intro G23 e23
          rw [zI_clN (n := 18 + 51 * m + (14 + 3 * qq R m 13)) (by omega)] at e20
          rw [zI_clN (n := 18 + 51 * m + (15 + 3 * qq R m 13)) (by omega)] at e21
          rw [zI_clN (n := 18 + 51 * m + (16 + 3 * qq R m 13)) (by omega)] at e22
          rw [zI_clN (n := 18 + 51 * m + 13) (by omega), show zI (qq R m 13 : Int) + (1 : Int32) = zI ((qq R m 13 + 1 : Nat) : Int) from zI_add _ 1] at e23
          have hrow : G23 24 2 = upd (upd (upd (upd (G9 24 2) (18 + 51 * m + (14 + 3 * qq R m 13)) (zI h)) (18 + 51 * m + (15 + 3 * qq R m 13)) (zI f)) (18 + 51 * m + (16 + 3 * qq R m 13)) (zI t)) (18 + 51 * m + 13) (zI ((qq R m 13 + 1 : Nat) : Int)) := by
            rw [e23, gs_eq, e22, gs_eq, e21, gs_eq, e20, gs_eq]
          have ag23 : Ag (fun x c _ => x = 24 ∧ c = 2) G9 G23 := by
            rw [e23, e22, e21, e20]
            exact ((((Ag.rf G9).up ⟨rfl, rfl⟩).up ⟨rfl, rfl⟩).up ⟨rfl, rfl⟩).up ⟨rfl, rfl⟩
          refine ht q4 (usR R m h f t) rfl G23 (AgR2 a9 ag23) (hT9.fr ag23) ?_
          intro j hj
          rw [hrow]
          unfold usR
          by_cases w1 : j = 18 + 51 * m + 13
          · subst w1
            rw [upd_eq, if_neg (by omega), if_neg (by omega), if_neg (by omega), if_pos rfl]
          · rw [upd_ne w1]
            by_cases w2 : j = 18 + 51 * m + (16 + 3 * qq R m 13)
            · subst w2
              rw [upd_eq, if_neg (by omega), if_neg (by omega), if_pos rfl]
            · rw [upd_ne w2]
              by_cases w3 : j = 18 + 51 * m + (15 + 3 * qq R m 13)
              · subst w3
                rw [upd_eq, if_neg (by omega), if_pos rfl]
              · rw [upd_ne w3]
                by_cases w4 : j = 18 + 51 * m + (14 + 3 * qq R m 13)
                · subst w4
                  rw [upd_eq, if_pos rfl]
                · rw [upd_ne w4, if_neg w4, if_neg w3, if_neg w2, if_neg w1]
                  exact hM9.at hj
theorem wM_readUse (hV : VR 12 R) (hT : MG b n p G) (hM : MR R (G 24 2)) (hf : ∀ c s, rdUse b n p R = .inl (c, s) → ∀ G', Ag WMR G G' → MX c s G' → post G') (ht : ∀ q R', rdUse b n p R = .inr (q, R') → ∀ G', Ag WMR G G' → MG b n q G' → MR R' (G' 24 2) → post G') : wp_X8_readUse post G := by
  have hm := hV.mk
  unfold wp_X8_readUse
  unfold rdUse at hf ht
  refine wM_pass hT (fun G1 ag1 hT1 => ?_)
  have a1 := AgR (Ag.rf G) ag1
  have hM1 := hM.fr ag1 (nWM2 (by decide))
  generalize tkE b n p = p1 at hT1 hf ht
  have hvw := tkV_min b n p1
  have hw : tkW b n p1 ≤ 1000000 := vlN_le 1000000 b _ _
  refine wM_isNumber hT1 ?_
  by_cases k2 : tkK b n p1 = 2
  · refine br_bt (decide_eq_true k2) ?_
    refine wM_numberHere hT1 k2 ?_
    unfold j_X8_readUse_19
    intro y ey
    rw [zl18, zl51, zl11, zI_min (by omega), zI_mul, zI_add] at ey
    subst ey
    refine wM_isNumber hT1 (br_bt (decide_eq_true k2) ?_)
    rw [hM1.at (by decide), zI_le (by omega)]
    refine br_c (fun w => ?_) (fun w => ?_)
    · rw [if_neg (by omega)] at hf ht
      refine wM_readUse69 hV hT1 hM1 (fun v q e => ?_) (fun c s e G' ag hX => hf c s e G' (a1.tr ag) hX) (fun q R' e G' ag hT' hM' => ht q R' e G' (a1.tr ag) hT' hM')
      have := numR_ok e
      omega
    · have w : tkW b n p1 < R 1 := by omega
      have ew : tkW b n p1 = tkV b n p1 := by omega
      rw [show ((18 : Int) + 51 * min (tkW b n p1 : Int) 11) = ((18 + 51 * tkV b n p1 : Nat) : Int) by omega, show zI ((18 + 51 * tkV b n p1 : Nat) : Int) + (13 : Int32) = zI ((18 + 51 * tkV b n p1 + 13 : Nat) : Int) from zI_add _ 13]
      refine ⟨zI_in (by omega), ?_⟩
      have hu := hV.uc (m := tkV b n p1) (by omega)
      have e13 : R (18 + 51 * tkV b n p1 + 13) = qq R (tkV b n p1) 13 := rfl
      rw [zI_clN (by omega), hM1.at (by omega), e13, zl12, zI_eq (by omega)]
      refine br_c (fun z => ?_) (fun z => ?_)
      · rw [if_pos ⟨k2, by omega, by omega⟩] at hf
        refine wM_wrong 4 rfl (by omega) hT1 (fun G' ag hX => wM_readUseX hX.ne (hf _ _ rfl G' (AgR a1 ag) hX))
      · rw [if_neg (by omega)] at hf ht
        refine wM_readUse69 hV hT1 hM1 (fun v q e => ?_) (fun c s e G' ag hX => hf c s e G' (a1.tr ag) hX) (fun q R' e G' ag hT' hM' => ht q R' e G' (a1.tr ag) hT' hM')
        have h0 := numR_ok e
        rw [h0.2.2.2.2.2]
        exact ⟨rfl, by omega⟩
  · refine br_bf (decide_eq_false k2) ?_
    rw [if_neg (fun z => k2 z.1)] at hf ht
    unfold j_X8_readUse_19
    intro y ey
    refine wM_isNumber hT1 (br_bf (decide_eq_false k2) ?_)
    refine wM_readUse69 hV hT1 hM1 (fun v q e => ?_) (fun c s e G' ag hX => hf c s e G' (a1.tr ag) hX) (fun q R' e G' ag hT' hM' => ht q R' e G' (a1.tr ag) hT' hM')
    have := numR_ok e
    omega
end
