/-! ===== register, in the reference ===== -/
def WRf (x c j : Nat) : Prop := x = 24 ∧ (c = 2 ∨ c = 0 ∧ (j = 5 ∨ 32 ≤ j ∧ j ≤ 41))
def WRt (x c j : Nat) : Prop := x = 24 ∧ (c = 1 ∨ c = 2 ∨ c = 0 ∧ (j = 4 ∨ j = 5 ∨ j = 7 ∨ 32 ≤ j ∧ j ≤ 41))
theorem WMR_f {x c j : Nat} (h : WMR x c j) : WRf x c j := by
  unfold WMR at h
  unfold WRf
  omega
section
variable {G : GH} {b : Nat → Nat} {n : Nat}
theorem wM_begins {post : GH → Prop} {k : Nat} (hp : ∀ G', Ag (fun x c _ => x = 24 ∧ c = k) G G' → MR (emR 0) (G' 24 k) → post G') : wp_X8_begins post 24 k 681 G := by
  unfold wp_X8_begins
  intro P K
  have main : ∀ f i : Nat, i + f = 681 → ∀ G', Ag (fun x c _ => x = 24 ∧ c = k) G G' → (∀ j, j < i → G' 24 k j = 0) → P (zI i) G' := by
    intro f
    induction f with
    | zero =>
      intro i hi G' ag h0
      refine K _ _ ?_
      unfold lb_X8_begins_2
      refine br_t (by rw [zl681, zI_le (by omega)]; omega) ?_
      refine ⟨by rw [zl2]; exact zI_in (by omega), ?_⟩
      intro G2 e2
      refine ⟨by rw [zl3]; exact zI_in (by omega), ?_⟩
      intro G3 e3
      refine ⟨by rw [zl4]; exact zI_in (by omega), ?_⟩
      intro G4 e4
      refine ⟨by rw [zl6]; exact zI_in (by omega), ?_⟩
      intro G5 e5
      refine ⟨by rw [zl7]; exact zI_in (by omega), ?_⟩
      intro G6 e6
      have e2 : G2 = gs G' 24 k (upd (G' 24 k) 2 (60 : Int32)) := e2
      have e3 : G3 = gs G2 24 k (upd (G2 24 k) 3 (5 : Int32)) := e3
      have e4 : G4 = gs G3 24 k (upd (G3 24 k) 4 (2 : Int32)) := e4
      have e5 : G5 = gs G4 24 k (upd (G4 24 k) 6 (30 : Int32)) := e5
      have e6 : G6 = gs G5 24 k (upd (G5 24 k) 7 (50 : Int32)) := e6
      have hrow : G6 24 k = upd (upd (upd (upd (upd (G' 24 k) 2 (60 : Int32)) 3 (5 : Int32)) 4 (2 : Int32)) 6 (30 : Int32)) 7 (50 : Int32) := by
        rw [e6, gs_eq, e5, gs_eq, e4, gs_eq, e3, gs_eq, e2, gs_eq]
      refine hp G6 ?_ ?_
      · rw [e6, e5, e4, e3, e2]
        exact ((((ag.up ⟨rfl, rfl⟩).up ⟨rfl, rfl⟩).up ⟨rfl, rfl⟩).up ⟨rfl, rfl⟩).up ⟨rfl, rfl⟩
      · intro j hj
        rw [hrow]
        unfold emR upd
        by_cases w7 : j = 7
        · subst w7
          rfl
        · by_cases w6 : j = 6
          · subst w6
            rfl
          · by_cases w4 : j = 4
            · subst w4
              rfl
            · by_cases w3 : j = 3
              · subst w3
                rfl
              · by_cases w2 : j = 2
                · subst w2
                  rfl
                · rw [if_neg w7, if_neg w6, if_neg w4, if_neg w3, if_neg w2, h0 j (by omega), if_neg w2, if_neg w3, if_neg w4, if_neg w6, if_neg w7]
                  split <;> rfl
    | succ f ih =>
      intro i hi G' ag h0
      refine K _ _ ?_
      unfold lb_X8_begins_2
      refine br_f (by rw [zl681, zI_le (by omega)]; omega) ⟨zI_in (by omega), ?_⟩
      intro G7 e7
      rw [zI_clN (by omega)] at e7
      rw [show zI (i : Int) + (1 : Int32) = zI ((i + 1 : Nat) : Int) from zI_add _ 1]
      refine ih (i + 1) (by omega) G7 (by rw [e7]; exact ag.up ⟨rfl, rfl⟩) (fun j hj => ?_)
      rw [e7, gs_eq]
      by_cases w : j = i
      · subst w
        rw [upd_eq]
      · rw [upd_ne w]
        exact h0 j (by omega)
  exact main 681 0 (by omega) G (Ag.rf G) (fun j hj => by omega)
/-- one row copied into another of the reference -/
theorem wM_ends {post : Int32 → GH → Prop} (hX : ∀ c s, MX c s G → ∀ G', Ag (fun x c j => x = 24 ∧ c = 0 ∧ (j = 32 ∨ j = 40)) G G' → G' 24 0 32 = zI 0 → G' 24 0 40 = zI s → post (zI c) G') (h0 : G 24 0 38 = 0 → ∀ G', Ag (fun x c j => x = 24 ∧ c = 0 ∧ (j = 32 ∨ j = 40)) G G' → G' 24 0 32 = zI 0 → G' 24 0 40 = zI (-1) → post (zI 0) G') (hd : G 24 0 38 = 0 ∨ ∃ c s, MX c s G) : wp_X8_ends post G := by
  unfold wp_X8_ends
  intro G1 e1
  have k38 : G1 24 0 38 = G 24 0 38 := by rw [e1, gs_eq, upd_ne (by decide)]
  have k39 : G1 24 0 39 = G 24 0 39 := by rw [e1, gs_eq, upd_ne (by decide)]
  have a1 : Ag (fun x c j => x = 24 ∧ c = 0 ∧ (j = 32 ∨ j = 40)) G G1 := by
    rw [e1]
    exact (Ag.rf G).up ⟨rfl, rfl, Or.inl rfl⟩
  have k32 : G1 24 0 32 = zI 0 := by
    rw [e1, gs_eq, upd_eq]
    rfl
  unfold j_X8_ends_21
  rw [k38]
  rcases hd with h | ⟨c, s, h⟩
  · refine br_t h ?_
    intro G3 e3
    have k3 : G3 24 0 38 = zI 0 := by
      rw [e3, gs_eq, upd_ne (by decide), k38, h]
      rfl
    rw [k3]
    exact h0 h G3 (by rw [e3]; exact a1.up ⟨rfl, rfl, Or.inr rfl⟩) (by rw [e3, gs_eq, upd_ne (by decide)]; exact k32) (by rw [e3, gs_eq, upd_eq]; rfl)
  · refine br_f h.ne ?_
    intro G3 e3
    have k3 : G3 24 0 38 = zI c := by
      rw [e3, gs_eq, upd_ne (by decide), k38, h.1]
    rw [k3]
    exact hX c s h G3 (by rw [e3]; exact a1.up ⟨rfl, rfl, Or.inr rfl⟩) (by rw [e3, gs_eq, upd_ne (by decide)]; exact k32) (by rw [e3, gs_eq, upd_eq, k39, h.2.1])
theorem rdLns_s (f p : Nat) (R : RR) (h : ¬ tkK b n p = 0) : rdLns b n (f + 1) p R = sB (rdLn b n p R) fun x => rdLns b n f x.1 x.2 := by
  unfold rdLn
  show (if tkK b n p = 0 then _ else _) = _
  rw [if_neg h]
  cases rdLine b n p R with
  | inl e => rfl
  | inr x =>
    show sB (smi b n x.1 59) _ = sB (sB (smi b n x.1 59) _) _
    cases smi b n x.1 59 <;> rfl
set_option maxHeartbeats 2000000 in
theorem wM_register {post : Int32 → GH → Prop} {tp : Nat} (hB : MB b (G 24 32)) (h32 : G 24 0 32 = zI tp) (htp : tp ≤ 700) (hn : n ≤ tp) (hf : ∀ c s, rdAll b n = .inl (c, s) → 1 ≤ c ∧ c ≤ 4 → ∀ G', Ag WRf G G' → G' 24 0 5 = 0 → G' 24 0 32 = zI 0 → G' 24 0 40 = zI s → post (zI (-10 - (c : Int))) G') (ht : ∀ q R', rdAll b n = .inr (q, R') → ∀ G', Ag WRt G G' → MR R' (G' 24 1) → G' 24 0 5 = 0 → G' 24 0 32 = zI 0 → G' 24 0 40 = zI (-1) → G' 24 0 4 = zI 0 → G' 24 0 7 = 0 → post (zI (R' 1)) G') : wp_X8_register post (zI n) G := by
  unfold wp_X8_register
  intro G1 e1
  have k32 : G1 24 0 32 = zI tp := by
    rw [e1, gs_eq, upd_ne (by decide)]
    exact h32
  have a1 : Ag WRf G G1 := by
    rw [e1]
    exact (Ag.rf G).up ⟨rfl, Or.inr ⟨rfl, Or.inl rfl⟩⟩
  have k5 : G1 24 0 5 = 0 := by rw [e1, gs_eq, upd_eq]
  rw [k32, show (0 : Int32) = zI 0 from rfl, wM_within (by omega)]
  refine br_bt (decide_eq_true (by omega)) ?_
  have hB1 : MB b (G1 24 32) := by
    rw [e1, gs_ne (by decide)]
    exact hB
  refine wM_opens hB1 (by omega) (fun G5 ag5 hT5 h41 => ?_)
  have a5 : Ag WRf G G5 := a1.wk ag5 (fun x c j z => by unfold WO at z; unfold WRf; omega)
  have c5 : G5 24 0 5 = 0 := by
    rw [ag5 24 0 5 (fun z => by unfold WO at z; omega)]
    exact k5
  refine wM_begins (fun G7 ag7 hM7 => ?_)
  have hT7 := hT5.fr ag7
  have a7 : Ag WRf G G7 := a5.wk ag7 (fun x c j z => by unfold WRf; omega)
  have c7 : G7 24 0 5 = 0 := by
    rw [ag7 24 0 5 (by omega)]
    exact c5
  have c5' : ∀ {G'}, Ag WMR G7 G' → G' 24 0 5 = 0 := fun {G'} ag => by
    rw [ag 24 0 5 (fun z => by unfold WMR at z; omega)]
    exact c7
  have aR : ∀ {G'}, Ag WMR G7 G' → Ag WRf G G' := fun {G'} ag => a7.wk ag (fun _ _ _ => WMR_f)
  -- the end with a fault
  have bad : ∀ c s G', rdAll b n = .inl (c, s) → Ag WMR G7 G' → MX c s G' → lp_X8_register_73 post G' := by
    intro c s G' e ag hX
    intro P K
    refine K _ ?_
    unfold lb_X8_register_73
    refine br_f hX.ne ?_
    unfold j_X8_register_94
    refine wM_ends (fun c2 s2 h2 G'' ag2 q32 q40 => ?_) (fun h => absurd h hX.ne) (Or.inr ⟨c, s, hX⟩)
    have hc := hX.2.2
    have ec : c2 = c := by
      have := h2.1.symm.trans hX.1
      have h22 := h2.2.2
      rw [zI_eq (by omega)] at this
      omega
    have es : zI (s2 : Int) = zI (s : Int) := h2.2.1.symm.trans hX.2.1
    subst ec
    refine br_f (by rw [zl0, zI_eq (by omega)]; omega) ?_
    rw [show (-10 : Int32) = zI (-10) from rfl, zI_sub]
    refine hf c2 s e hc G'' ((aR ag).wk ag2 (fun x c j z => by unfold WRf; omega)) ?_ q32 (by rw [q40, es])
    rw [ag2 24 0 5 (by omega)]
    exact c5' ag
  -- the end without one
  have good : ∀ q R' G', rdAll b n = .inr (q, R') → Ag WMR G7 G' → MG b n q G' → MR R' (G' 24 2) → j_X8_register_94 post G' := by
    intro q R' G' e ag hT hM
    unfold j_X8_register_94
    refine wM_ends (fun c2 s2 h2 => absurd hT.2 h2.ne) (fun _ G2 ag2 q32 q40 => ?_) (Or.inl hT.2)
    refine br_t rfl ?_
    have hM2 : MR R' (G2 24 2) := hM.fr ag2 (fun j z => by omega)
    have a2 : Ag WRf G G2 := (aR ag).wk ag2 (fun x c j z => by unfold WRf; omega)
    have c2 : G2 24 0 5 = 0 := by
      rw [ag2 24 0 5 (by omega)]
      exact c5' ag
    intro P K
    have main : ∀ f i : Nat, i + f = 681 → ∀ G', Ag (fun x c _ => x = 24 ∧ c = 1) G2 G' → (∀ j, j < i → G' 24 1 j = zI (R' j)) → P (zI i) G' := by
      intro f
      induction f with
      | zero =>
        intro i hi G' ag' hrow
        refine K _ _ ?_
        unfold lb_X8_register_110
        refine br_t (by rw [zl681, zI_le (by omega)]; omega) ?_
        intro G24 e24 G25 e25
        have f25 : G25 24 0 = upd (upd (G2 24 0) 4 0) 7 0 := by
          rw [e25, gs_eq, e24, gs_eq, ag'.ce 24 0 (fun j z => by omega)]
        have r25 : G25 24 1 = G' 24 1 := by
          rw [e25, gs_ne (by decide), e24, gs_ne (by decide)]
        have hM25 : MR R' (G25 24 1) := by
          rw [r25]
          intro j hj
          exact hrow j (by omega)
        rw [wM_marks hM25]
        have a25 : Ag WRt G G25 := by
          rw [e25, e24]
          exact (((a2.mo (fun x c j z => by unfold WRf at z; unfold WRt; omega)).wk ag' (fun x c j z => by unfold WRt; omega)).up ⟨rfl, by omega⟩).up ⟨rfl, by omega⟩
        refine ht q R' e G25 a25 hM25 ?_ ?_ ?_ ?_ ?_
        · rw [f25, upd_ne (by decide), upd_ne (by decide)]
          exact c2
        · rw [f25, upd_ne (by decide), upd_ne (by decide)]
          exact q32
        · rw [f25, upd_ne (by decide), upd_ne (by decide)]
          exact q40
        · rw [f25, upd_ne (by decide), upd_eq]
          rfl
        · rw [f25, upd_eq]
      | succ f ih =>
        intro i hi G' ag' hrow
        refine K _ _ ?_
        unfold lb_X8_register_110
        refine br_f (by rw [zl681, zI_le (by omega)]; omega) ⟨zI_in (by omega), zI_in (by omega), ?_⟩
        intro G28 e28
        rw [zI_clN (by omega), ag'.ce 24 2 (fun j z => by omega), hM2.at (by omega)] at e28
        rw [show zI (i : Int) + (1 : Int32) = zI ((i + 1 : Nat) : Int) from zI_add _ 1]
        refine ih (i + 1) (by omega) G28 (by rw [e28]; exact ag'.up ⟨rfl, rfl⟩) (fun j hj => ?_)
        rw [e28, gs_eq]
        by_cases w : j = i
        · subst w
          rw [upd_eq]
        · rw [upd_ne w]
          exact hrow j (by omega)
    exact main 681 0 (by omega) G2 (Ag.rf G2) (fun j hj => by omega)
  refine wM_isWord hT7 (by decide) ?_
  rw [wdB_eq (w := 50) (w' := 29) rfl]
  by_cases w : wdB b n 0 29 = true
  · refine br_bt w ?_
    unfold rdAll at bad good
    rw [if_pos w] at bad good
    unfold j_X8_register_50
    refine wM_pass hT7 (fun G12 ag12 hT12 => ?_)
    have a12 := AgR (Ag.rf G7) ag12
    have hM12 := hM7.fr ag12 (nWM2 (by decide))
    refine wM_number (lo := 1) (hi := 6) hT12 (by omega) (by omega) (fun c s e G14 ag14 hX => ?_) (fun v q e G14 ag14 hT14 => ?_)
    · intro G16 e16
      have hX16 : MX c s G16 := hX.same (by rw [e16, gs_ne (by decide)])
      refine wM_mustX hX16.ne (bad c s G16 (sB_l e) ?_ hX16)
      rw [e16]
      exact (AgR a12 ag14).up ⟨rfl, Or.inl rfl⟩
    · intro G16 e16
      have hv := numR_ok e
      have ag16 : Ag (fun x c _ => x = 24 ∧ c = 2) G14 G16 := by
        rw [e16]
        exact (Ag.rf G14).up ⟨rfl, rfl⟩
      have a16 := AgR2 (AgR a12 ag14) ag16
      have hT16 := hT14.fr ag16
      have hM16 : MR (emR v) (G16 24 2) := by
        intro j hj
        rw [e16, gs_eq]
        by_cases z : j = 0
        · subst z
          rw [upd_eq]
          rfl
        · rw [upd_ne z, (hM12.fr ag14 (nWM2 (by decide))).at hj]
          unfold emR
          rw [if_neg z, if_neg z]
      rw [sB_r e] at bad good
      refine wM_must 59 rfl (by omega) hT16 (fun c s e2 G17 ag17 hX => bad c s G17 (sB_l e2) (AgR a16 ag17) hX) (fun q2 e2 G17 ag17 hT17 => ?_)
      have a17 := AgR a16 ag17
      have hM17 := hM16.fr ag17 (nWM2 (by decide))
      rw [sB_r e2] at bad good
      generalize hT0 : rdLns b n 701 q2 (emR v) = T at bad good
      have main : ∀ f p : Nat, ∀ R : RR, ∀ G', n < p + f → VR 12 R → tz R → MR R (G' 24 2) → MG b n p G' → Ag WMR G7 G' → rdLns b n f p R = T → lp_X8_register_73 post G' := by
        intro f
        induction f with
        | zero =>
          intro p R G' h1 hV hz hM hT ag hr
          have := hT.1.2.1.2
          omega
        | succ f ih =>
          intro p R G' h1 hV hz hM hT ag hr
          have hpn := hT.1.2.1.2
          have hrg := tk_rg (b := b) hpn
          intro P K
          refine K _ ?_
          unfold lb_X8_register_73
          refine br_t hT.2 ?_
          rw [hT.1.2.2.2.2.1, zl0, zI_eq (by omega)]
          refine br_c (fun z => ?_) (fun z => ?_)
          · unfold rdLns at hr
            rw [if_pos (by omega)] at hr
            exact good p R G' hr.symm ag hT hM
          · rw [rdLns_s f p R (by omega)] at hr
            refine wM_readLine hV hz hT hM (fun c s e3 G'' ag2 hX => ?_) (fun q3 R3 e3 G3 ag3 hT3 hM3 => ?_)
            · rw [sB_l e3] at hr
              exact bad c s G'' hr.symm (ag.tr ag2) hX P K
            · rw [sB_r e3] at hr
              unfold rdLn at e3
              obtain ⟨⟨q4, R4⟩, e4, e5⟩ := sB_ok e3
              obtain ⟨q6, e6, e7⟩ := sB_ok e5
              injection e7 with e8
              injection e8 with e9 e10
              have hok := rdLine_ok hV hz hpn e4
              have h6 : q6 = tkE b n q4 ∧ tkK b n q4 = 3 := smi_ok e6
              have h7 := tk_rg (b := b) hok.2.2.2
              have h8 := h7.2.2.2.1 (by omega)
              have e10 : R4 = R3 := e10
              exact ih q3 R3 G3 (by omega) (e10 ▸ hok.1) (e10 ▸ hok.2.1) hM3 hT3 (ag.tr ag3) hr P K
      have h17 := hT17.1.2.1
      exact main 701 q2 (emR v) G17 (by omega) (emR_V (by omega)) (emR_tz v) hM17 hT17 a17 hT0
  · refine br_bf (by simpa using w) ?_
    refine wM_wrong 1 rfl (by omega) hT7 (fun G' ag hX => ?_)
    unfold j_X8_register_50
    refine wM_passX hX.ne (wM_numberX hX.ne ?_)
    intro G16 e16
    have hX16 : MX 1 (tkS b n 0) G16 := hX.same (by rw [e16, gs_ne (by decide)])
    refine wM_mustX hX16.ne (bad 1 _ G16 ?_ ?_ hX16)
    · unfold rdAll
      rw [if_neg w]
    · rw [e16]
      exact (AgR (Ag.rf G7) ag).up ⟨rfl, Or.inl rfl⟩
end
