/-! ===== the text of a register, read: in the class ===== -/
def CX (c s : Nat) (G : GH) : Prop := G 2 0 3 = zI c ∧ G 2 0 4 = zI s ∧ 1 ≤ c ∧ c ≤ 4
def WF (x c j : Nat) : Prop := WA x c j ∨ (x = 2 ∧ c = 0 ∧ 2 ≤ j ∧ j ≤ 4)
def WG (x c j : Nat) : Prop := WA x c j ∨ (x = 2 ∧ c = 0 ∧ j = 2)
def WD (x c j : Nat) : Prop := WF x c j ∨ x = 10
def WE (x c j : Nat) : Prop := WG x c j ∨ x = 10
theorem WG_F {x c j : Nat} (h : WG x c j) : WF x c j := h.imp id (fun z => ⟨z.1, z.2.1, by omega, by omega⟩)
theorem WE_D {x c j : Nat} (h : WE x c j) : WD x c j := h.imp WG_F id
section
variable {G : GH} {b : Nat → Nat} {n p : Nat}
theorem CT.fr {W : Nat → Nat → Nat → Prop} {G' : GH} (h : CT b n p (G 1)) (ag : Ag W G G') (hw : ∀ c j, ¬ W 1 c j) : CT b n p (G' 1) := by
  rw [ag.ob 1 hw]
  exact h
theorem wI_failR {post : Bool → GH → Prop} {x : Int32} (c : Nat) (hx : x = zI c) (hc : 1 ≤ c ∧ c ≤ 4) (hT : CT b n p (G 1)) (hp : ∀ G', Ag WF G G' → CX c (tkS b n p) G' → post false G') : wp_X3_fail post x G := by
  subst hx
  unfold wp_X3_fail
  intro G1 e1 G2 e2
  have h3 : G1 1 0 3 = zI (tkS b n p) := by
    rw [e1, gs_ne (by omega)]
    exact hT.2.2.2.1
  refine hp G2 ?_ ⟨?_, ?_, hc⟩
  · rw [e2, e1]
    exact (((Ag.rf G).up (Or.inr ⟨rfl, rfl, by omega, by omega⟩)).up (Or.inr ⟨rfl, rfl, by omega, by omega⟩))
  · rw [e2, gs_eq, upd_ne (by decide), e1, gs_eq, upd_eq]
  · rw [e2, gs_eq, upd_eq]
    exact h3
theorem wI_takeNumber {post : Bool → GH → Prop} {x y z : Int32} {lo hi un : Int} (hT : CT b n p (G 1)) (hx : x = zI lo) (hy : y = zI hi) (hz : z = zI un) (hl : 0 ≤ lo ∧ lo ≤ 9999) (hh : -1 ≤ hi ∧ hi ≤ 9999) (hu : -1 ≤ un ∧ un ≤ 9999) (hf : ∀ c s, numR b n p lo hi un = .inl (c, s) → ∀ G', Ag WF G G' → CX c s G' → post false G') (ht : ∀ v q, numR b n p lo hi un = .inr (v, q) → ∀ G', Ag WG G G' → CT b n q (G' 1) → G' 2 0 2 = zI v → post true G') : wp_X3_takeNumber post x y z G := by
  subst hx hy hz
  obtain ⟨hB, ⟨hn, hpn⟩, h2, h3, h5, h6, h4⟩ := id hT
  have hr := tk_rg (b := b) hpn
  have hv := vlN_le 100000 b (tkS b n p) (tkE b n p - tkS b n p)
  have hv : tkV b n p ≤ 100000 := hv
  unfold wp_X3_takeNumber
  rw [h2, zl2, zI_eq (by omega)]
  refine br_c (fun w => ?_) (fun w => ?_)
  · have w : tkK b n p = 2 := by omega
    rw [h4 w, zI_lt (by omega), zI_lt (by omega), zI_eq (by omega)]
    have bad : ¬ (lo ≤ (tkV b n p : Int) ∧ (tkV b n p : Int) ≤ hi ∧ (tkV b n p : Int) ≠ un) → j_X3_takeNumber_50 post G := by
      intro h
      unfold j_X3_takeNumber_50
      refine wI_failR 2 rfl (by omega) hT (fun G' ag hX => hf _ _ ?_ G' ag hX)
      unfold numR
      rw [if_pos w, if_neg h]
    refine br_c (fun q => bad (by omega)) (fun q => br_c (fun q1 => bad (by omega)) (fun q1 => br_c (fun q2 => bad (by omega)) (fun q2 => ?_)))
    intro G7 e7
    have ag7 : Ag WG G G7 := by
      rw [e7]
      exact (Ag.rf G).up (Or.inr ⟨rfl, rfl, rfl⟩)
    have hT7 : CT b n p (G7 1) := by
      have : G7 1 = G 1 := by
        funext c
        rw [e7, gs_ne (by omega)]
      rw [this]
      exact hT
    refine wI_adv hT7 (fun G8 ag8 hT8 => ?_)
    refine ht (tkV b n p) (tkE b n p) ?_ G8 (ag7.wk ag8 (fun _ _ _ z => Or.inl z)) hT8 ?_
    · unfold numR
      rw [if_pos w, if_pos (by omega)]
    · rw [ag8 2 0 2 (fun z => by unfold WA at z; omega), e7, gs_eq, upd_eq]
  · refine wI_failR 1 rfl (by omega) hT (fun G' ag hX => hf _ _ ?_ G' ag hX)
    unfold numR
    rw [if_neg (by omega)]
theorem wI_takeSemicolon {post : Bool → GH → Prop} (hT : CT b n p (G 1)) (hf : ∀ c s, smi b n p 59 = .inl (c, s) → ∀ G', Ag WF G G' → CX c s G' → post false G') (ht : ∀ q, smi b n p 59 = .inr q → ∀ G', Ag WG G G' → CT b n q (G' 1) → post true G') : wp_X3_takeSemicolon post G := by
  unfold wp_X3_takeSemicolon
  refine wI_isSign 59 hT rfl (by omega) ?_
  by_cases w : sgB b n p 59 = true
  · refine br_bt w ?_
    refine wI_adv hT (fun G' ag hT' => ht _ ?_ G' (ag.mo (fun _ _ _ z => Or.inl z)) hT')
    unfold smi
    rw [if_pos w]
  · refine br_bf (by simpa using w) ?_
    refine wI_failR 1 rfl (by omega) hT (fun G' ag hX => hf _ _ ?_ G' ag hX)
    unfold smi
    rw [if_neg w]
end
section
variable {G : GH} {b : Nat → Nat} {n p : Nat} {R : RR} {post : Bool → GH → Prop}
theorem CR.fr {W : Nat → Nat → Nat → Prop} {G' : GH} {o : Nat} (h : CR R (G o)) (ag : Ag W G G') (hw : ∀ c j, ¬ W o c j) : CR R (G' o) := by
  rw [ag.ob o hw]
  exact h
theorem nWG10 : ∀ c j, ¬ WG 10 c j := fun c j w => by unfold WG WA at w; omega
theorem nWA10 : ∀ c j, ¬ WA 10 c j := fun c j w => by unfold WA at w; omega
theorem AgDE {G G' G'' : GH} (h1 : Ag WE G G') (h2 : Ag WF G' G'') : Ag WD G G'' := (h1.mo (fun _ _ _ => WE_D)).wk h2 (fun _ _ _ z => Or.inl z)
theorem AgEG {G G' G'' : GH} (h1 : Ag WE G G') (h2 : Ag WG G' G'') : Ag WE G G'' := h1.wk h2 (fun _ _ _ z => Or.inl z)
theorem AgEA {G G' G'' : GH} (h1 : Ag WE G G') (h2 : Ag WA G' G'') : Ag WE G G'' := h1.wk h2 (fun _ _ _ z => Or.inl (Or.inl z))
theorem AgE10 {G G' G'' : GH} (h1 : Ag WE G G') (h2 : Ag (fun x _ _ => x = 10) G' G'') : Ag WE G G'' := h1.wk h2 (fun _ _ _ z => Or.inr z)
theorem n1_10 : ∀ c j : Nat, ¬ (fun (x _ _ : Nat) => x = 10) 1 c j := fun _ _ w => by
  have w : (1 : Nat) = 10 := w
  omega
theorem wI_readCouple {k N : Nat} {x : Int32} {hi : Int} {u : Nat → Nat → RR} (hT : CT b n p (G 1)) (hx : x = zI (hi + 1)) (hh : -1 ≤ hi ∧ hi ≤ 9999) (hC : CR R (G 10)) (hset : ∀ (a c : Nat) (G' : GH) (ps : Bool → GH → Prop), (a : Int) ≤ hi → (c : Int) ≤ hi → a ≠ c → CR R (G' 10) → (∀ bb G'', Ag (fun x _ _ => x = 10) G' G'' → CR (u a c) (G'' 10) → ps bb G'') → wp_X7_setCouple ps 10 k N (zI a) (zI c) (1 : Int32) G') (hf : ∀ c s, rdCpl b n p hi u = .inl (c, s) → ∀ G', Ag WD G G' → CX c s G' → post false G') (ht : ∀ q R', rdCpl b n p hi u = .inr (q, R') → ∀ G', Ag WE G G' → CT b n q (G' 1) → CR R' (G' 10) → post true G') : wp_X3_readCouple post 10 k N x G := by
  subst hx
  unfold wp_X3_readCouple
  unfold rdCpl at hf ht
  refine wI_adv hT (fun G1 ag1 hT1 => ?_)
  have ae1 : Ag WE G G1 := AgEA (Ag.rf G) ag1
  have hC1 := hC.fr ag1 nWA10
  have e1 : zI (hi + 1) - (1 : Int32) = zI hi := by
    rw [zl1, zI_sub]
    exact zI_cg (by omega)
  rw [e1]
  refine wI_takeNumber (lo := 0) (hi := hi) (un := -1) hT1 rfl rfl rfl (by omega) hh (by omega) (fun c s e G' ag hX => br_bf rfl ?_) (fun v q e G3 ag hT3 h3 => br_bt rfl ?_)
  · exact hf c s (sB_l e) G' (AgDE ae1 ag) hX
  · intro y ey
    rw [h3] at ey
    subst ey
    have ae3 := AgEG ae1 ag
    have hC3 := hC1.fr ag nWG10
    have hv := numR_ok e
    refine wI_takeNumber (lo := 0) (hi := hi) (un := v) hT3 rfl rfl rfl (by omega) hh (by omega) (fun c s e2 G' ag hX => br_bf rfl ?_) (fun v2 q2 e2 G7 ag7 hT7 h7 => br_bt rfl ?_)
    · refine hf c s ?_ G' (AgDE ae3 ag) hX
      rw [sB_r e]
      exact sB_l e2
    · have hv2 := numR_ok e2
      rw [h7]
      refine hset v v2 G7 _ (by omega) (by omega) (by omega) (hC3.fr ag7 nWG10) (fun bb G8 ag8 hC8 => ?_)
      refine ht q2 (u v v2) ?_ G8 (AgE10 (AgEG ae3 ag7) ag8) (hT7.fr ag8 n1_10) hC8
      rw [sB_r e, sB_r e2]
set_option maxHeartbeats 1000000 in
theorem wI_readUse (hV : VR 12 R) (hT : CT b n p (G 1)) (hC : CR R (G 10)) (hf : ∀ c s, rdUse b n p R = .inl (c, s) → ∀ G', Ag WD G G' → CX c s G' → post false G') (ht : ∀ q R', rdUse b n p R = .inr (q, R') → ∀ G', Ag WE G G' → CT b n q (G' 1) → CR R' (G' 10) → post true G') : wp_X3_readUse post G := by
  have hm := hV.mk
  have hl6 := hV.l6
  have hl1 := hV.l1
  unfold wp_X3_readUse
  refine wI_adv hT (fun G1 ag1 hT1 => ?_)
  have ae1 : Ag WE G G1 := AgEA (Ag.rf G) ag1
  have hC1 := hC.fr ag1 nWA10
  obtain ⟨hB, ⟨hn, hpn⟩, h2, h3, h5, h6, h4⟩ := id hT1
  have hr := tk_rg (b := b) hpn
  have hv : tkV b n (tkE b n p) ≤ 100000 := vlN_le 100000 b _ _
  have j71 : ¬ (tkK b n (tkE b n p) = 2 ∧ tkV b n (tkE b n p) < R 1 ∧ qq R (tkV b n (tkE b n p)) 13 = 12) → j_X3_readUse_71 post G1 := by
    intro w0
    unfold rdUse at hf ht
    rw [if_neg w0] at hf ht
    unfold rdUs at hf ht
    unfold j_X3_readUse_71
    rw [hC1.mk, zl1, zI_sub]
    refine wI_takeNumber (lo := 0) (hi := (R 1 : Int) - 1) (un := -1) hT1 rfl rfl rfl (by omega) (by omega) (by omega) (fun c s e G' ag hX => br_bf rfl ?_) (fun m q e G3 ag hT3 h3 => br_bt rfl ?_)
    · exact hf c s (sB_l e) G' (AgDE ae1 ag) hX
    · intro y ey
      rw [h3] at ey
      subst ey
      have ae3 := AgEG ae1 ag
      have hC3 := hC1.fr ag nWG10
      have am := numR_ok e
      rw [wI_halfCount hC3, zI_sub]
      refine wI_takeNumber (lo := 0) (hi := 2 * (R 0 : Int) - 1) (un := -1) hT3 rfl rfl rfl (by omega) (by omega) (by omega) (fun c s e2 G' ag hX => br_bf rfl ?_) (fun h q2 e2 G7 ag7 hT7 h7 => br_bt rfl ?_)
      · refine hf c s ?_ G' (AgDE ae3 ag) hX
        rw [sB_r e]
        exact sB_l e2
      · intro y ey
        rw [h7] at ey
        subst ey
        have ae7 := AgEG ae3 ag7
        have hC7 := hC3.fr ag7 nWG10
        have ah := numR_ok e2
        refine wI_takeNumber (lo := 0) (hi := 9999) (un := -1) hT7 rfl rfl rfl (by omega) (by omega) (by omega) (fun c s e3 G' ag hX => br_bf rfl ?_) (fun f q3 e3 G8 ag8 hT8 h8 => br_bt rfl ?_)
        · refine hf c s ?_ G' (AgDE ae7 ag) hX
          rw [sB_r e, sB_r e2]
          exact sB_l e3
        · intro y ey
          rw [h8] at ey
          subst ey
          have ae8 := AgEG ae7 ag8
          have hC8 := hC7.fr ag8 nWG10
          have af := numR_ok e3
          refine wI_takeNumber (lo := f) (hi := 9999) (un := -1) hT8 rfl rfl rfl (by omega) (by omega) (by omega) (fun c s e4 G' ag hX => br_bf rfl ?_) (fun t q4 e4 G9 ag9 hT9 h9 => br_bt rfl ?_)
          · refine hf c s ?_ G' (AgDE ae8 ag) hX
            rw [sB_r e, sB_r e2, sB_r e3]
            exact sB_l e4
          · have ae9 := AgEG ae8 ag9
            have hC9 := hC8.fr ag9 nWG10
            have hu := hV.uc (m := m) (by omega)
            have hu2 : qq R m 13 < 12 := by
              by_cases w : qq R m 13 = 12
              · refine absurd ⟨am.1, ?_, ?_⟩ w0
                · rw [← am.2.2.2.2.2]
                  omega
                · rw [← am.2.2.2.2.2]
                  exact w
              · omega
            rw [h9]
            refine wI_addUse hV (by omega) hC9 (by omega) hu2 (fun G10 ag10 hC10 => ?_)
            refine ht q4 (usR R m h f t) ?_ G10 (AgE10 ae9 ag10) (hT9.fr ag10 n1_10) hC10
            rw [sB_r e, sB_r e2, sB_r e3, sB_r e4]
  rw [h2, zl2, zI_eq (by omega)]
  have j39 : ¬ (tkK b n (tkE b n p) = 2 ∧ tkV b n (tkE b n p) < R 1 ∧ qq R (tkV b n (tkE b n p)) 13 = 12) → j_X3_readUse_39 post G1 := by
    intro w0
    unfold j_X3_readUse_39 j_X3_readUse_40
    exact br_t rfl (j71 w0)
  refine br_c (fun w => ?_) (fun w => j39 (fun z => w (by rw [z.1]; rfl)))
  have w : tkK b n (tkE b n p) = 2 := by omega
  rw [h4 w, hC1.mk, zI_le (by omega)]
  refine br_c (fun q => j39 (by omega)) (fun q => ?_)
  have q : tkV b n (tkE b n p) < R 1 := by omega
  have hu := hV.uc q
  unfold j_X3_readUse_40
  refine br_f (by decide) ?_
  rw [h4 w]
  refine ⟨zI_in (by omega), ?_⟩
  rw [zI_clN (by omega), hC1.uc q, zl12, zI_lt (by omega)]
  refine br_c (fun z => j71 (fun y => by omega)) (fun z => ?_)
  have y : tkK b n (tkE b n p) = 2 ∧ tkV b n (tkE b n p) < R 1 ∧ qq R (tkV b n (tkE b n p)) 13 = 12 := ⟨w, q, by omega⟩
  refine wI_failR 4 rfl (by omega) hT1 (fun G' ag hX => hf _ _ ?_ G' (AgDE ae1 ag) hX)
  unfold rdUse
  rw [if_pos y]
end
