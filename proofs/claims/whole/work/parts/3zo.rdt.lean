/-! ===== the whole text, in the class ===== -/
def WRa (x c _j : Nat) : Prop := x = 1 ∧ c = 0 ∨ x = 2 ∨ x = 10
theorem WD_Ra {x c j : Nat} (h : WD x c j) : WRa x c j := by
  unfold WD WF WA at h
  unfold WRa
  omega
theorem WE_Ra {x c j : Nat} (h : WE x c j) : WRa x c j := WD_Ra (WE_D h)
section
variable {G : GH} {b : Nat → Nat} {n : Nat}
theorem CR.ld1 {v : Nat} {A A' : Nat → Nat → Int32} (h : CR (emR 1) A) (h0 : A' 0 = upd (A 0) 0 (zI v)) (hc : ∀ c, c ≠ 0 → A' c = A c) : CR (emR v) A' := by
  have e : ∀ i, i ≠ 0 → emR v i = emR 1 i := fun i hi => by
    unfold emR
    rw [if_neg hi, if_neg hi]
  refine ⟨?_, ?_, ?_, ?_, ?_⟩
  · rw [h0, upd_eq]
    rfl
  · rw [h0, upd_ne (by decide), e 1 (by decide)]
    exact h.mk
  · intro c hc2
    rw [hc 10 (by decide), e _ (by omega)]
    exact h.nb hc2
  · intro w hw
    rw [hc 11 (by decide), e _ (by omega)]
    exact h.rl hw
  · intro m hm
    have hm : m < 0 := hm
    omega
set_option maxHeartbeats 1000000 in
theorem wI_read {post : Int32 → GH → Prop} (hB : TB b (G 1 1)) (hn : n ≤ 700) (hf : ∀ c s, rdAll b n = .inl (c, s) → ∀ G', Ag WRa G G' → G' 1 0 1 = zI 0 → CX c s G' → post (zI c) G') (ht : ∀ q R', rdAll b n = .inr (q, R') → ∀ G', Ag WRa G G' → G' 1 0 1 = zI 0 → G' 2 0 4 = zI (-1) → CR R' (G' 10) → post (zI 0) G') : wp_X3_read post (zI n) G := by
  unfold wp_X3_read
  intro G1 e1 G2 e2
  refine wI_clear (fun G3 ag3 hC3 => ?_)
  have a2 : Ag WRa G G2 := by
    rw [e2, e1]
    exact ((Ag.rf G).up (Or.inr (Or.inl rfl))).up (Or.inr (Or.inl rfl))
  have a3 : Ag WRa G G3 := a2.wk ag3 (fun _ _ _ z => Or.inr (Or.inr z))
  have f3 : G3 2 0 3 = zI 0 := by
    rw [ag3 2 0 3 (by omega), e2, gs_eq, upd_ne (by decide), e1, gs_eq, upd_eq]
    rfl
  have f4 : G3 2 0 4 = zI (-1) := by
    rw [ag3 2 0 4 (by omega), e2, gs_eq, upd_eq]
    rfl
  have hB3 : TB b (G3 1 1) := by
    rw [a3.ce 1 1 (fun j w => by unfold WRa at w; omega)]
    exact hB
  refine wI_takeText hB3 hn (fun G5 ag5 g5 hT5 => ?_)
  have a5 : Ag WRa G G5 := a3.wk ag5 (fun _ _ _ z => Or.inl ⟨z.1, z.2.1⟩)
  have hC5 : CR (emR 1) (G5 10) := hC3.fr ag5 (fun c j w => by unfold WX at w; omega)
  have k3 : G5 2 0 3 = zI 0 := by
    rw [ag5 2 0 3 (fun w => by unfold WX at w; omega)]
    exact f3
  have k4 : G5 2 0 4 = zI (-1) := by
    rw [ag5 2 0 4 (fun w => by unfold WX at w; omega)]
    exact f4
  have s1 : ∀ {G' : GH}, Ag WD G5 G' → G' 1 0 1 = zI 0 := fun {G'} ag => by
    rw [ag 1 0 1 (fun w => by unfold WD WF WA at w; omega)]
    exact g5
  have s3 : ∀ {G' : GH}, Ag WE G5 G' → G' 2 0 3 = zI 0 := fun {G'} ag => by
    rw [ag 2 0 3 (fun w => by unfold WE WG WA at w; omega)]
    exact k3
  have s4 : ∀ {G' : GH}, Ag WE G5 G' → G' 2 0 4 = zI (-1) := fun {G'} ag => by
    rw [ag 2 0 4 (fun w => by unfold WE WG WA at w; omega)]
    exact k4
  have aD : ∀ {G' : GH}, Ag WD G5 G' → Ag WRa G G' := fun {G'} ag => a5.wk ag (fun _ _ _ => WD_Ra)
  have bad : ∀ c s v3 G', rdAll b n = .inl (c, s) → Ag WD G5 G' → CX c s G' → lp_X3_read_32 post (0 : Int32) v3 G' := by
    intro c s v3 G' e ag hX
    intro P K
    refine K _ _ _ ?_
    unfold lb_X3_read_32
    refine br_t rfl ?_
    rw [hX.1]
    exact hf c s e G' (aD ag) (s1 ag) hX
  unfold wp_X3_readLands
  refine wI_isWord hT5 (by decide) ?_
  by_cases w : wdB b n 0 29 = true
  · refine br_bt w ?_
    unfold rdAll at hf ht bad
    rw [if_pos w] at hf ht bad
    refine wI_adv hT5 (fun G6 ag6 hT6 => ?_)
    have ae6 : Ag WE G5 G6 := AgEA (Ag.rf G5) ag6
    have hC6 := hC5.fr ag6 nWA10
    refine wI_takeNumber (lo := 1) (hi := 6) (un := -1) hT6 rfl rfl rfl (by omega) (by omega) (by omega) (fun c s e G' ag hX => br_bf rfl ?_) (fun v q e G7 ag7 hT7 h7 => br_bt rfl ?_)
    · exact bad c s _ G' (sB_l e) (AgDE ae6 ag) hX
    · intro G9 e9
      rw [h7] at e9
      have hv := numR_ok e
      have ae7 := AgEG ae6 ag7
      have hC7 := hC6.fr ag7 nWG10
      have ag9 : Ag (fun x _ _ => x = 10) G7 G9 := by
        rw [e9]
        exact (Ag.rf G7).up rfl
      have hC9 : CR (emR v) (G9 10) := hC7.ld1 (by rw [e9, gs_eq]) (fun c hc => by rw [e9, gs_ne (by omega)])
      have ae9 := AgE10 ae7 ag9
      have hT9 := hT7.fr ag9 n1_10
      rw [sB_r e] at hf ht bad
      refine wI_takeSemicolon hT9 (fun c s e2 G' ag hX => ?_) (fun q2 e2 G10 ag10 hT10 => ?_)
      · exact bad c s _ G' (sB_l e2) (AgDE ae9 ag) hX
      · have ae10 := AgEG ae9 ag10
        have hC10 := hC9.fr ag10 nWG10
        rw [sB_r e2] at hf ht bad
        generalize hT0 : rdLns b n 701 q2 (emR v) = T at hf ht bad
        have main : ∀ f p line : Nat, ∀ R : RR, ∀ G', n < p + f → line ≤ p → VR 12 R → tz R → CR R (G' 10) → CT b n p (G' 1) → Ag WE G5 G' → rdLns b n f p R = T → lp_X3_read_32 post (1 : Int32) (zI line) G' := by
          intro f
          induction f with
          | zero =>
            intro p line R G' h1 h2 hV hz hC hT ag hr
            have := hT.2.1.2
            omega
          | succ f ih =>
            intro p line R G' h1 h2 hV hz hC hT ag hr
            obtain ⟨hB', ⟨hn', hpn'⟩, h2', h3', h5', h6', h4'⟩ := id hT
            have hr' := tk_rg (b := b) hpn'
            have fin : tkK b n p = 0 → post (G' 2 0 3) G' := by
              intro z
              unfold rdLns at hr
              rw [if_pos z] at hr
              rw [← hr] at ht
              rw [s3 ag]
              exact ht _ _ rfl G' (aD (ag.mo (fun _ _ _ => WE_D))) (s1 (ag.mo (fun _ _ _ => WE_D))) (s4 ag) hC
            intro P K
            refine K _ _ _ ?_
            unfold lb_X3_read_32
            refine br_f (by decide) ?_
            rw [zl700, zI_le (by omega)]
            refine br_c (fun z => fin (hr'.2.2.2.2.2.mpr (by omega))) (fun z => ?_)
            rw [h2', zl0, zI_eq (by omega)]
            refine br_c (fun u => fin (by omega)) (fun u => ?_)
            unfold rdLns at hr
            rw [if_neg (by omega)] at hr
            refine wI_readLine hV hT hC (fun c s e3 G'' ag2 hX => br_bf rfl ?_) (fun q3 R3 e3 G3 ag3 hT3 hC3 => br_bt rfl ?_)
            · rw [sB_l e3] at hr
              exact bad c s _ G'' hr.symm ((ag.mo (fun _ _ _ => WE_D)).tr ag2) hX P K
            · have hok := rdLine_ok hV hz hpn' e3
              rw [sB_r e3] at hr
              have ag3' := ag.tr ag3
              refine wI_takeSemicolon hT3 (fun c s e4 G'' ag2 hX => br_bf rfl ?_) (fun q4 e4 G4 ag4 hT4 => br_bt rfl ?_)
              · rw [sB_l e4] at hr
                exact bad c s _ G'' hr.symm (AgDE ag3' ag2) hX P K
              · rw [sB_r e4] at hr
                have h4 := smi_ok e4
                have h5 := tk_rg (b := b) hok.2.2.2
                have h6 := h5.2.2.2.1 (by omega)
                rw [show zI (line : Int) + (1 : Int32) = zI ((line + 1 : Nat) : Int) from zI_add line 1]
                exact ih q4 (line + 1) R3 G4 (by omega) (by omega) hok.1 hok.2.1 (hC3.fr ag4 nWG10) hT4 (AgEG ag3' ag4) hr P K
        have h10 := hT10.2.1
        exact main 701 q2 0 (emR v) G10 (by omega) (by omega) (emR_V (by omega)) (emR_tz v) hC10 hT10 ae10 hT0
  · refine br_bf (by simpa using w) ?_
    refine wI_failR 1 rfl (by omega) hT5 (fun G' ag hX => ?_)
    refine bad 1 _ _ G' ?_ (ag.mo (fun _ _ _ z => Or.inl z)) hX
    unfold rdAll
    rw [if_neg w]
end
