/-! ===== names, marks, rules and lines, in the reference ===== -/
section
variable {G : GH} {b : Nat → Nat} {n p : Nat} {R : RR} {post : GH → Prop}
/-- a row with a name's length and letters put at a place -/
def nmF (f : Nat → Int32) (at_ len : Nat) (g : Nat → Nat) : Nat → Int32 := fun j => if j = at_ then zI len else if at_ + 1 ≤ j ∧ j < at_ + 1 + len then zI (g (j - (at_ + 1))) else f j
theorem wM_readName {at_ : Nat} (ha : at_ + 11 ≤ 681) (hT : MG b n p G) (hf : ∀ c, (c = 1 ∧ ¬ tkK b n p = 1 ∨ c = 3 ∧ tkK b n p = 1 ∧ ¬ tkE b n p - tkS b n p ≤ 10) → ∀ G', Ag WMR G G' → MX c (tkS b n p) G' → post G') (ht : tkK b n p = 1 → tkE b n p - tkS b n p ≤ 10 → ∀ G', Ag WMR G G' → MG b n (tkE b n p) G' → G' 24 2 = nmF (G 24 2) at_ (tkE b n p - tkS b n p) (fun k => b (tkS b n p + k)) → post G') : wp_X8_readName post (zI at_) G := by
  obtain ⟨⟨hB, ⟨hn, hpn⟩, h33, h34, h35, h36, h37⟩, h38⟩ := id hT
  have hr := tk_rg (b := b) hpn
  unfold wp_X8_readName
  refine br_t h38 ?_
  rw [h35, zl1, zI_eq (by omega)]
  refine br_c (fun w => ?_) (fun w => ?_)
  · have w : tkK b n p = 1 := by omega
    have hs := hr.2.2.2.1 (by omega)
    unfold j_X8_readName_20
    refine br_t h38 ?_
    rw [h37, h36, zI_sub, zl10, zI_le (by omega)]
    refine br_c (fun z => ?_) (fun z => ?_)
    · have z : tkE b n p - tkS b n p ≤ 10 := by omega
      unfold j_X8_readName_46
      refine br_t h38 ?_
      rw [show zI (at_ : Int) + (0 : Int32) = zI (at_ : Int) from (zI_add at_ 0).trans (zI_cg (by omega))]
      refine ⟨zI_in (by omega), ?_⟩
      intro G4 e4
      rw [zI_clN (by omega), h37, h36, zI_sub] at e4
      intro y ey
      have e40 : G4 24 0 = G 24 0 := by rw [e4, gs_ne (by decide)]
      rw [e40, h36] at ey
      subst ey
      intro P K
      have main : ∀ f k : Nat, k + f = tkE b n p - tkS b n p → ∀ G', Ag (fun x c _ => x = 24 ∧ c = 2) G G' → (∀ j, G' 24 2 j = if j = at_ then zI ((tkE b n p - tkS b n p : Nat) : Int) else if at_ + 1 ≤ j ∧ j < at_ + 1 + k then zI (b (tkS b n p + (j - (at_ + 1)))) else G 24 2 j) → P (zI at_) (zI ((tkS b n p + k : Nat) : Int)) G' := by
        intro f
        induction f with
        | zero =>
          intro k hk G' ag hrow
          have hT' : MG b n p G' := hT.fr ag
          have hk2 : k = tkE b n p - tkS b n p := by omega
          subst hk2
          refine K _ _ _ ?_
          unfold lb_X8_readName_76
          rw [hT'.1.2.2.2.2.2.2]
          refine br_t (by rw [zI_le (by omega)]; omega) ?_
          refine wM_pass hT' (fun G7 ag7 hT7 => ?_)
          refine ht w z G7 (AgR (AgR2 (Ag.rf G) ag) ag7) hT7 ?_
          rw [ag7.ce 24 2 (nWM2 (by decide))]
          funext j
          rw [hrow j]
          rfl
        | succ f ih =>
          intro k hk G' ag hrow
          have hT' : MG b n p G' := hT.fr ag
          refine K _ _ _ ?_
          unfold lb_X8_readName_76
          rw [hT'.1.2.2.2.2.2.2, hT'.1.2.2.2.2.2.1]
          refine br_f (by rw [zI_le (by omega)]; omega) ⟨zI_in (by omega), ?_⟩
          rw [show zI (at_ : Int) + (1 : Int32) + zI ((tkS b n p + k : Nat) : Int) - zI (tkS b n p : Int) = zI ((at_ + 1 + k : Nat) : Int) by rw [zl1, zI_add, zI_add, zI_sub]; exact zI_cg (by omega)]
          refine ⟨zI_in (by omega), ?_⟩
          intro G9 e9
          rw [zI_clN (n := at_ + 1 + k) (by omega), zI_clN (n := tkS b n p + k) (by omega), (hT'.1.1 (tkS b n p + k) (by omega)).1] at e9
          rw [show zI ((tkS b n p + k : Nat) : Int) + (1 : Int32) = zI ((tkS b n p + (k + 1) : Nat) : Int) from zI_add _ 1]
          refine ih (k + 1) (by omega) G9 (by rw [e9]; exact ag.up ⟨rfl, rfl⟩) (fun j => ?_)
          rw [e9, gs_eq]
          by_cases u : j = at_ + 1 + k
          · subst u
            rw [upd_eq, if_neg (by omega), if_pos (by omega)]
            congr 3
            omega
          · rw [upd_ne u, hrow j]
            by_cases v : j = at_
            · rw [if_pos v, if_pos v]
            · rw [if_neg v, if_neg v]
              by_cases y : at_ + 1 ≤ j ∧ j < at_ + 1 + k
              · rw [if_pos y, if_pos (by omega)]
              · rw [if_neg y, if_neg (by omega)]
      refine main (tkE b n p - tkS b n p) 0 (by omega) G4 (by rw [e4]; exact (Ag.rf G).up ⟨rfl, rfl⟩) (fun j => ?_)
      rw [e4, gs_eq]
      by_cases v : j = at_
      · subst v
        rw [upd_eq, if_pos rfl]
        exact zI_cg (by omega)
      · rw [upd_ne v, if_neg v, if_neg (by omega)]
    · unfold j_X8_readName_46
      refine wM_wrong 3 rfl (by omega) hT (fun G' ag hX => br_f hX.ne (hf 3 (Or.inr ⟨rfl, w, by omega⟩) G' (AgR (Ag.rf G) ag) hX))
  · refine wM_wrong 1 rfl (by omega) hT (fun G' ag hX => ?_)
    unfold j_X8_readName_20
    refine br_f hX.ne ?_
    unfold j_X8_readName_46
    exact br_f hX.ne (hf 1 (Or.inl ⟨rfl, by omega⟩) G' (AgR (Ag.rf G) ag) hX)
theorem wM_markX {v1 v2 v3 : Int32} (hX : ¬ G 24 0 38 = 0) (hp : post G) : lp_X8_readMark_57 post v1 v2 v3 G := by
  intro P K
  refine K _ _ _ _ ?_
  unfold lb_X8_readMark_57
  exact wM_isNumberX hX (br_bf rfl (br_f hX hp))
set_option maxHeartbeats 2000000 in
theorem wM_readMark (hV : VR 12 R) (hz : tz R) (hT : MG b n p G) (hM : MR R (G 24 2)) (hf : ∀ c s, rdMark b n p R = .inl (c, s) → ∀ G', Ag WMR G G' → MX c s G' → post G') (ht : ∀ q R', rdMark b n p R = .inr (q, R') → ∀ G', Ag WMR G G' → MG b n q G' → MR R' (G' 24 2) → post G') : wp_X8_readMark post G := by
  have hm := hV.mk
  unfold wp_X8_readMark
  unfold rdMark at hf ht
  rw [hM.at (by decide), zl12, zI_eq (by omega)]
  refine br_c (fun w => ?_) (fun w => ?_)
  · rw [if_neg (show ¬ R 1 < 12 by omega)] at hf
    refine wM_wrong 4 rfl (by omega) hT (fun G' ag hX => ?_)
    unfold j_X8_readMark_16
    exact wM_passX hX.ne (br_f hX.ne (hf _ _ rfl G' (AgR (Ag.rf G) ag) hX))
  · rw [if_pos (show R 1 < 12 by omega)] at hf ht
    have w : R 1 < 12 := by omega
    unfold j_X8_readMark_16
    refine wM_pass hT (fun G1 ag1 hT1 => br_t hT1.2 ?_)
    have a1 := AgR (Ag.rf G) ag1
    have hM1 := hM.fr ag1 (nWM2 (by decide))
    generalize tkE b n p = p1 at hT1 hf ht
    intro y ey
    rw [hM1.at (by decide), zl18, zl51, zI_mul, zI_add, show ((18 : Int) + 51 * (R 1 : Int)) = ((18 + 51 * R 1 : Nat) : Int) by omega] at ey
    subst ey
    unfold rdNm at hf ht
    have hr1 := tk_rg (b := b) hT1.1.2.1.2
    refine wM_readName (at_ := 18 + 51 * R 1) (by omega) hT1 (fun c hc G' ag hX => ?_) (fun k1 l1 G6 ag6 hT6 hrow => ?_)
    · refine wM_numberX hX.ne (wM_markX hX.ne ?_)
      rcases hc with ⟨rfl, hc⟩ | ⟨rfl, hc1, hc2⟩
      · rw [if_neg hc] at hf
        exact hf _ _ rfl G' (a1.tr ag) hX
      · rw [if_pos hc1, if_neg hc2] at hf
        exact hf _ _ rfl G' (a1.tr ag) hX
    · rw [if_pos k1, if_pos l1] at hf ht
      have a6 := a1.tr ag6
      have hs := hr1.2.2.2.1 (by omega)
      refine wM_number (lo := 0) (hi := 9999) hT6 (by omega) (by omega) (fun c s e G' ag hX => wM_markX hX.ne (hf c s (sB_l e) G' (AgR a6 ag) hX)) (fun d q e G8 ag8 hT8 => ?_)
      have hd := numR_ok e
      have a8 := AgR a6 ag8
      have hrow8 : G8 24 2 = nmF (G1 24 2) (18 + 51 * R 1) (tkE b n p1 - tkS b n p1) (fun k => b (tkS b n p1 + k)) := by
        rw [ag8.ce 24 2 (nWM2 (by decide))]
        exact hrow
      rw [sB_r e] at hf ht
      generalize hT0 : rdCls b n 11 0 q = T at hf ht
      have main : ∀ f t s q1 : Nat, t + f = 11 → t ≤ cntB s.testBit 10 → s < 1024 → rdCls b n (11 - t) s q1 = T → ∀ G', Ag WMR G G' → MG b n q1 G' → G' 24 2 = nmF (G1 24 2) (18 + 51 * R 1) (tkE b n p1 - tkS b n p1) (fun k => b (tkS b n p1 + k)) → lp_X8_readMark_57 post (zI ((18 + 51 * R 1 : Nat) : Int)) (zI d) (zI s) G' := by
        intro f
        induction f with
        | zero =>
          intro t s q1 htf hts
          have := cntB_le s.testBit 10
          omega
        | succ f ih =>
          intro t s q1 htf hts hs10 hrd G' ag hT' hrw
          have hvw := tkV_min b n q1
          have hw : tkW b n q1 ≤ 1000000 := vlN_le 1000000 b _ _
          rw [show 11 - t = (11 - (t + 1)) + 1 by omega] at hrd
          unfold rdCls at hrd
          intro P K
          refine K _ _ _ _ ?_
          unfold lb_X8_readMark_57
          refine wM_isNumber hT' ?_
          by_cases u : tkK b n q1 = 2
          · refine br_bt (decide_eq_true u) (wM_numberHere hT' u ?_)
            rw [if_pos u] at hrd
            have tn : ¬ (tkV b n q1 < 10 ∧ s.testBit (tkV b n q1) = true) → j_X8_readMark_91 post P (zI ((18 + 51 * R 1 : Nat) : Int)) (zI d) (zI s) G' := by
              intro hv10
              rw [if_neg hv10] at hrd
              unfold j_X8_readMark_91
              refine wM_number (lo := 0) (hi := 9) hT' (by omega) (by omega) (fun c s' e2 G2 ag2 hX => ?_) (fun v q2 e2 G2 ag2 hT2 => ?_)
              · intro y ey
                rw [sB_l e2] at hrd
                rw [← hrd] at hf
                exact wM_markX hX.ne (hf c s' (sB_l rfl) G2 (AgR ag ag2) hX) P K
              · intro y ey
                have hv' := numR_ok e2
                rw [sB_r e2] at hrd
                have hbit : s.testBit v = false := by
                  rw [← Bool.not_eq_true]
                  intro y
                  rw [hv'.2.2.2.2.2] at y
                  exact hv10 ⟨by omega, y⟩
                rw [zI_bit (by omega), zI_or] at ey
                subst ey
                have hcn := cnt_add (s := s) (v := v) (by omega) hbit
                exact ih (t + 1) (s ||| 2 ^ v) q2 (by omega) (by omega) (Nat.or_lt_two_pow (n := 10) hs10 (Nat.pow_lt_pow_right (a := 2) (by decide) (by omega))) hrd G2 (AgR ag ag2) hT2 (by rw [ag2.ce 24 2 (nWM2 (by decide))]; exact hrw) P K
            rw [zl10, zI_le (by omega)]
            refine br_c (fun v => tn (by omega)) (fun v => ?_)
            have ew : tkW b n q1 = tkV b n q1 := by omega
            rw [ew, wM_has (by omega) (by omega)]
            by_cases hb : s.testBit (tkV b n q1) = true
            · refine br_bt hb ?_
              rw [if_pos ⟨by omega, hb⟩] at hrd
              rw [← hrd] at hf
              refine wM_wrong 2 rfl (by omega) hT' (fun G2 ag2 hX => ?_)
              unfold j_X8_readMark_91
              refine wM_numberX hX.ne ?_
              intro y ey
              exact wM_markX hX.ne (hf _ _ (sB_l rfl) G2 (AgR ag ag2) hX) P K
            · exact br_bf (by simpa using hb) (tn (fun z => hb z.2))
          · rw [if_neg u] at hrd
            rw [← hrd] at ht
            refine br_bf (decide_eq_false u) (br_t hT'.2 ?_)
            rw [show zI ((18 + 51 * R 1 : Nat) : Int) + (12 : Int32) = zI ((18 + 51 * R 1 + 12 : Nat) : Int) from zI_add _ 12, show zI ((18 + 51 * R 1 : Nat) : Int) + (11 : Int32) = zI ((18 + 51 * R 1 + 11 : Nat) : Int) from zI_add _ 11]
            refine ⟨zI_in (by omega), ?_⟩
            intro G14 e14
            refine ⟨zI_in (by omega), ?_⟩
            intro G15 e15 G16 e16
            rw [zI_clN (by omega)] at e14 e15
            have r15 : G15 24 2 = upd (upd (G' 24 2) (18 + 51 * R 1 + 12) (zI d)) (18 + 51 * R 1 + 11) (zI s) := by
              rw [e15, gs_eq, e14, gs_eq]
            have r1 : G15 24 2 1 = zI (R 1) := by
              rw [r15, upd_ne (by omega), upd_ne (by omega), hrw]
              unfold nmF
              rw [if_neg (by omega), if_neg (by omega)]
              exact hM1.at (by decide)
            have r16 : G16 24 2 = upd (upd (upd (G' 24 2) (18 + 51 * R 1 + 12) (zI d)) (18 + 51 * R 1 + 11) (zI s)) 1 (zI ((R 1 + 1 : Nat) : Int)) := by
              rw [e16, gs_eq, r1, r15, show zI (R 1 : Int) + (1 : Int32) = zI ((R 1 + 1 : Nat) : Int) from zI_add _ 1]
            have ag16 : Ag (fun x c _ => x = 24 ∧ c = 2) G' G16 := by
              rw [e16, e15, e14]
              exact (((Ag.rf G').up ⟨rfl, rfl⟩).up ⟨rfl, rfl⟩).up ⟨rfl, rfl⟩
            refine ht _ _ rfl G16 (AgR2 ag ag16) (hT'.fr ag16) ?_
            intro j hj
            rw [r16]
            unfold mkR
            by_cases w1 : j = 1
            · subst w1
              rw [upd_eq, if_pos rfl]
            · rw [upd_ne w1, if_neg w1]
              by_cases w2 : j = 18 + 51 * R 1 + 11
              · subst w2
                rw [upd_eq, if_neg (by omega), if_neg (by omega), if_neg (by omega), if_pos rfl]
              · rw [upd_ne w2]
                by_cases w3 : j = 18 + 51 * R 1 + 12
                · subst w3
                  rw [upd_eq, if_neg (by omega), if_neg (by omega), if_neg (by omega), if_neg (by omega), if_pos rfl]
                · rw [upd_ne w3, hrw]
                  unfold nmF
                  by_cases w4 : j = 18 + 51 * R 1
                  · rw [if_pos w4, if_neg (by omega), if_pos w4]
                  · rw [if_neg w4]
                    by_cases w5 : j < 18 + 51 * R 1
                    · rw [if_neg (by omega), if_pos w5]
                      exact hM1.at hj
                    · by_cases w6 : j < 18 + 51 * R 1 + 1 + (tkE b n p1 - tkS b n p1)
                      · rw [if_pos (by omega), if_neg w5, if_neg w4, if_pos w6]
                      · rw [if_neg (by omega), if_neg w5, if_neg w4, if_neg w6, if_neg w2, if_neg w3, hM1.at hj, hz j (by omega)]
                        split <;> rfl
      exact main 11 0 0 q (by omega) (Nat.zero_le _) (by omega) hT0 G8 a8 hT8 hrow8
theorem wM_mostOf {post : Int32 → GH → Prop} {k : Nat} (hk : k < 6) (hp : post (zI (mst k)) G) : wp_X8_mostOf post (zI k) G := by
  unfold wp_X8_mostOf
  rw [zI_toInt (by omega)]
  have h6 : k = 0 ∨ k = 1 ∨ k = 2 ∨ k = 3 ∨ k = 4 ∨ k = 5 := by omega
  rcases h6 with rfl | rfl | rfl | rfl | rfl | rfl
  · exact ⟨fun _ => hp, fun w => absurd w (by decide), fun w => absurd w (by decide), fun w => absurd w (by decide), fun w => absurd w (by decide)⟩
  · exact ⟨fun w => by omega, fun _ => hp, fun w => absurd w (by decide), fun w => absurd w (by decide), fun w => absurd w (by decide)⟩
  · exact ⟨fun w => by omega, fun w => absurd w (by decide), fun _ => hp, fun w => absurd w (by decide), fun w => absurd w (by decide)⟩
  · exact ⟨fun w => by omega, fun w => absurd w (by decide), fun w => absurd w (by decide), fun _ => hp, fun w => absurd w (by decide)⟩
  · exact ⟨fun w => by omega, fun w => absurd w (by decide), fun w => absurd w (by decide), fun w => absurd w (by decide), fun _ => hp⟩
  · exact ⟨fun _ => hp, fun w => absurd w (by decide), fun w => absurd w (by decide), fun w => absurd w (by decide), fun w => absurd w (by decide)⟩
theorem wM_ruleHere {post : Int32 → GH → Prop} (hT : MG b n p G) (hp : post (zI (rlI (rlW b n p))) G) : wp_X8_ruleHere post G := by
  unfold wp_X8_ruleHere
  unfold rlW at hp
  have stp : ∀ {w w' : Nat} {A B : GH → Prop}, w' < nsx → sxB.getD w' [] = sxB.getD w [] → (wdB b n p w = true → B G) → (¬ wdB b n p w = true → A G) → wp_X8_isWord (fun (x : Bool) (g : GH) => (x = false → A g) ∧ (x = true → B g)) w' G := by
    intro w w' A B hw he h1 h2
    refine wM_isWord hT hw ?_
    rw [wdB_eq he]
    by_cases z : wdB b n p w = true
    · exact br_bt z (h1 z)
    · exact br_bf (by simpa using z) (h2 z)
  refine stp (w := 34) (by decide) rfl (fun z => ?_) (fun z => ?_)
  · rw [if_pos z] at hp
    exact hp
  · rw [if_neg z] at hp
    refine stp (w := 35) (by decide) rfl (fun z => ?_) (fun z => ?_)
    · rw [if_pos z] at hp
      exact hp
    · rw [if_neg z] at hp
      refine stp (w := 36) (by decide) rfl (fun z => ?_) (fun z => ?_)
      · rw [if_pos z] at hp
        exact hp
      · rw [if_neg z] at hp
        refine stp (w := 37) (by decide) rfl (fun z => ?_) (fun z => ?_)
        · rw [if_pos z] at hp
          exact hp
        · rw [if_neg z] at hp
          refine stp (w := 38) (by decide) rfl (fun z => ?_) (fun z => ?_)
          · rw [if_pos z] at hp
            exact hp
          · rw [if_neg z] at hp
            refine stp (w := 39) (by decide) rfl (fun z => ?_) (fun z => ?_)
            · rw [if_pos z] at hp
              exact hp
            · rw [if_neg z] at hp
              exact hp
theorem wM_readRule (hV : VR 12 R) (hT : MG b n p G) (hM : MR R (G 24 2)) (hf : ∀ c s, rdRule b n p R = .inl (c, s) → ∀ G', Ag WMR G G' → MX c s G' → post G') (ht : ∀ q R', rdRule b n p R = .inr (q, R') → ∀ G', Ag WMR G G' → MG b n q G' → MR R' (G' 24 2) → post G') : wp_X8_readRule post G := by
  unfold wp_X8_readRule
  unfold rdRule at hf ht
  refine wM_ruleHere hT ?_
  cases hrl : rlW b n p with
  | none =>
    rw [hrl] at hf
    refine br_t rfl ?_
    refine wM_wrong 1 rfl (by omega) hT (fun G' ag hX => ?_)
    unfold j_X8_readRule_15
    refine wM_passX hX.ne (br_f hX.ne ?_)
    unfold j_X8_readRule_39
    exact br_f hX.ne (hf _ _ rfl G' (AgR (Ag.rf G) ag) hX)
  | some k =>
    rw [hrl] at hf ht
    have hk := rlW_lt hrl
    have hms := mst_le k
    rw [show rlI (some k) = (k : Int) from rfl]
    refine br_f (by rw [show (-1 : Int32) = zI (-1) from rfl, zI_eq (by omega)]; omega) ?_
    unfold j_X8_readRule_15
    refine wM_pass hT (fun G1 ag1 hT1 => br_t hT1.2 (wM_mostOf hk ?_))
    have a1 := AgR (Ag.rf G) ag1
    have hM1 := hM.fr ag1 (nWM2 (by decide))
    refine wM_number (lo := 0) (hi := (mst k : Int)) hT1 (by omega) (by omega) (fun c s e G2 ag2 hX => ?_) (fun v q e G2 ag2 hT2 => ?_)
    · unfold j_X8_readRule_39
      exact br_f hX.ne (hf c s (sB_l e) G2 (AgR a1 ag2) hX)
    · unfold j_X8_readRule_39
      refine br_t hT2.2 ?_
      rw [show (2 : Int32) + zI (k : Int) = zI ((2 + k : Nat) : Int) from zI_add 2 k]
      refine ⟨zI_in (by omega), ?_⟩
      intro G8 e8
      rw [zI_clN (by omega)] at e8
      have hM2 := hM1.fr ag2 (nWM2 (by decide))
      have ag8 : Ag (fun x c _ => x = 24 ∧ c = 2) G2 G8 := by
        rw [e8]
        exact (Ag.rf G2).up ⟨rfl, rfl⟩
      refine ht q (ruR R k v) (sB_r e) G8 (AgR2 (AgR a1 ag2) ag8) (hT2.fr ag8) ?_
      intro j hj
      rw [e8, gs_eq]
      unfold ruR
      by_cases w : j = 2 + k
      · subst w
        rw [upd_eq, if_pos rfl]
      · rw [upd_ne w, if_neg w]
        exact hM2.at hj
def rdLn (b : Nat → Nat) (n p : Nat) (R : RR) : PR := sB (rdLine b n p R) fun x => sB (smi b n x.1 59) fun q => .inr (q, x.2)
theorem wM_readLine (hV : VR 12 R) (hz : tz R) (hT : MG b n p G) (hM : MR R (G 24 2)) (hf : ∀ c s, rdLn b n p R = .inl (c, s) → ∀ G', Ag WMR G G' → MX c s G' → post G') (ht : ∀ q R', rdLn b n p R = .inr (q, R') → ∀ G', Ag WMR G G' → MG b n q G' → MR R' (G' 24 2) → post G') : wp_X8_readLine post G := by
  have kf : ∀ c s, rdLine b n p R = .inl (c, s) → ∀ G', Ag WMR G G' → MX c s G' → j_X8_readLine_72 post G' := by
    intro c s e G' ag hX
    unfold j_X8_readLine_72
    exact wM_mustX hX.ne (hf c s (sB_l e) G' ag hX)
  have kt : ∀ q R', rdLine b n p R = .inr (q, R') → ∀ G', Ag WMR G G' → MG b n q G' → MR R' (G' 24 2) → j_X8_readLine_72 post G' := by
    intro q R' e G' ag hT' hM'
    unfold j_X8_readLine_72
    refine wM_must 59 rfl (by omega) hT' (fun c s e2 G2 ag2 hX => ?_) (fun q2 e2 G2 ag2 hT2 => ?_)
    · refine hf c s ?_ G2 (AgR ag ag2) hX
      unfold rdLn
      rw [sB_r e]
      exact sB_l e2
    · refine ht q2 R' ?_ G2 (AgR ag ag2) hT2 (hM'.fr ag2 (nWM2 (by decide)))
      unfold rdLn
      rw [sB_r e]
      exact sB_r e2
  clear hf ht
  unfold wp_X8_readLine
  unfold rdLine at kf kt
  refine wM_isWord hT (by decide) ?_
  rw [wdB_eq (w := 46) (w' := 32) rfl]
  by_cases w3 : wdB b n p 32 = true
  · refine br_bt w3 ?_
    have n1 := wdB_ne (w := 32) (w' := 30) (by decide) w3
    have n2 := wdB_ne (w := 32) (w' := 31) (by decide) w3
    rw [if_neg (by rw [n1]; decide), if_neg (by rw [n2]; decide), if_pos w3] at kf kt
    exact wM_readNear hV hT hM kf kt
  · refine br_bf (by simpa using w3) ?_
    refine wM_isWord hT (by decide) ?_
    rw [wdB_eq (w := 47) (w' := 30) rfl]
    by_cases w1 : wdB b n p 30 = true
    · refine br_bt w1 ?_
      rw [if_pos w1] at kf kt
      exact wM_readMark hV hz hT hM kf kt
    · refine br_bf (by simpa using w1) ?_
      rw [if_neg w1] at kf kt
      refine wM_isWord hT (by decide) ?_
      rw [wdB_eq (w := 48) (w' := 31) rfl]
      by_cases w2 : wdB b n p 31 = true
      · refine br_bt w2 ?_
        rw [if_pos w2] at kf kt
        exact wM_readUse hV hT hM kf kt
      · refine br_bf (by simpa using w2) ?_
        rw [if_neg w2, if_neg w3] at kf kt
        refine wM_isWord hT (by decide) ?_
        rw [wdB_eq (w := 49) (w' := 33) rfl]
        by_cases w4 : wdB b n p 33 = true
        · refine br_bt w4 ?_
          rw [if_pos w4] at kf kt
          exact wM_readConsent hV hT hM kf kt
        · refine br_bf (by simpa using w4) ?_
          rw [if_neg w4] at kf kt
          exact wM_readRule hV hT hM kf kt
end
