/-! ===== marks, rules, lines and the whole text, in the class ===== -/
section
variable {G : GH} {b : Nat → Nat} {n p : Nat} {R : RR} {post : Bool → GH → Prop}
theorem cnt_add {s v : Nat} (hv : v < 10) (h : s.testBit v = false) : cntB s.testBit 10 < cntB (s ||| 2 ^ v).testBit 10 := by
  refine cntB_lt 10 v hv (fun j hj => ?_) h ?_
  · rw [Nat.testBit_or, hj]
    rfl
  · rw [Nat.testBit_or, Nat.testBit_two_pow_self, Bool.or_true]
theorem wI_isClass {v : Nat} (hv : v ≤ 100000) (hp : post (decide (v < 10)) G) : wp_X7_isClass post (zI v) G := by
  unfold wp_X7_isClass
  rw [zl0, zl10, zI_lt (by omega), zI_le (by omega)]
  refine br_c (fun q => by omega) (fun q => br_c (fun q1 => ?_) (fun q1 => ?_))
  · rw [decide_eq_false (by omega)] at hp
    exact hp
  · rw [decide_eq_true (by omega)] at hp
    exact hp
set_option maxHeartbeats 2000000 in
theorem wI_readMark (hV : VR 12 R) (hT : CT b n p (G 1)) (hC : CR R (G 10)) (hf : ∀ c s, rdMark b n p R = .inl (c, s) → ∀ G', Ag WD G G' → CX c s G' → post false G') (ht : ∀ q R', rdMark b n p R = .inr (q, R') → ∀ G', Ag WE G G' → CT b n q (G' 1) → CR R' (G' 10) → post true G') : wp_X3_readMark post G := by
  have hm := hV.mk
  unfold wp_X3_readMark
  unfold rdMark at hf ht
  rw [hC.mk, zl12, zI_lt (by omega)]
  refine br_c (fun w => ?_) (fun w => ?_)
  · rw [if_pos (show R 1 < 12 by omega)] at hf ht
    refine wI_adv hT (fun G1 ag1 hT1 => ?_)
    have ae1 : Ag WE G G1 := AgEA (Ag.rf G) ag1
    have hC1 := hC.fr ag1 nWA10
    obtain ⟨hB, ⟨hn, hpn⟩, h2, h3, h5, h6, h4⟩ := id hT1
    generalize tkE b n p = p1 at hT1 hf ht hpn h2 h3 h5 h4
    have hr := tk_rg (b := b) hpn
    unfold rdNm at hf ht
    rw [h2, zl1, zI_eq (by omega)]
    refine br_c (fun k1 => ?_) (fun k1 => ?_)
    · have k1 : tkK b n p1 = 1 := by omega
      rw [if_pos k1] at hf ht
      have hs := hr.2.2.2.1 (by omega)
      unfold wp_X6_tokenLength
      dsimp only
      rw [h5, h3, zI_sub, zl10, zI_le (by omega)]
      refine br_c (fun l1 => ?_) (fun l1 => ?_)
      · have l1 : tkE b n p1 - tkS b n p1 ≤ 10 := by omega
        rw [if_pos l1] at hf ht
        intro y ey
        subst ey
        rw [show ((tkE b n p1 : Int) - (tkS b n p1 : Int)) = ((tkE b n p1 - tkS b n p1 : Nat) : Int) by omega]
        refine wI_adv hT1 (fun G11 ag11 hT11 => ?_)
        have ae11 := AgEA ae1 ag11
        have hC11 := hC1.fr ag11 nWA10
        refine wI_takeNumber (lo := 0) (hi := 9999) (un := -1) hT11 rfl rfl rfl (by omega) (by omega) (by omega) (fun c s e G' ag hX => br_bf rfl ?_) (fun d q e G13 ag13 hT13 h13 => br_bt rfl ?_)
        · exact hf c s (sB_l e) G' (AgDE ae11 ag) hX
        · have ae13 := AgEG ae11 ag13
          have hC13 := hC11.fr ag13 nWG10
          have hd := numR_ok e
          rw [sB_r e] at hf ht
          rw [h13]
          have hB13 := hT13.1
          refine wI_addMark hV (by omega) hC13 (by decide) hB13 (by omega) (by omega) (fun k hk => tk_sml k1 (by omega) (by omega)) (fun G16 ag16 hC16 => ?_)
          have ae16 := AgE10 ae13 ag16
          have hT16 := hT13.fr ag16 n1_10
          generalize hT0 : rdCls b n 11 0 q = T at hf ht
          have main : ∀ f t s q1 : Nat, t + f = 10 → t ≤ cntB s.testBit 10 → s < 1024 → rdCls b n (11 - t) s q1 = T → ∀ G', Ag WE G G' → CT b n q1 (G' 1) → CR (mkR R (fun k => b (tkS b n p1 + k)) (tkE b n p1 - tkS b n p1) d s) (G' 10) → lp_X3_readMark_121 post (zI (R 1)) (zI t) G' := by
            intro f
            induction f with
            | zero =>
              intro t s q1 htf hts hs10 hrd G' ag hT' hC'
              have t10 : t = 10 := by omega
              subst t10
              obtain ⟨hB', ⟨hn', hpn'⟩, h2', h3', h5', h6', h4'⟩ := id hT'
              have hr' := tk_rg (b := b) hpn'
              have hv : tkV b n q1 ≤ 100000 := vlN_le 100000 b _ _
              have hall : ∀ i, i < 10 → s.testBit i = true := by
                intro i hi
                cases hb : s.testBit i
                · have := cnt_add (s := s) hi hb
                  have := cntB_le (s ||| 2 ^ i).testBit 10
                  omega
                · rfl
              intro P K
              refine K _ _ _ ?_
              unfold lb_X3_readMark_121
              refine br_f (by rw [zl10, zI_lt (by omega)]; omega) ?_
              rw [h2', zl2, zI_eq (by omega)]
              rw [show 11 - 10 = 0 + 1 from rfl] at hrd
              unfold rdCls at hrd
              refine br_c (fun u => ?_) (fun u => ?_)
              · have u : tkK b n q1 = 2 := by omega
                rw [if_pos u] at hrd
                rw [h4' u]
                refine wI_isClass hv ?_
                have tn : tkV b n q1 ≥ 10 → j_X3_readMark_180 post P (zI (R 1)) (zI ((10 : Nat) : Int)) G' := by
                  intro hv10
                  rw [if_neg (by omega)] at hrd
                  unfold j_X3_readMark_180
                  refine wI_takeNumber (lo := 0) (hi := 9) (un := -1) hT' rfl rfl rfl (by omega) (by omega) (by omega) (fun c s e2 G'' ag2 hX => br_bf rfl ?_) (fun v q2 e2 G'' ag2 hT2 hv2 => ?_)
                  · rw [sB_l e2] at hrd
                    rw [← hrd] at hf
                    exact hf c s (sB_l rfl) G'' (AgDE ag ag2) hX
                  · have := numR_ok e2
                    omega
                by_cases hv10 : tkV b n q1 < 10
                · refine br_bt (decide_eq_true hv10) ⟨zI_in (by omega), ?_⟩
                  have hgd := hC'.gd (m := R 1) (by rw [mkR_1]; omega)
                  rw [mkR_n11 (by omega)] at hgd
                  rw [h4' u, zI_clN (by omega), hgd, wI_isIn (by omega) (by omega), hall _ hv10]
                  refine br_bt rfl ?_
                  rw [if_pos ⟨hv10, hall _ hv10⟩] at hrd
                  rw [← hrd] at hf
                  exact wI_failR 2 rfl (by omega) hT' (fun G'' ag2 hX => hf _ _ (sB_l rfl) G'' (AgDE ag ag2) hX)
                · exact br_bf (decide_eq_false hv10) (tn (by omega))
              · rw [if_neg (by omega)] at hrd
                rw [← hrd] at ht
                exact ht _ _ rfl G' ag hT' hC'
            | succ f ih =>
              intro t s q1 htf hts hs10 hrd G' ag hT' hC'
              obtain ⟨hB', ⟨hn', hpn'⟩, h2', h3', h5', h6', h4'⟩ := id hT'
              have hr' := tk_rg (b := b) hpn'
              have hv : tkV b n q1 ≤ 100000 := vlN_le 100000 b _ _
              intro P K
              refine K _ _ _ ?_
              unfold lb_X3_readMark_121
              refine br_f (by rw [zl10, zI_lt (by omega)]; omega) ?_
              rw [h2', zl2, zI_eq (by omega)]
              rw [show 11 - t = (11 - (t + 1)) + 1 by omega] at hrd
              unfold rdCls at hrd
              refine br_c (fun u => ?_) (fun u => ?_)
              · have u : tkK b n q1 = 2 := by omega
                rw [if_pos u] at hrd
                rw [h4' u]
                refine wI_isClass hv ?_
                have hgd := hC'.gd (m := R 1) (by rw [mkR_1]; omega)
                rw [mkR_n11 (by omega)] at hgd
                have tn : ¬ (tkV b n q1 < 10 ∧ s.testBit (tkV b n q1) = true) → j_X3_readMark_180 post P (zI (R 1)) (zI (t : Int)) G' := by
                  intro hv10
                  rw [if_neg hv10] at hrd
                  unfold j_X3_readMark_180
                  refine wI_takeNumber (lo := 0) (hi := 9) (un := -1) hT' rfl rfl rfl (by omega) (by omega) (by omega) (fun c s e2 G'' ag2 hX => br_bf rfl ?_) (fun v q2 e2 G2 ag2 hT2 hv2 => br_bt rfl ?_)
                  · rw [sB_l e2] at hrd
                    rw [← hrd] at hf
                    exact hf c s (sB_l rfl) G'' (AgDE ag ag2) hX
                  · have hv' := numR_ok e2
                    have hC2 := hC'.fr ag2 nWG10
                    rw [sB_r e2] at hrd
                    have hbit : s.testBit v = false := by
                      rw [← Bool.not_eq_true]
                      intro y
                      rw [hv'.2.2.2.2.2] at y
                      exact hv10 ⟨by omega, y⟩
                    have hgd2 := hC2.gd (m := R 1) (by rw [mkR_1]; omega)
                    rw [mkR_n11 (by omega)] at hgd2
                    refine ⟨zI_in (by omega), zI_in (by omega), ?_⟩
                    intro G26 e26
                    rw [zI_clN (by omega), hgd2, hv2, zI_bit (by omega), zI_or] at e26
                    have ag26 : Ag (fun x _ _ => x = 10) G2 G26 := by
                      rw [e26]
                      exact (Ag.rf G2).up rfl
                    have hc26 : CR (mkR R (fun k => b (tkS b n p1 + k)) (tkE b n p1 - tkS b n p1) d (s ||| 2 ^ v)) (G26 10) := hC2.cls hV (by omega) (by rw [e26, gs_eq]) (fun c hc => by rw [e26, gs_ne (by omega)])
                    rw [zl1, zI_add]
                    have hcn := cnt_add (s := s) (v := v) (by omega) hbit
                    exact ih (t + 1) (s ||| 2 ^ v) q2 (by omega) (by omega) (Nat.or_lt_two_pow (n := 10) hs10 (Nat.pow_lt_pow_right (a := 2) (by decide) (by omega))) hrd G26 (AgE10 (AgEG ag ag2) ag26) (hT2.fr ag26 n1_10) hc26 P K
                by_cases hv10 : tkV b n q1 < 10
                · refine br_bt (decide_eq_true hv10) ⟨zI_in (by omega), ?_⟩
                  rw [h4' u, zI_clN (by omega), hgd, wI_isIn (by omega) (by omega)]
                  by_cases hb : s.testBit (tkV b n q1) = true
                  · refine br_bt hb ?_
                    rw [if_pos ⟨hv10, hb⟩] at hrd
                    rw [← hrd] at hf
                    exact wI_failR 2 rfl (by omega) hT' (fun G'' ag2 hX => hf _ _ (sB_l rfl) G'' (AgDE ag ag2) hX)
                  · exact br_bf (by simpa using hb) (tn (fun z => hb z.2))
                · exact br_bf (decide_eq_false hv10) (tn (fun z => hv10 z.1))
              · rw [if_neg (by omega)] at hrd
                rw [← hrd] at ht
                exact ht _ _ rfl G' ag hT' hC'
          exact main 10 0 0 q (by omega) (Nat.zero_le _) (by omega) hT0 G16 ae16 hT16 hC16
      · rw [if_neg (show ¬ tkE b n p1 - tkS b n p1 ≤ 10 by omega)] at hf
        exact wI_failR 3 rfl (by omega) hT1 (fun G' ag hX => hf _ _ rfl G' (AgDE ae1 ag) hX)
    · rw [if_neg (show ¬ tkK b n p1 = 1 by omega)] at hf
      exact wI_failR 1 rfl (by omega) hT1 (fun G' ag hX => hf _ _ rfl G' (AgDE ae1 ag) hX)
  · rw [if_neg (show ¬ R 1 < 12 by omega)] at hf
    exact wI_failR 4 rfl (by omega) hT (fun G' ag hX => hf _ _ rfl G' (AgDE (Ag.rf G) ag) hX)
def rlI : Option Nat → Int
  | none => -1
  | some k => k
theorem wI_ruleOfWord {post : Int32 → GH → Prop} (hT : CT b n p (G 1)) (hp : post (zI (rlI (rlW b n p))) G) : wp_X3_ruleOfWord post G := by
  unfold wp_X3_ruleOfWord
  unfold rlW at hp
  have stp : ∀ {w : Nat} {A B : GH → Prop}, w < nsx → (wdB b n p w = true → B G) → (¬ wdB b n p w = true → A G) → wp_X6_isWord (fun (x : Bool) (g : GH) => (x = false → A g) ∧ (x = true → B g)) w G := by
    intro w A B hw h1 h2
    refine wI_isWord hT hw ?_
    by_cases z : wdB b n p w = true
    · exact br_bt z (h1 z)
    · exact br_bf (by simpa using z) (h2 z)
  refine stp (by decide) (fun z => ?_) (fun z => ?_)
  · rw [if_pos z] at hp
    exact hp
  · rw [if_neg z] at hp
    refine stp (by decide) (fun z => ?_) (fun z => ?_)
    · rw [if_pos z] at hp
      exact hp
    · rw [if_neg z] at hp
      refine stp (by decide) (fun z => ?_) (fun z => ?_)
      · rw [if_pos z] at hp
        exact hp
      · rw [if_neg z] at hp
        refine stp (by decide) (fun z => ?_) (fun z => ?_)
        · rw [if_pos z] at hp
          exact hp
        · rw [if_neg z] at hp
          refine stp (by decide) (fun z => ?_) (fun z => ?_)
          · rw [if_pos z] at hp
            exact hp
          · rw [if_neg z] at hp
            refine stp (by decide) (fun z => ?_) (fun z => ?_)
            · rw [if_pos z] at hp
              exact hp
            · rw [if_neg z] at hp
              exact hp
theorem rlW_lt {k : Nat} (hk : rlW b n p = some k) : k < 6 := by
  unfold rlW at hk
  repeat' split at hk
  all_goals first | (cases hk; omega) | cases hk
theorem tb1 {k : Nat} (h : k < 6) : (sTb 1).getD k 0 = zI (mst k) := (by decide : ∀ k : Fin 6, (sTb 1).getD k.val 0 = zI (mst k.val)) ⟨k, h⟩
theorem mst_le (k : Nat) : mst k ≤ 999 := by
  unfold mst
  split <;> omega
theorem wI_readLine (hV : VR 12 R) (hT : CT b n p (G 1)) (hC : CR R (G 10)) (hf : ∀ c s, rdLine b n p R = .inl (c, s) → ∀ G', Ag WD G G' → CX c s G' → post false G') (ht : ∀ q R', rdLine b n p R = .inr (q, R') → ∀ G', Ag WE G G' → CT b n q (G' 1) → CR R' (G' 10) → post true G') : wp_X3_readLine post G := by
  have hm := hV.mk
  unfold wp_X3_readLine
  unfold rdLine at hf ht
  refine wI_isWord hT (by decide) ?_
  by_cases w1 : wdB b n p 30 = true
  · refine br_bt w1 ?_
    rw [if_pos w1] at hf ht
    exact wI_readMark hV hT hC hf ht
  · refine br_bf (by simpa using w1) ?_
    rw [if_neg w1] at hf ht
    refine wI_isWord hT (by decide) ?_
    by_cases w2 : wdB b n p 31 = true
    · refine br_bt w2 ?_
      rw [if_pos w2] at hf ht
      exact wI_readUse hV hT hC hf ht
    · refine br_bf (by simpa using w2) ?_
      rw [if_neg w2] at hf ht
      refine wI_isWord hT (by decide) ?_
      by_cases w3 : wdB b n p 32 = true
      · refine br_bt w3 ?_
        rw [if_pos w3] at hf ht
        exact wI_readCouple (hi := 9) hT rfl (by omega) hC (fun a c G' ps ha hc hac hC' hps => wI_setN true rfl hV hC' (by omega) (by omega) hac (fun G'' ag hC'' => hps _ G'' (ag.mo (fun _ _ _ z => z.1)) hC'')) hf ht
      · refine br_bf (by simpa using w3) ?_
        rw [if_neg w3] at hf ht
        refine wI_isWord hT (by decide) ?_
        by_cases w4 : wdB b n p 33 = true
        · refine br_bt w4 ?_
          rw [if_pos w4] at hf ht
          rw [hC.mk]
          exact wI_readCouple (hi := (R 1 : Int) - 1) hT (zI_cg (by omega)) (by omega) hC (fun a c G' ps ha hc hac hC' hps => wI_setC true rfl hV (by omega) hC' (by omega) (by omega) hac (fun G'' ag hC'' => hps _ G'' (ag.mo (fun _ _ _ z => z.1)) hC'')) hf ht
        · refine br_bf (by simpa using w4) ?_
          rw [if_neg w4] at hf ht
          unfold rdRule at hf ht
          refine wI_ruleOfWord hT ?_
          cases hrl : rlW b n p with
          | none =>
            rw [hrl] at hf
            refine br_t rfl ?_
            exact wI_failR 1 rfl (by omega) hT (fun G' ag hX => hf _ _ rfl G' (AgDE (Ag.rf G) ag) hX)
          | some k =>
            rw [hrl] at hf ht
            have hk := rlW_lt hrl
            have hms := mst_le k
            rw [show rlI (some k) = (k : Int) from rfl]
            refine br_f (by rw [show (-1 : Int32) = zI (-1) from rfl, zI_eq (by omega)]; omega) ?_
            refine wI_adv hT (fun G1 ag1 hT1 => ⟨zI_in (by show (0 : Int) ≤ k ∧ (k : Int) < ((6 : Nat) : Int) ∧ (k : Int) ≤ 2147483647; omega), ?_⟩)
            have ae1 : Ag WE G G1 := AgEA (Ag.rf G) ag1
            have hC1 := hC.fr ag1 nWA10
            rw [zI_clN (by omega), tb1 hk]
            refine wI_takeNumber (lo := 0) (hi := (mst k : Int)) (un := -1) hT1 rfl rfl rfl (by omega) (by omega) (by omega) (fun c s e G' ag hX => br_bf rfl ?_) (fun v q e G18 ag18 hT18 h18 => br_bt rfl ⟨zI_in (by omega), ?_⟩)
            · exact hf c s (sB_l e) G' (AgDE ae1 ag) hX
            · intro G21 e21
              rw [h18] at e21
              have hC18 := hC1.fr ag18 nWG10
              have ag21 : Ag (fun x _ _ => x = 10) G18 G21 := by
                rw [e21]
                exact (Ag.rf G18).up rfl
              refine ht q (ruR R k v) (sB_r e) G21 (AgE10 (AgEG ae1 ag18) ag21) (hT18.fr ag21 n1_10) ?_
              exact hC18.ru hk (by rw [e21, gs_eq]) (fun c hc => by rw [e21, gs_ne (by omega)])
end
