/-! ===== the reference's tables ===== -/
def LT (R : RR) (A : Nat → Nat → Int32) : Prop := (∀ m, m < R 1 → HS A 9 10 m (snd R m)) ∧ (∀ a b, a < R 1 → b < R 1 → A 14 (13 * a + b) = zI (lkL R a b) ∧ A 15 (13 * a + b) = zI (lkS R a b) ∧ A 16 (13 * a + b) = zI (nmS R a b) ∧ A 17 (13 * a + b) = zI (apS R a b)) ∧ (∀ m, m < R 1 → A 18 m = zI (fnS R m) ∧ A 19 m = zI (crS R m) ∧ A 20 m = zI (alS R m))
def WL (x c j : Nat) : Prop := x = 24 ∧ (9 ≤ c ∧ c ≤ 21 ∨ c = 0 ∧ j = 7)
def WC (a b : Nat) (x c j : Nat) : Prop := x = 24 ∧ (11 ≤ c ∧ c ≤ 13 ∨ c = 21 ∨ 14 ≤ c ∧ c ≤ 17 ∧ j = 13 * a + b)
section
variable {R : RR} {G : GH} {n a b : Nat}
set_option maxHeartbeats 1000000 in
theorem wM_layCouple {post : GH → Prop} (hV : VR n R) (hn : n ≤ 13) (hM : MR R (G 24 1)) (ha : a < R 1) (hb : b < R 1) (hA : HS (G 24) 9 10 a (snd R a)) (hB : HS (G 24) 9 10 b (snd R b))
    (hp : ∀ G', Ag (WC a b) G G' → (G' 24 14 (13 * a + b) = zI (lkL R a b) ∧ G' 24 15 (13 * a + b) = zI (lkS R a b) ∧ G' 24 16 (13 * a + b) = zI (nmS R a b) ∧ G' 24 17 (13 * a + b) = zI (apS R a b)) → post G') : wp_X8_layCouple post (zI a) (zI b) G := by
  have ha13 : a < 13 := Nat.lt_of_lt_of_le ha (Nat.le_trans hV.mk hn)
  have hb13 : b < 13 := Nat.lt_of_lt_of_le hb (Nat.le_trans hV.mk hn)
  have hN := nm_num hV a b
  have hcl : (zI ((13 * a + b : Nat) : Int)).toNatClampNeg = 13 * a + b := zI_clN (by omega)
  have hin : vp_in (zI ((13 * a + b : Nat) : Int)) 169 := zI_in (by omega)
  have hM2 : ∀ G', Ag (WC a b) G G' → MR R (G' 24 1) := fun G' ag => by
    rw [ag.ce 24 1 (fun j w => by unfold WC at w; omega)]
    exact hM
  unfold wp_X8_layCouple
  rw [zl13, zI_mul, zI_add, show ((13 : Int) * (a : Int) + (b : Int)) = ((13 * a + b : Nat) : Int) by omega]
  rintro _ rfl
  refine wM_byLetters hV hn hM ha hb (fun G1 ag1 => ⟨hin, ?_⟩)
  rintro _ rfl
  rw [hcl]
  have a1 : Ag (WC a b) G G1 := ag1.mo (fun x c j z => ⟨z.1, Or.inl (by omega)⟩)
  have a2 : Ag (WC a b) G (gs G1 24 14 (upd (G1 24 14) (13 * a + b) (zI (lkL R a b)))) := a1.up ⟨rfl, Or.inr (Or.inr ⟨by omega, by omega, rfl⟩)⟩
  generalize hG2 : gs G1 24 14 (upd (G1 24 14) (13 * a + b) (zI (lkL R a b))) = G2 at a2
  have v14 : G2 24 14 (13 * a + b) = zI (lkL R a b) := by
    rw [← hG2, gs_eq]
    unfold upd
    rw [if_pos rfl]
  have c9 : G2 24 9 = G 24 9 := a2.ce 24 9 (fun j w => by unfold WC at w; omega)
  have c10 : G2 24 10 = G 24 10 := a2.ce 24 10 (fun j w => by unfold WC at w; omega)
  refine wM_bySounds (R := R) ha13 hb13 ⟨by rw [c10]; exact hA.1, fun j hj => by rw [c9]; exact hA.2 j hj⟩ ⟨by rw [c10]; exact hB.1, fun j hj => by rw [c9]; exact hB.2 j hj⟩ (fun G3 ag3 => ⟨hin, ?_⟩)
  rintro _ rfl
  have a3 : Ag (WC a b) G2 G3 := ag3.mo (fun x c j z => ⟨z.1, Or.inl (by omega)⟩)
  have v14' : G3 24 14 (13 * a + b) = zI (lkL R a b) := by rw [ag3 24 14 _ (by omega)]; exact v14
  have a4 : Ag (WC a b) G (gs G3 24 15 (upd (G3 24 15) (13 * a + b) (zI (lkS R a b)))) := (a2.tr a3).up ⟨rfl, Or.inr (Or.inr ⟨by omega, by omega, rfl⟩)⟩
  generalize hG4 : gs G3 24 15 (upd (G3 24 15) (13 * a + b) (zI (lkS R a b))) = G4 at a4
  have w14 : G4 24 14 (13 * a + b) = zI (lkL R a b) := by
    rw [← hG4, gs_ne (by omega)]
    exact v14'
  have w15 : G4 24 15 (13 * a + b) = zI (lkS R a b) := by
    rw [← hG4, gs_eq]
    unfold upd
    rw [if_pos rfl]
  refine wM_ruleOf (hM2 G4 a4) 5 rfl (by decide) ⟨hin, ?_⟩
  refine wM_ruleOf (hM2 G4 a4) 5 rfl (by decide) ⟨hin, hin, ?_⟩
  rintro _ rfl
  rw [w14, w15, show R (2 + 5) = R 7 from rfl, zl100, zI_mul, zI_sub, zI_mul, zI_add, zI_div (by omega)]
  have a5 : Ag (WC a b) G (gs G4 24 16 (upd (G4 24 16) (13 * a + b) (zI (((R 7 : Int) * lkS R a b + (100 - (R 7 : Int)) * lkL R a b) / 100)))) := a4.up ⟨rfl, Or.inr (Or.inr ⟨by omega, by omega, rfl⟩)⟩
  generalize hG5 : gs G4 24 16 (upd (G4 24 16) (13 * a + b) (zI (((R 7 : Int) * lkS R a b + (100 - (R 7 : Int)) * lkL R a b) / 100))) = G5 at a5
  have x16 : G5 24 16 (13 * a + b) = zI (nmS R a b) := by
    rw [← hG5, gs_eq]
    unfold upd
    rw [if_pos rfl]
    rfl
  have x14 : G5 24 14 (13 * a + b) = zI (lkL R a b) := by
    rw [← hG5, gs_ne (by omega)]
    exact w14
  have x15 : G5 24 15 (13 * a + b) = zI (lkS R a b) := by
    rw [← hG5, gs_ne (by omega)]
    exact w15
  refine wM_stepsOf hV hn (hM2 G5 a5) ha hb (fun g => ⟨hin, ?_⟩)
  rintro _ rfl
  have a6 : Ag (WC a b) G (gs G5 24 21 g) := by
    intro x c j h
    unfold gs
    split
    · rename_i z
      exact absurd (show WC a b x c j from ⟨z.1, Or.inr (Or.inl z.2)⟩) h
    · exact a5 x c j h
  refine hp _ (a6.up ⟨rfl, Or.inr (Or.inr ⟨by omega, by omega, rfl⟩)⟩) ⟨?_, ?_, ?_, ?_⟩
  · rw [gs_ne (by omega), gs_ne (by omega)]; exact x14
  · rw [gs_ne (by omega), gs_ne (by omega)]; exact x15
  · rw [gs_ne (by omega), gs_ne (by omega)]; exact x16
  · rw [gs_eq]
    unfold upd
    rw [if_pos rfl]
    rfl
theorem wM_areNear {post : Bool → GH → Prop} (hV : VR n R) (hM : MR R (G 24 1)) (ha : a < 13) (hb : b < 13) (h17 : G 24 17 (13 * a + b) = zI (apS R a b)) (hp : post (nrB R a b) G) : wp_X8_areNear post (zI a) (zI b) G := by
  have hr : -1 ≤ apS R a b ∧ apS R a b ≤ 9 := stp_rg R (qq R a 11) (qq R b 11)
  have h3 := hV.r3
  unfold wp_X8_areNear
  rw [zl13, zI_mul, zI_add]
  refine ⟨zI_in (by omega), ?_⟩
  rw [zI_cl (by omega), show ((13 : Int) * (a : Int) + (b : Int)).toNat = 13 * a + b by omega, h17]
  rintro _ rfl
  unfold nrB at hp
  refine br_c (fun q => ?_) (fun q => ?_)
  · rw [zl1, zI_neg, zI_eq (by omega)] at q
    rw [decide_eq_false (by omega)] at hp
    exact hp
  · rw [zl1, zI_neg, zI_eq (by omega)] at q
    refine wM_ruleOf hM 3 rfl (by decide) ?_
    show (_ → _) ∧ (_ → _)
    rw [show R (2 + 3) = R 5 from rfl, zI_lt (by omega)]
    refine br_c (fun q1 => ?_) (fun q1 => ?_)
    · rw [decide_eq_false (by omega)] at hp
      exact hp
    · rw [decide_eq_true (by omega)] at hp
      exact hp
set_option maxHeartbeats 1000000 in
theorem wM_fieldOf {post : Int32 → GH → Prop} (hV : VR n R) (hn : n ≤ 13) (hM : MR R (G 24 1)) (ha : a < R 1) (hT : ∀ b, b < R 1 → G 24 16 (13 * a + b) = zI (nmS R a b) ∧ G 24 17 (13 * a + b) = zI (apS R a b)) (hp : post (zI (fnS R a)) G) : wp_X8_fieldOf post (zI a) G := by
  have h13 := Nat.le_trans hV.mk hn
  have r0 := hV.r0
  unfold wp_X8_fieldOf
  intro P4 K4
  have main : ∀ f b : Nat, b + f = R 1 → P4 (zI a) (zI (cntB (fldB R a) b)) (zI b) G := by
    intro f
    induction f with
    | zero =>
      intro b hb
      refine K4 _ _ _ _ ?_
      unfold lb_X8_fieldOf_4
      rw [wM_marks hM]
      refine br_t (by rw [zI_le (by omega)]; omega) ?_
      have : b = R 1 := by omega
      subst this
      exact hp
    | succ f ih =>
      intro b hb
      have hc := cntB_le (fldB R a) b
      have nr := nmS_rg hV a b
      have := ih (b + 1) (by omega)
      unfold cntB at this
      refine K4 _ _ _ _ ?_
      unfold lb_X8_fieldOf_4
      rw [wM_marks hM]
      refine br_f (by rw [zI_le (by omega)]; omega) ?_
      have no : fldB R a b = false → j_X8_fieldOf_50 post P4 (zI a) (zI b) (zI (cntB (fldB R a) b)) G := by
        intro h
        rw [h, if_neg (by decide), Nat.add_zero] at this
        unfold j_X8_fieldOf_50
        rintro _ rfl
        rw [zl0, zI_add, zl1, zI_add, Int.add_zero]
        exact this
      refine br_c (fun q => ?_) (fun q => ?_)
      · rw [zI_eq (by omega)] at q
        refine no ?_
        unfold fldB
        rw [decide_eq_false (by omega)]
        rfl
      · rw [zI_eq (by omega)] at q
        refine wM_areNear hV hM (by omega) (by omega) (hT b (by omega)).2 ?_
        by_cases z : nrB R a b = true
        · refine br_bt z ?_
          rw [zl13, zI_mul, zI_add]
          refine ⟨zI_in (by omega), ?_⟩
          rw [zI_cl (by omega), show ((13 : Int) * (a : Int) + (b : Int)).toNat = 13 * a + b by omega, (hT b (by omega)).1]
          refine wM_ruleOf hM 0 rfl (by decide) ?_
          refine br_c (fun w => ?_) (fun w => ?_)
          · have w : zI (nmS R a b) < zI (R 2) := w
            rw [zI_lt (by omega)] at w
            refine no ?_
            unfold fldB
            rw [decide_eq_false (p := (R 2 : Int) ≤ nmS R a b) (by omega)]
            simp
          · have w : ¬ zI (nmS R a b) < zI (R 2) := w
            rw [zI_lt (by omega)] at w
            have h1 : fldB R a b = true := by
              unfold fldB
              rw [decide_eq_true (p := (R 2 : Int) ≤ nmS R a b) (by omega), z, decide_eq_true (by omega)]
              rfl
            rw [h1, if_pos rfl] at this
            rintro _ rfl
            rw [zl1, zI_add, zI_add]
            exact this
        · refine br_bf (by simpa using z) ?_
          refine no ?_
          unfold fldB
          rw [show nrB R a b = false by simpa using z]
          simp
  exact main (R 1) 0 (by omega)
theorem wM_areAlike {post : Bool → GH → Prop} (hV : VR n R) (hn : n ≤ 13) (hM : MR R (G 24 1)) (ha : a < R 1) (hb : b < R 1) (hT : G 24 16 (13 * a + b) = zI (nmS R a b) ∧ G 24 17 (13 * a + b) = zI (apS R a b)) (hca : G 24 19 a = zI (crS R a)) (hcb : G 24 19 b = zI (crS R b)) (hp : post (alB R a b) G) : wp_X8_areAlike post (zI a) (zI b) G := by
  have h13 := Nat.le_trans hV.mk hn
  have hbr := brS_rg hV hn a b
  have h0 := hV.r0
  have nr := nmS_rg hV a b
  have f1 := fnS_le hV hn a
  have f2 := fnS_le hV hn b
  have c1 : crS R a ≤ 13 := Nat.le_trans (Nat.sub_le _ _) f1
  have c2 : crS R b ≤ 13 := Nat.le_trans (Nat.sub_le _ _) f2
  unfold wp_X8_areAlike
  refine wM_ruleOf hM 0 rfl (by decide) ?_
  refine wM_ruleOf hM 1 rfl (by decide) ?_
  refine ⟨zI_in (by omega), zI_in (by omega), ?_⟩
  have em : max (crS R a : Int) (crS R b : Int) = ((max (crS R a) (crS R b) : Nat) : Int) := by omega
  rw [zI_clN (by omega), zI_clN (by omega), hca, hcb, zI_max (by omega), em, show R (2 + 0) = R 2 from rfl, show R (2 + 1) = R 3 from rfl, zI_mul, zI_add, zl100, zI_min (by omega)]
  rintro _ rfl
  have eb : min 100 ((R 2 : Int) + (R 3 : Int) * ((max (crS R a) (crS R b) : Nat) : Int)) = brS R a b := rfl
  rw [eb]
  unfold alB at hp
  refine br_c (fun q => ?_) (fun q => ?_)
  · rw [zI_eq (by omega)] at q
    rw [decide_eq_false (p := a ≠ b) (by omega)] at hp
    exact hp
  · rw [zI_eq (by omega)] at q
    rw [decide_eq_true (p := a ≠ b) (by omega), Bool.true_and] at hp
    refine wM_areNear hV hM (by omega) (by omega) hT.2 ?_
    by_cases z : nrB R a b = true
    · refine br_bt z ?_
      rw [z, Bool.true_and] at hp
      rw [zl13, zI_mul, zI_add]
      refine ⟨zI_in (by omega), ?_⟩
      rw [zI_cl (by omega), show ((13 : Int) * (a : Int) + (b : Int)).toNat = 13 * a + b by omega, hT.1, zI_lt (by omega)]
      refine br_c (fun w => ?_) (fun w => ?_)
      · rw [decide_eq_false (by omega)] at hp
        exact hp
      · rw [decide_eq_true (by omega)] at hp
        exact hp
    · refine br_bf (by simpa using z) ?_
      rw [show nrB R a b = false by simpa using z, Bool.false_and] at hp
      exact hp
end
section
variable {R : RR} {G : GH} {n : Nat} {post : GH → Prop}
set_option maxHeartbeats 2000000 in
theorem wM_lay (hV : VR n R) (hn : n ≤ 13) (hM : MR R (G 24 1)) (hL : G 24 0 7 ≠ 0 → LT R (G 24)) (hp : ∀ G', Ag WL G G' → LT R (G' 24) → G' 24 0 7 ≠ 0 → post G') : wp_X8_lay post G := by
  have h13 := Nat.le_trans hV.mk hn
  have hM2 : ∀ G', Ag WL G G' → MR R (G' 24 1) := fun G' ag => by
    rw [ag.ce 24 1 (fun j w => by unfold WL at w; omega)]
    exact hM
  unfold wp_X8_lay
  refine br_c (fun q => ?_) (fun q => hp G (Ag.rf G) (hL q) q)
  rintro _ rfl
  -- who is alike
  have alk : ∀ f a : Nat, a + f = R 1 → ∀ G', Ag WL G G' → G' 24 0 7 = 1 → (∀ m, m < R 1 → HS (G' 24) 9 10 m (snd R m)) → (∀ a b, a < R 1 → b < R 1 → G' 24 14 (13 * a + b) = zI (lkL R a b) ∧ G' 24 15 (13 * a + b) = zI (lkS R a b) ∧ G' 24 16 (13 * a + b) = zI (nmS R a b) ∧ G' 24 17 (13 * a + b) = zI (apS R a b)) → (∀ m, m < R 1 → G' 24 18 m = zI (fnS R m) ∧ G' 24 19 m = zI (crS R m)) → (∀ m, m < a → G' 24 20 m = zI (alS R m)) → lp_X8_lay_123 post (zI a) G' := by
    intro f
    induction f with
    | zero =>
      intro a ha G' ag g7 hs ht hf hal
      intro P123 K123
      refine K123 _ _ ?_
      unfold lb_X8_lay_123
      rw [wM_marks (hM2 G' ag)]
      refine br_t (by rw [zI_le (by omega)]; omega) ?_
      exact hp G' ag ⟨hs, ht, fun m hm => ⟨(hf m hm).1, (hf m hm).2, hal m (by omega)⟩⟩ (by rw [g7]; decide)
    | succ f ih =>
      intro a ha G' ag g7 hs ht hf hal
      intro P123 K123
      refine K123 _ _ ?_
      unfold lb_X8_lay_123
      rw [wM_marks (hM2 G' ag)]
      refine br_f (by rw [zI_le (by omega)]; omega) ⟨zI_in (by omega), ?_⟩
      rintro _ rfl
      rw [zI_clN (by omega)]
      intro P140 K140
      have inner : ∀ g b : Nat, b + g = R 1 → ∀ G'', Ag WL G G'' → (∀ c, c ≠ 20 → G'' 24 c = G' 24 c) → (∀ m, m < a → G'' 24 20 m = zI (alS R m)) → G'' 24 20 a = zI (bset (alB R a) b) → P140 (zI a) (zI b) G'' := by
        intro g
        induction g with
        | zero =>
          intro b hb G'' ag2 hc hal2 hb2
          have : b = R 1 := by omega
          subst this
          refine K140 _ _ _ ?_
          unfold lb_X8_lay_140
          rw [wM_marks (hM2 G'' ag2)]
          refine br_t (by rw [zI_le (by omega)]; omega) ?_
          rw [zl1, zI_add]
          refine ih (a + 1) (by omega) G'' ag2 (by rw [hc 0 (by omega)]; exact g7) (fun m hm => ⟨by rw [hc 10 (by omega)]; exact (hs m hm).1, fun j hj => by rw [hc 9 (by omega)]; exact (hs m hm).2 j hj⟩) (fun x y hx hy => by rw [hc 14 (by omega), hc 15 (by omega), hc 16 (by omega), hc 17 (by omega)]; exact ht x y hx hy) (fun m hm => by rw [hc 18 (by omega), hc 19 (by omega)]; exact hf m hm) (fun m hm => ?_) P123 K123
          by_cases w : m = a
          · subst w; exact hb2
          · exact hal2 m (by omega)
        | succ g ih2 =>
          intro b hb G'' ag2 hc hal2 hb2
          refine K140 _ _ _ ?_
          unfold lb_X8_lay_140
          rw [wM_marks (hM2 G'' ag2)]
          refine br_f (by rw [zI_le (by omega)]; omega) ?_
          have t := ht a b (by omega) (by omega)
          refine wM_areAlike hV hn (hM2 G'' ag2) (by omega) (by omega) ⟨by rw [hc 16 (by omega)]; exact t.2.2.1, by rw [hc 17 (by omega)]; exact t.2.2.2⟩ (by rw [hc 19 (by omega)]; exact (hf a (by omega)).2) (by rw [hc 19 (by omega)]; exact (hf b (by omega)).2) ?_
          rw [zl1, zI_add]
          by_cases z : alB R a b = true
          · refine br_bt z ⟨zI_in (by omega), zI_in (by omega), ?_⟩
            rintro _ rfl
            rw [zI_clN (by omega), hb2, show zI (1 : Int) = (1 : Int32) from rfl, zI_bit (by omega), zI_or]
            refine ih2 (b + 1) (by omega) _ (ag2.up ⟨rfl, Or.inl (by omega)⟩) (fun c h20 => by rw [gs_ne (by omega)]; exact hc c h20) (fun m hm => ?_) ?_
            · rw [gs_eq]
              unfold upd
              rw [if_neg (by omega)]
              exact hal2 m hm
            · rw [gs_eq]
              show _ = zI ((bset (alB R a) b ||| (if alB R a b then 2 ^ b else 0) : Nat) : Int)
              unfold upd
              rw [if_pos rfl, if_pos z]
          · refine br_bf (by simpa using z) ?_
            refine ih2 (b + 1) (by omega) G'' ag2 hc hal2 ?_
            show _ = zI ((bset (alB R a) b ||| (if alB R a b then 2 ^ b else 0) : Nat) : Int)
            rw [if_neg z, Nat.or_zero]
            exact hb2
      refine inner (R 1) 0 (by omega) _ (ag.up ⟨rfl, Or.inl (by omega)⟩) (fun c h20 => gs_ne (by omega)) (fun m hm => ?_) ?_
      · rw [gs_eq]
        unfold upd
        rw [if_neg (by omega)]
        exact hal m hm
      · rw [gs_eq]
        unfold upd
        rw [if_pos rfl]
        rfl
  -- the fields
  have fie : ∀ f a : Nat, a + f = R 1 → ∀ G', Ag WL G G' → G' 24 0 7 = 1 → (∀ m, m < R 1 → HS (G' 24) 9 10 m (snd R m)) → (∀ a b, a < R 1 → b < R 1 → G' 24 14 (13 * a + b) = zI (lkL R a b) ∧ G' 24 15 (13 * a + b) = zI (lkS R a b) ∧ G' 24 16 (13 * a + b) = zI (nmS R a b) ∧ G' 24 17 (13 * a + b) = zI (apS R a b)) → (∀ m, m < a → G' 24 18 m = zI (fnS R m) ∧ G' 24 19 m = zI (crS R m)) → lp_X8_lay_74 post (zI a) G' := by
    intro f
    induction f with
    | zero =>
      intro a ha G' ag g7 hs ht hf
      intro P74 K74
      refine K74 _ _ ?_
      unfold lb_X8_lay_74
      rw [wM_marks (hM2 G' ag)]
      refine br_t (by rw [zI_le (by omega)]; omega) ?_
      exact alk (R 1) 0 (by omega) G' ag g7 hs ht (fun m hm => hf m (by omega)) (fun m hm => by omega)
    | succ f ih =>
      intro a ha G' ag g7 hs ht hf
      intro P74 K74
      refine K74 _ _ ?_
      unfold lb_X8_lay_74
      rw [wM_marks (hM2 G' ag)]
      refine br_f (by rw [zI_le (by omega)]; omega) ?_
      refine wM_fieldOf hV hn (hM2 G' ag) (by omega) (fun b hb => ⟨(ht a b (by omega) hb).2.2.1, (ht a b (by omega) hb).2.2.2⟩) ⟨zI_in (by omega), ?_⟩
      rintro _ rfl
      refine ⟨zI_in (by omega), ?_⟩
      rw [zI_clN (by omega)]
      have ag1 : Ag WL G (gs G' 24 18 (upd (G' 24 18) a (zI (fnS R a)))) := ag.up ⟨rfl, Or.inl (by omega)⟩
      refine wM_ruleOf (hM2 _ ag1) 2 rfl (by decide) ⟨zI_in (by omega), ?_⟩
      rintro _ rfl
      have e18 : gs G' 24 18 (upd (G' 24 18) a (zI (fnS R a))) 24 18 a = zI (fnS R a) := by
        rw [gs_eq]
        unfold upd
        rw [if_pos rfl]
      have f1 := fnS_le hV hn a
      have r2 := hV.r2
      have em : max (0 : Int) ((fnS R a : Int) - (R 4 : Int)) = (crS R a : Nat) := by
        unfold crS
        omega
      rw [e18, show R (2 + 2) = R 4 from rfl, zI_sub, zl0, zI_max (by omega), em, zl1, zI_add]
      have k : ∀ c, c ≠ 18 → c ≠ 19 → gs (gs G' 24 18 (upd (G' 24 18) a (zI (fnS R a)))) 24 19 (upd (gs G' 24 18 (upd (G' 24 18) a (zI (fnS R a))) 24 19) a (zI (crS R a))) 24 c = G' 24 c := fun c h1 h2 => by rw [gs_ne (by omega), gs_ne (by omega)]
      refine ih (a + 1) (by omega) _ (ag1.up ⟨rfl, Or.inl (by omega)⟩) (by rw [k 0 (by omega) (by omega)]; exact g7) (fun m hm => ⟨by rw [k 10 (by omega) (by omega)]; exact (hs m hm).1, fun j hj => by rw [k 9 (by omega) (by omega)]; exact (hs m hm).2 j hj⟩) (fun x y hx hy => by rw [k 14 (by omega) (by omega), k 15 (by omega) (by omega), k 16 (by omega) (by omega), k 17 (by omega) (by omega)]; exact ht x y hx hy) (fun m hm => ⟨?_, ?_⟩) P74 K74
      · rw [gs_ne (by omega), gs_eq]
        unfold upd
        by_cases w : m = a
        · rw [if_pos w, w]
        · rw [if_neg w]
          exact (hf m (by omega)).1
      · rw [gs_eq, gs_ne (by omega)]
        unfold upd
        by_cases w : m = a
        · rw [if_pos w, w]
        · rw [if_neg w]
          exact (hf m (by omega)).2
  -- the couples
  have cou : ∀ f a : Nat, a + f = R 1 → ∀ G', Ag WL G G' → G' 24 0 7 = 1 → (∀ m, m < R 1 → HS (G' 24) 9 10 m (snd R m)) → (∀ x y, x < a → y < R 1 → G' 24 14 (13 * x + y) = zI (lkL R x y) ∧ G' 24 15 (13 * x + y) = zI (lkS R x y) ∧ G' 24 16 (13 * x + y) = zI (nmS R x y) ∧ G' 24 17 (13 * x + y) = zI (apS R x y)) → lp_X8_lay_36 post (zI a) G' := by
    intro f
    induction f with
    | zero =>
      intro a ha G' ag g7 hs ht
      intro P36 K36
      refine K36 _ _ ?_
      unfold lb_X8_lay_36
      rw [wM_marks (hM2 G' ag)]
      refine br_t (by rw [zI_le (by omega)]; omega) ?_
      exact fie (R 1) 0 (by omega) G' ag g7 hs (fun x y hx hy => ht x y (by omega) hy) (fun m hm => by omega)
    | succ f ih =>
      intro a ha G' ag g7 hs ht
      intro P36 K36
      refine K36 _ _ ?_
      unfold lb_X8_lay_36
      rw [wM_marks (hM2 G' ag)]
      refine br_f (by rw [zI_le (by omega)]; omega) ?_
      intro P46 K46
      have inner : ∀ g b : Nat, b + g = R 1 → ∀ G'', Ag WL G G'' → G'' 24 0 7 = 1 → (∀ m, m < R 1 → HS (G'' 24) 9 10 m (snd R m)) → (∀ x y, x < a ∧ y < R 1 ∨ x = a ∧ y < b → G'' 24 14 (13 * x + y) = zI (lkL R x y) ∧ G'' 24 15 (13 * x + y) = zI (lkS R x y) ∧ G'' 24 16 (13 * x + y) = zI (nmS R x y) ∧ G'' 24 17 (13 * x + y) = zI (apS R x y)) → P46 (zI a) (zI b) G'' := by
        intro g
        induction g with
        | zero =>
          intro b hb G'' ag2 g72 hs2 ht2
          refine K46 _ _ _ ?_
          unfold lb_X8_lay_46
          rw [wM_marks (hM2 G'' ag2)]
          refine br_t (by rw [zI_le (by omega)]; omega) ?_
          rw [zl1, zI_add]
          exact ih (a + 1) (by omega) G'' ag2 g72 hs2 (fun x y hx hy => ht2 x y (by omega)) P36 K36
        | succ g ih2 =>
          intro b hb G'' ag2 g72 hs2 ht2
          refine K46 _ _ _ ?_
          unfold lb_X8_lay_46
          rw [wM_marks (hM2 G'' ag2)]
          refine br_f (by rw [zI_le (by omega)]; omega) ?_
          refine wM_layCouple hV hn (hM2 G'' ag2) (by omega) (by omega) (hs2 a (by omega)) (hs2 b (by omega)) (fun G3 ag3 e => ?_)
          have k : ∀ c, c < 11 → G3 24 c = G'' 24 c := fun c hc => ag3.ce 24 c (fun j w => by unfold WC at w; omega)
          rw [zl1, zI_add]
          refine ih2 (b + 1) (by omega) G3 (ag2.tr (ag3.mo (fun x c j w => by unfold WC at w; unfold WL; omega))) (by rw [k 0 (by omega)]; exact g72) (fun m hm => ⟨by rw [k 10 (by omega)]; exact (hs2 m hm).1, fun j hj => by rw [k 9 (by omega)]; exact (hs2 m hm).2 j hj⟩) (fun x y hxy => ?_)
          by_cases w : x = a ∧ y = b
          · rw [w.1, w.2]; exact e
          · have hne : 13 * x + y ≠ 13 * a + b := by omega
            rw [ag3 24 14 _ (by unfold WC; omega), ag3 24 15 _ (by unfold WC; omega), ag3 24 16 _ (by unfold WC; omega), ag3 24 17 _ (by unfold WC; omega)]
            exact ht2 x y (by omega)
      exact inner (R 1) 0 (by omega) G' ag g7 hs (fun x y h => ht x y (by omega) (by omega))
  -- the sounds
  have sou : ∀ f a : Nat, a + f = R 1 → ∀ G', Ag WL G G' → G' 24 0 7 = 1 → (∀ m, m < a → HS (G' 24) 9 10 m (snd R m)) → lp_X8_lay_15 post (zI a) G' := by
    intro f
    induction f with
    | zero =>
      intro a ha G' ag g7 hs
      intro P15 K15
      refine K15 _ _ ?_
      unfold lb_X8_lay_15
      rw [wM_marks (hM2 G' ag)]
      refine br_t (by rw [zI_le (by omega)]; omega) ?_
      exact cou (R 1) 0 (by omega) G' ag g7 (fun m hm => hs m (by omega)) (fun x y hx => by omega)
    | succ f ih =>
      intro a ha G' ag g7 hs
      intro P15 K15
      refine K15 _ _ ?_
      unfold lb_X8_lay_15
      rw [wM_marks (hM2 G' ag)]
      refine br_f (by rw [zI_le (by omega)]; omega) ?_
      refine wM_laySounds hV hn (hM2 G' ag) (by omega) (fun G3 ag3 e => ?_)
      rw [zl1, zI_add]
      refine ih (a + 1) (by omega) G3 (ag.tr (ag3.mo (fun x c j w => by unfold WS at w; unfold WL; omega))) (by rw [ag3 24 0 7 (by unfold WS; omega)]; exact g7) (fun m hm => ?_) P15 K15
      by_cases w : m = a
      · subst w; exact e
      · refine ⟨by rw [ag3 24 10 m (by unfold WS; omega)]; exact (hs m (by omega)).1, fun j hj => ?_⟩
        have hl := snd_len R m
        rw [ag3 24 9 _ (by unfold WS; omega)]
        exact (hs m (by omega)).2 j hj
  refine sou (R 1) 0 (by omega) _ ((Ag.rf G).up ⟨rfl, Or.inr ⟨rfl, rfl⟩⟩) ?_ (fun m hm => by omega)
  rw [gs_eq]
  unfold upd
  rw [if_pos rfl]
end
