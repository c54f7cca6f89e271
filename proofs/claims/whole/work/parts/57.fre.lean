/-! ===== the classes in which a name would be free ===== -/
def frP (R : RR) (day m : Nat) : Bool := decide (∀ h, h < 2 * R 0 → hoB R day m h = true)
def frI (R : RR) (b : Nat → Nat) (n day : Nat) : Nat := bset (fun c => frP (mkR R b n day (2 ^ c)) day (R 1)) 10
section
variable {R : RR} {G : GH} {b : Nat → Nat} {n day : Nat}
theorem wh_fr {R : RR} {day m : Nat} : whB R day m (2 ^ (2 * R 0) - 1) = frP R day m := by
  unfold whB frP
  apply decide_eq_decide.mpr
  exact ⟨fun z h hh => z h hh (all_tb hh), fun z h hh _ => z h hh⟩
theorem mkR_s {g : Nat → Nat} {len d s s' m w : Nat} (hw : w < 51) (h11 : w ≠ 11) : qq (mkR R g len d s) m w = qq (mkR R g len d s') m w := by
  have hne : ¬ (18 + 51 * m + w = 18 + 51 * R 1 + 11) := by omega
  unfold qq mkR
  rw [if_neg hne, if_neg hne]
theorem pw2 {c : Nat} (hc : c < 10) : 2 ^ c < 1024 := Nat.lt_of_lt_of_le (Nat.pow_lt_pow_right (a := 2) (by decide) hc) (by decide)
set_option maxHeartbeats 2000000 in
theorem wI_freeL {post : Int32 → GH → Prop} {px : Nat → GH → Prop} {s0 : Nat} (hV : VR 12 R) (hs0 : s0 < 1024) (hnm : nmB b n = true) (hd : day ≤ 9999) (hC : CR (mkR R b n day s0) (G 9)) (hK : KN (mkR R b n day s0) (G 7)) (hG : KG (mkR R b n day s0) (G 7)) (hr : RKA (G 5) (mkR R b n day s0) day) (hp : ∀ G', Ag (fun x _ _ => x = 5 ∨ x = 7 ∨ x = 9) G G' → post (zI (frI R b n day)) G') : lp_X7_free_52 post px (zI (R 1)) (0 : Int32) (0 : Int32) G := by
  have hm12 := hV.mk
  have l6 := hV.l6
  obtain ⟨hn1, hn2, hnl⟩ : 1 ≤ n ∧ n ≤ 10 ∧ ∀ k, k < n → sml (b k) = true := of_decide_eq_true hnm
  have hlet : ∀ k, k < n → 97 ≤ b k ∧ b k ≤ 122 := fun k hk => of_decide_eq_true (hnl k hk)
  have V2 : ∀ s, s < 1024 → VR 13 (mkR R b n day s) := fun s hs => mkR_V (hV.up (by omega)) (by omega) ⟨hn1, hn2⟩ hlet hd hs
  have r0 : ∀ s, mkR R b n day s 0 = R 0 := fun s => mkR_lo (by decide) (by decide)
  have r1 : ∀ s, mkR R b n day s 1 = R 1 + 1 := fun s => mkR_1
  have eN : ∀ s s' i, i < R 1 + 1 → s < 1024 → eqN (mkR R b n day s) (mkR R b n day s') i := fun s s' i hi hs => ⟨(V2 s hs).ln (by rw [r1]; exact hi), fun w hw => mkR_s (by omega) (by omega)⟩
  have eO : ∀ {A : Nat → Nat → Int32} {s s' : Nat}, s < 1024 → RKA A (mkR R b n day s) day → RKA A (mkR R b n day s') day := fun {A s s'} hs h => h.cg ((r0 s).trans (r0 s').symm) ((r1 s).trans (r1 s').symm) (fun x h hx => pri_cg ((V2 s hs).uc hx) (fun w h1 h2 => mkR_s (by omega) (by omega)) ((mkR_lo (by decide) (by decide)).trans (mkR_lo (by decide) (by decide)).symm))
  intro P K
  have main : ∀ f c s : Nat, c + f = 10 → ∀ G', Ag (fun x _ _ => x = 5 ∨ x = 7 ∨ x = 9) G G' → CR (mkR R b n day s) (G' 9) → KN (mkR R b n day s) (G' 7) → (∀ i j, i < R 1 → j < R 1 → G' 7 5 (13 * i + j) = zI (apS R i j)) → s < 1024 → RKA (G' 5) (mkR R b n day s0) day → P (zI (R 1)) (zI (bset (fun c => frP (mkR R b n day (2 ^ c)) day (R 1)) c)) (zI c) G' := by
    intro f
    induction f with
    | zero =>
      intro c s hc G' ag hC' hK' hG' hs hr'
      have : c = 10 := by omega
      subst this
      refine K _ _ _ _ ?_
      unfold lb_X7_free_52
      refine br_t (by rw [zl10, zI_le (by omega)]; omega) ?_
      exact hp G' ag
    | succ f ih =>
      intro c s hc G' ag hC' hK' hG' hs hr'
      have hpw := pw2 (show c < 10 by omega)
      refine K _ _ _ _ ?_
      unfold lb_X7_free_52
      refine br_f (by rw [zl10, zI_le (by omega)]; omega) ⟨zI_in (by omega), ?_⟩
      intro G11 e11
      rw [zI_clN (by omega), zI_bit (by omega)] at e11
      have a11 : Ag (fun x _ _ => x = 5 ∨ x = 7 ∨ x = 9) G G11 := by
        rw [e11]
        exact ag.up (Or.inr (Or.inr rfl))
      have hC11 : CR (mkR R b n day (2 ^ c)) (G11 9) := hC'.cls (hV.up (show 12 ≤ 13 by omega)) hn2 (by rw [e11, gs_eq]) (fun x hx => by rw [e11, gs_ne (by omega)])
      have k11 : G11 7 = G' 7 := by
        funext x
        rw [e11, gs_ne (by omega)]
      have hK11 : KN (mkR R b n day (2 ^ c)) (G11 7) := by
        rw [k11]
        refine ⟨fun i hi => ?_, fun i j hi hj hij => ?_⟩
        · rw [r1] at hi
          rw [← snd_cg (eN s (2 ^ c) i hi hs)]
          exact hK'.1 i (by rw [r1]; exact hi)
        · rw [r1] at hi hj
          rw [← lkL_cg (eN s (2 ^ c) i hi hs) (eN s (2 ^ c) j hj hs), ← lkS_cg (eN s (2 ^ c) i hi hs) (eN s (2 ^ c) j hj hs)]
          exact hK'.2 i j (by rw [r1]; exact hi) (by rw [r1]; exact hj) hij
      have hmm : R 1 < mkR R b n day (2 ^ c) 1 := by rw [r1]; omega
      refine wI_compareGoods (V2 _ hpw) (by omega) hC11 hmm (by decide) (fun G12 ag12 hg12 => ?_)
      have a12 : Ag (fun x _ _ => x = 5 ∨ x = 7 ∨ x = 9) G G12 := a11.wk ag12 (fun x c j z => Or.inr (Or.inl z.1))
      have hC12 : CR (mkR R b n day (2 ^ c)) (G12 9) := hC11.fr ag12 (fun c j z => by omega)
      have c12 : ∀ x, x ≠ 5 → G12 7 x = G11 7 x := fun x hx => ag12.ce 7 x (fun j z => hx z.2.1)
      have hK12 : KN (mkR R b n day (2 ^ c)) (G12 7) := by
        unfold KN HS
        rw [c12 1 (by decide), c12 2 (by decide), c12 3 (by decide), c12 4 (by decide)]
        exact hK11
      have hG12o : ∀ i j, i < R 1 → j < R 1 → G12 7 5 (13 * i + j) = zI (apS R i j) := by
        intro i j hi hj
        rw [ag12 7 5 _ (fun z => by
          obtain ⟨-, -, x, hx, z⟩ := z
          rw [r1] at hx
          omega), k11]
        exact hG' i j hi hj
      have kg12 : KG (mkR R b n day (2 ^ c)) (G12 7) := by
        intro i j hi hj
        have hi' := hi
        have hj' := hj
        rw [r1] at hi' hj'
        by_cases wi : i = R 1
        · subst wi
          exact (hg12 j hj).1
        · by_cases wj : j = R 1
          · subst wj
            rw [apS_sym (V2 _ hpw) hi hmm]
            exact (hg12 i hi).2
          · rw [hG12o i j (by omega) (by omega), apS_cg (R := R) (R' := mkR R b n day (2 ^ c)) (fun x h1 h2 => (mkR_lo (by omega) h2).symm) (mkR_old (by omega) (by omega)).symm (mkR_old (by omega) (by omega)).symm]
      refine wI_judge (V2 _ hpw) (by omega) hC12 (by decide) hK12.n kg12 (fun G14 ag14 kj14 => ?_)
      have a14 : Ag (fun x _ _ => x = 5 ∨ x = 7 ∨ x = 9) G G14 := a12.wk ag14 (fun x c j z => Or.inr (Or.inl z.1))
      have hC14 : CR (mkR R b n day (2 ^ c)) (G14 9) := hC12.fr ag14 (fun c j z => by omega)
      have c14 : ∀ x, x ≠ 6 → x ≠ 7 → G14 7 x = G12 7 x := fun x h1 h2 => ag14.ce 7 x (fun j z => by omega)
      rw [wI_allHalves hC14 (V2 _ hpw)]
      have hpw2 := pow_le13 (show 2 * mkR R b n day (2 ^ c) 0 ≤ 13 by rw [r0]; omega)
      have e5 : G14 5 = G' 5 := by
        rw [ag14.ob 5 (fun c j z => by omega), ag12.ob 5 (fun c j z => by omega)]
        funext x
        rw [e11, gs_ne (by omega)]
      have r14 : RKA (G14 5) (mkR R b n day (2 ^ c)) day := by
        rw [e5]
        exact eO hs0 hr'
      refine wI_wouldHold (V2 _ hpw) (by omega) hC14 (fun i hi => (kj14 i hi).2) hmm (by omega) r14 (fun G18 ag18 => ?_)
      have a18 : Ag (fun x _ _ => x = 5 ∨ x = 7 ∨ x = 9) G G18 := a14.wk ag18 (fun x c j z => Or.inl z.1)
      rw [wh_fr]
      have k18 : G18 7 = G14 7 := ag18.ob 7 (fun c j z => by unfold WSt at z; omega)
      have nx := ih (c + 1) (2 ^ c) (by omega) G18 a18 (hC14.fr ag18 (fun c j z => by unfold WSt at z; omega)) (by
        unfold KN HS
        rw [k18, c14 1 (by decide) (by decide), c14 2 (by decide) (by decide), c14 3 (by decide) (by decide), c14 4 (by decide) (by decide)]
        exact hK12) (fun i j hi hj => by
        rw [k18, c14 5 (by decide) (by decide)]
        exact hG12o i j hi hj) hpw (eO hpw (r14.fr (by rw [r1]; omega) ag18))
      have e : bset (fun c => frP (mkR R b n day (2 ^ c)) day (R 1)) (c + 1) = bset (fun c => frP (mkR R b n day (2 ^ c)) day (R 1)) c ||| (if frP (mkR R b n day (2 ^ c)) day (R 1) = true then 2 ^ c else 0) := rfl
      rw [e] at nx
      rw [show zI (c : Int) + (1 : Int32) = zI ((c + 1 : Nat) : Int) from zI_add _ 1]
      cases hb : frP (mkR R b n day (2 ^ c)) day (R 1)
      · rw [hb, if_neg (by decide), Nat.or_zero] at nx
        exact br_bf rfl nx
      · rw [hb, if_pos rfl] at nx
        refine br_bt rfl ?_
        intro y ey
        rw [zI_bit (by omega), zI_or] at ey
        subst ey
        exact nx
  refine main 10 0 s0 (by omega) G (Ag.rf G) hC hK (fun i j hi hj => ?_) hs0 hr
  rw [hG i j (by rw [r1]; omega) (by rw [r1]; omega), apS_cg (R := R) (R' := mkR R b n day s0) (fun x h1 h2 => (mkR_lo (by omega) h2).symm) (mkR_old hi (by omega)).symm (mkR_old hj (by omega)).symm]
set_option maxHeartbeats 1000000 in
theorem wM_freeL {post : Int32 → GH → Prop} (hV : VR 12 R) (hnm : nmB b n = true) (hd : day ≤ 9999) (hM : MR R (G 24 1)) (h30 : G 24 0 30 = zI n) (hg : ∀ k, k < n → G 24 30 k = zI (b k)) (hp : ∀ R' G', eqT R R' → Ag (fun x c j => WHa x c j) G G' → MR R' (G' 24 1) → G' 24 0 7 = 0 → post (zI (frI R b n day)) G') : lp_X8_free_54 post (zI day) (0 : Int32) (0 : Int32) G := by
  have hm12 := hV.mk
  have l6 := hV.l6
  obtain ⟨hn1, hn2, hnl⟩ : 1 ≤ n ∧ n ≤ 10 ∧ ∀ k, k < n → sml (b k) = true := of_decide_eq_true hnm
  have hlet : ∀ k, k < n → 97 ≤ b k ∧ b k ≤ 122 := fun k hk => of_decide_eq_true (hnl k hk)
  have V2 : ∀ s, s < 1024 → VR 13 (mkR R b n day s) := fun s hs => mkR_V (hV.up (by omega)) (by omega) ⟨hn1, hn2⟩ hlet hd hs
  have r0 : ∀ s, mkR R b n day s 0 = R 0 := fun s => mkR_lo (by decide) (by decide)
  have r1 : ∀ s, mkR R b n day s 1 = R 1 + 1 := fun s => mkR_1
  have aA : ∀ {G1 G2 : GH}, Ag WAd G1 G2 → Ag (fun x c j => WHa x c j) G1 G2 := fun {G1 G2} ag => ag.mo (fun x c j z => by unfold WAd at z; unfold WHa WH; omega)
  intro P K
  have main : ∀ f c : Nat, c + f = 10 → ∀ R' G', eqT R R' → Ag (fun x c j => WHa x c j) G G' → MR R' (G' 24 1) → (c = 10 → G' 24 0 7 = 0) → P (zI day) (zI (bset (fun c => frP (mkR R b n day (2 ^ c)) day (R 1)) c)) (zI c) G' := by
    intro f
    induction f with
    | zero =>
      intro c hc R' G' ht ag hM' h7
      have : c = 10 := by omega
      subst this
      refine K _ _ _ _ ?_
      unfold lb_X8_free_54
      refine br_t (by rw [zl10, zI_le (by omega)]; omega) ?_
      exact hp R' G' ht ag hM' (h7 rfl)
    | succ f ih =>
      intro c hc R' G' ht ag hM' h7
      have hpw := pw2 (show c < 10 by omega)
      have e1 := ht.lo (i := 1) (by omega)
      refine K _ _ _ _ ?_
      unfold lb_X8_free_54
      refine br_f (by rw [zl10, zI_le (by omega)]; omega) ?_
      rw [zI_bit (by omega)]
      refine wM_adds (g := b) (len := n) (by omega) ⟨hn1, hn2⟩ hM' (by rw [ag 24 0 30 (fun w => by unfold WHa WH at w; omega)]; exact h30) (fun k hk => by rw [ag 24 30 k (fun w => by unfold WHa WH at w; omega)]; exact hg k hk) (fun G10 ag10 hM10 h710 => ?_)
      rw [ht.mk] at hM10
      rw [e1]
      have a10 := ag.tr (aA ag10)
      refine wM_halvesOf (what := 1) (V2 _ hpw) (by omega) hM10 (fun z => absurd h710 z) (by rw [r1]; omega) hd (by omega) (fun G12 ag12 hl12 => ?_)
      have hM12 : MR (mkR R b n day (2 ^ c)) (G12 24 1) := hM10.fr ag12 (fun j w => by unfold WH at w; omega)
      have a12 : Ag (fun x c j => WHa x c j) G G12 := a10.wk ag12 (fun x c j z => Or.inl z)
      rw [wM_allHalves (V2 _ hpw) hM12]
      have hlt := hvS_lt (d := day) (m := R 1) (w := 1) (V2 _ hpw)
      have hpw2 := pow_le13 (show 2 * mkR R b n day (2 ^ c) 0 ≤ 13 by rw [r0]; omega)
      rw [zI_eq (by omega)]
      have iff1 : (((hvS (mkR R b n day (2 ^ c)) day (R 1) 1 : Nat) : Int) = ((2 ^ (2 * mkR R b n day (2 ^ c) 0) - 1 : Nat) : Int)) ↔ ∀ h, h < 2 * mkR R b n day (2 ^ c) 0 → hoB (mkR R b n day (2 ^ c)) day (R 1) h = true := by
        rw [hvS_1, ← bset_all]
        omega
      have fin : ∀ v, v = zI (bset (fun c => frP (mkR R b n day (2 ^ c)) day (R 1)) (c + 1)) → j_X8_free_94 post P (zI day) v (zI c) G12 := by
        intro v hv
        subst hv
        unfold j_X8_free_94
        refine wM_goesAway hM12 (by rw [r1]; omega) (fun G17 ag17 hM17 h717 => ?_)
        rw [show zI (c : Int) + (1 : Int32) = zI ((c + 1 : Nat) : Int) from zI_add _ 1]
        exact ih (c + 1) (by omega) _ G17 (eqT.ga0 hn2) (a12.tr (aA ag17)) hM17 (fun _ => h717)
      have e : bset (fun c => frP (mkR R b n day (2 ^ c)) day (R 1)) (c + 1) = bset (fun c => frP (mkR R b n day (2 ^ c)) day (R 1)) c ||| (if frP (mkR R b n day (2 ^ c)) day (R 1) = true then 2 ^ c else 0) := rfl
      rw [e] at fin
      refine br_c (fun z => ?_) (fun z => ?_)
      · have hb : frP (mkR R b n day (2 ^ c)) day (R 1) = true := decide_eq_true (iff1.mp z)
        rw [hb, if_pos rfl] at fin
        intro y ey
        rw [zI_or] at ey
        exact fin y ey
      · have hb : frP (mkR R b n day (2 ^ c)) day (R 1) = false := decide_eq_false (fun y => z (iff1.mpr y))
        rw [hb, if_neg (by decide), Nat.or_zero] at fin
        exact fin _ rfl
  exact main 10 0 (by omega) R G (eqT.rf R) (Ag.rf G) hM (fun z => by omega)
end
