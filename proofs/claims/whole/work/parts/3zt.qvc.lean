/-! ===== a question, read: in the class ===== -/
theorem VR.up {n m : Nat} {R : RR} (h : VR n R) (hm : n ≤ m) : VR m R := ⟨h.1, Nat.le_trans h.2.1 hm, h.2.2⟩
def QG (b : Nat → Nat) (n q : Nat) (G : GH) : Prop := CT b n q (G 1) ∧ G 3 0 4 = 0 ∧ G 3 0 5 = zI (-1)
def QX (b : Nat → Nat) (n c s : Nat) (G : GH) : Prop := G 3 0 4 = zI c ∧ G 3 0 5 = zI s ∧ (1 ≤ c ∧ c ≤ 4) ∧ ∃ q, CT b n q (G 1)
def WQ (x c j : Nat) : Prop := WA x c j ∨ (x = 3 ∧ c = 0 ∧ (j = 4 ∨ j = 5))
def QD (R : RR) (day : Nat) (G : GH) : Prop := CR R (G 8) ∧ ∀ m, m < R 1 → G 6 2 m = zI (snd R m).length ∧ G 6 6 m = zI (fsS R m) ∧ SA R (G 5) day m (2 * R 0)
def bE (R : RR) (day : Nat) (E : QE) : Nat := bset (fun m => E (fun i => vW R day i m)) (R 1)
section
variable {G : GH} {b : Nat → Nat} {n p day : Nat} {R : RR}
theorem QX.ne {c s : Nat} (h : QX b n c s G) : ¬ G 3 0 4 = 0 := by
  have hc := h.2.2.1
  rw [h.1, zl0, zI_eq (by omega)]
  omega
theorem QD.fr {G' : GH} (h : QD R day G) (ag : Ag WQ G G') : QD R day G' := by
  unfold QD
  rw [ag.ob 8 (fun c j w => by unfold WQ WA at w; omega), ag.ob 6 (fun c j w => by unfold WQ WA at w; omega), ag.ob 5 (fun c j w => by unfold WQ WA at w; omega)]
  exact h
theorem QG.adv {post : GH → Prop} (h : QG b n p G) (hp : ∀ G', Ag WQ G G' → QG b n (tkE b n p) G' → post G') : wp_X6_advance post G :=
  wI_adv h.1 (fun G' ag hT => hp G' (ag.mo (fun _ _ _ z => Or.inl z)) ⟨hT, by rw [ag 3 0 4 (fun w => by unfold WA at w; omega)]; exact h.2.1, by rw [ag 3 0 5 (fun w => by unfold WA at w; omega)]; exact h.2.2⟩)
theorem wI_failQ {post : Int32 → GH → Prop} {x : Int32} (c : Nat) (hx : x = zI c) (hc : 1 ≤ c ∧ c ≤ 4) (h : QG b n p G) (hp : ∀ G', Ag WQ G G' → QX b n c (tkS b n p) G' → post (0 : Int32) G') : wp_X2_fail post x G := by
  subst hx
  unfold wp_X2_fail
  refine br_t h.2.1 ?_
  intro G2 e2 G3 e3
  have k1 : G3 1 = G 1 := by
    funext k
    rw [e3, gs_ne (by omega), e2, gs_ne (by omega)]
  have k2 : G2 1 0 3 = zI (tkS b n p) := by
    rw [e2, gs_ne (by omega)]
    exact h.1.2.2.2.1
  refine hp G3 ?_ ⟨?_, ?_, hc, p, by rw [k1]; exact h.1⟩
  · rw [e3, e2]
    exact ((Ag.rf G).up (Or.inr ⟨rfl, rfl, Or.inl rfl⟩)).up (Or.inr ⟨rfl, rfl, Or.inr rfl⟩)
  · rw [e3, gs_eq, upd_ne (by decide), e2, gs_eq, upd_eq]
  · rw [e3, gs_eq, upd_eq]
    exact k2
theorem wI_failQX {post : Int32 → GH → Prop} {x : Int32} (h : ¬ G 3 0 4 = 0) (hp : post (0 : Int32) G) : wp_X2_fail post x G := by
  unfold wp_X2_fail
  exact br_f h hp
def vlI : Option Nat → Int
  | none => 0
  | some i => -(i : Int) - 1
theorem wI_valueOfWord {post : Int32 → GH → Prop} (hT : CT b n p (G 1)) (hp : post (zI (vlI (vlW b n p))) G) : wp_X2_valueOfWord post G := by
  unfold wp_X2_valueOfWord
  unfold vlW at hp
  have stp : ∀ {w : Nat} {A B : GH → Prop}, w < nsx → (wdB b n p w = true → B G) → (¬ wdB b n p w = true → A G) → wp_X6_isWord (fun (x : Bool) (g : GH) => (x = false → A g) ∧ (x = true → B g)) w G := by
    intro w A B hw h1 h2
    refine wI_isWord hT hw ?_
    by_cases z : wdB b n p w = true
    · exact br_bt z (h1 z)
    · exact br_bf (by simpa using z) (h2 z)
  refine stp (by decide) (fun z => ?_) (fun z => ?_)
  · rw [if_pos z] at hp
    exact hp
  · rw [if_neg z] at hp
    refine stp (by decide) (fun z => ?_) (fun z => ?_)
    · rw [if_pos z] at hp
      exact hp
    · rw [if_neg z] at hp
      refine stp (by decide) (fun z => ?_) (fun z => ?_)
      · rw [if_pos z] at hp
        exact hp
      · rw [if_neg z] at hp
        refine stp (by decide) (fun z => ?_) (fun z => ?_)
        · rw [if_pos z] at hp
          exact hp
        · rw [if_neg z] at hp
          refine stp (by decide) (fun z => ?_) (fun z => ?_)
          · rw [if_pos z] at hp
            exact hp
          · rw [if_neg z] at hp
            refine stp (by decide) (fun z => ?_) (fun z => ?_)
            · rw [if_pos z] at hp
              exact hp
            · rw [if_neg z] at hp
              refine stp (by decide) (fun z => ?_) (fun z => ?_)
              · rw [if_pos z] at hp
                exact hp
              · rw [if_neg z] at hp
                refine stp (by decide) (fun z => ?_) (fun z => ?_)
                · rw [if_pos z] at hp
                  exact hp
                · rw [if_neg z] at hp
                  refine stp (by decide) (fun z => ?_) (fun z => ?_)
                  · rw [if_pos z] at hp
                    exact hp
                  · rw [if_neg z] at hp
                    exact hp
theorem wI_readValue {post : Int32 → GH → Prop} (h : QG b n p G) (hf : ∀ c s, vlR b n p = .inl (c, s) → ∀ r G', Ag WQ G G' → QX b n c s G' → post r G') (ht : ∀ v q, vlR b n p = .inr (v, q) → ∀ G', Ag WQ G G' → QG b n q G' → post (zI v) G') : wp_X2_readValue post G := by
  obtain ⟨hB, ⟨hn, hpn⟩, h2, h3, h5, h6, h4⟩ := id h.1
  have hr := tk_rg (b := b) hpn
  have hv : tkV b n p ≤ 100000 := vlN_le 100000 b _ _
  unfold wp_X2_readValue
  unfold vlR at hf ht
  rw [h2, zl2, zI_eq (by omega)]
  refine br_c (fun w => ?_) (fun w => ?_)
  · have w : tkK b n p = 2 := by omega
    rw [if_pos w] at hf ht
    rw [h4 w]
    have j47 : j_X2_readValue_47 post (zI (tkV b n p)) G := by
      unfold j_X2_readValue_47
      rw [zl9999, zI_le (by omega)]
      refine br_c (fun z => ?_) (fun z => ?_)
      · rw [if_pos (show tkV b n p ≤ 9999 by omega)] at ht
        exact br_t h.2.1 (h.adv (fun G' ag hQ => ht _ _ rfl G' ag hQ))
      · rw [if_neg (show ¬ tkV b n p ≤ 9999 by omega)] at hf
        exact wI_failQ 2 rfl (by omega) h (fun G' ag hX => hf _ _ rfl _ G' ag hX)
    unfold j_X2_readValue_25
    refine br_c (fun z => ?_) (fun z => j47)
    exact br_t (by rw [h2, w]; rfl) j47
  · have w : ¬ tkK b n p = 2 := by omega
    rw [if_neg w] at hf ht
    refine wI_valueOfWord h.1 ?_
    unfold j_X2_readValue_25
    cases hw : vlW b n p with
    | none =>
      rw [hw] at hf
      refine br_t rfl (br_f (by rw [h2, zl2, zI_eq (by omega)]; omega) ?_)
      exact wI_failQ 1 rfl (by omega) h (fun G' ag hX => hf _ _ rfl _ G' ag hX)
    | some i =>
      rw [hw] at ht
      have hi := vlW_lt hw
      rw [show vlI (some i) = -(i : Int) - 1 from rfl]
      refine br_f (by rw [zl0, zI_eq (by omega)]; omega) ?_
      unfold j_X2_readValue_47
      refine br_t (by rw [zl9999, zI_le (by omega)]; omega) (br_t h.2.1 (h.adv (fun G' ag hQ => ht _ _ rfl G' ag hQ)))
theorem hvS_1 (R : RR) (d m : Nat) : hvS R d m 1 = bset (hoB R d m) (2 * R 0) := by
  unfold hvS
  exact bset_cg (fun i _ => rfl)
theorem hvS_0 (R : RR) (d m : Nat) : hvS R d m 0 = bset (enB R d m) (2 * R 0) := by
  unfold hvS
  exact bset_cg (fun i _ => rfl)
theorem hvS_2 {R : RR} {d m N : Nat} (hV : VR N R) (hm : m < R 1) : hvS R d m 2 = bdf (bset (enB R d m) (2 * R 0)) (bset (hoB R d m) (2 * R 0)) := by
  have l6 := hV.l6
  rw [bset_dif _ _ (by omega)]
  unfold hvS
  exact bset_cg (fun i _ => reB_eq hm)
theorem hvS_lt {R : RR} {d m w N : Nat} (hV : VR N R) : hvS R d m w < 8192 := by
  have l6 := hV.l6
  exact bset_lt13 _ (by omega)
set_option maxHeartbeats 1000000 in
theorem wI_valueOf {post : Int32 → GH → Prop} {v : Int} {m : Nat} (hV : VR 12 R) (hD : QD R day G) (hm : m < R 1) (hv : -9 ≤ v ∧ v ≤ 9999) (hp : post (zI (vv v (fun i => vW R day i m))) G) : wp_X2_valueOf post (zI v) (zI m) G := by
  obtain ⟨hC, hK⟩ := hD
  obtain ⟨k2, k6, s3, s4, s5⟩ := hK m hm
  have hm12 := hV.mk
  have cm : (zI (m : Int)).toNatClampNeg = m := zI_clN (by omega)
  have vin : vp_in (zI (m : Int)) 13 := zI_in (by omega)
  have hl6 := hV.l6
  have b3 : bset (enB R day m) (2 * R 0) < 8192 := bset_lt13 _ (by omega)
  have b4 : bset (hoB R day m) (2 * R 0) < 8192 := bset_lt13 _ (by omega)
  have hgd := hV.gd hm
  unfold wp_X2_valueOf
  have cs : 0 ≤ v ∨ v = -1 ∨ v = -2 ∨ v = -3 ∨ v = -4 ∨ v = -5 ∨ v = -6 ∨ v = -7 ∨ v = -8 ∨ v = -9 := by omega
  rcases cs with h | rfl | rfl | rfl | rfl | rfl | rfl | rfl | rfl | rfl
  · have e : vv v (fun i => vW R day i m) = v := by
      unfold vv
      rw [if_neg (by omega)]
    rw [e] at hp
    have ne : ∀ (k : Int) (x : Int32), x = zI k → -9 ≤ k → k < 0 → ¬ zI v = x := fun k x hx h1 h2 => by
      intro z
      rw [hx] at z
      rw [zI_eq (by omega)] at z
      omega
    exact ⟨fun _ => hp, fun z => absurd z (ne (-9) _ rfl (by omega) (by omega)), fun z => absurd z (ne (-8) _ rfl (by omega) (by omega)), fun z => absurd z (ne (-7) _ rfl (by omega) (by omega)), fun z => absurd z (ne (-6) _ rfl (by omega) (by omega)), fun z => absurd z (ne (-5) _ rfl (by omega) (by omega)), fun z => absurd z (ne (-4) _ rfl (by omega) (by omega)), fun z => absurd z (ne (-3) _ rfl (by omega) (by omega)), fun z => absurd z (ne (-2) _ rfl (by omega) (by omega)), fun z => absurd z (ne (-1) _ rfl (by omega) (by omega))⟩
  · refine ⟨fun z => absurd z (by decide), fun z => absurd z (by decide), fun z => absurd z (by decide), fun z => absurd z (by decide), fun z => absurd z (by decide), fun z => absurd z (by decide), fun z => absurd z (by decide), fun z => absurd z (by decide), fun z => absurd z (by decide), fun _ => ?_⟩
    exact hp
  · refine ⟨fun z => absurd z (by decide), fun z => absurd z (by decide), fun z => absurd z (by decide), fun z => absurd z (by decide), fun z => absurd z (by decide), fun z => absurd z (by decide), fun z => absurd z (by decide), fun z => absurd z (by decide), fun _ => ⟨vin, ?_⟩, fun z => absurd z (by decide)⟩
    rw [cm, hC.fl hm]
    exact hp
  · refine ⟨fun z => absurd z (by decide), fun z => absurd z (by decide), fun z => absurd z (by decide), fun z => absurd z (by decide), fun z => absurd z (by decide), fun z => absurd z (by decide), fun z => absurd z (by decide), fun _ => ⟨vin, ?_⟩, fun z => absurd z (by decide), fun z => absurd z (by decide)⟩
    rw [cm, hC.gd hm]
    exact wI_bitCount (by omega) hp
  · refine ⟨fun z => absurd z (by decide), fun z => absurd z (by decide), fun z => absurd z (by decide), fun z => absurd z (by decide), fun z => absurd z (by decide), fun z => absurd z (by decide), fun _ => ⟨vin, ?_⟩, fun z => absurd z (by decide), fun z => absurd z (by decide), fun z => absurd z (by decide)⟩
    rw [cm, hC.uc hm]
    exact hp
  · refine ⟨fun z => absurd z (by decide), fun z => absurd z (by decide), fun z => absurd z (by decide), fun z => absurd z (by decide), fun z => absurd z (by decide), fun _ => ⟨vin, ?_⟩, fun z => absurd z (by decide), fun z => absurd z (by decide), fun z => absurd z (by decide), fun z => absurd z (by decide)⟩
    rw [cm, hC.ln hm]
    exact hp
  · refine ⟨fun z => absurd z (by decide), fun z => absurd z (by decide), fun z => absurd z (by decide), fun z => absurd z (by decide), fun _ => ⟨vin, ?_⟩, fun z => absurd z (by decide), fun z => absurd z (by decide), fun z => absurd z (by decide), fun z => absurd z (by decide), fun z => absurd z (by decide)⟩
    rw [cm, k2]
    exact hp
  · refine ⟨fun z => absurd z (by decide), fun z => absurd z (by decide), fun z => absurd z (by decide), fun _ => ?_, fun z => absurd z (by decide), fun z => absurd z (by decide), fun z => absurd z (by decide), fun z => absurd z (by decide), fun z => absurd z (by decide), fun z => absurd z (by decide)⟩
    exact wI_fieldOf hV (by omega) hm k6 hp
  · refine ⟨fun z => absurd z (by decide), fun z => absurd z (by decide), fun _ => ⟨vin, ?_⟩, fun z => absurd z (by decide), fun z => absurd z (by decide), fun z => absurd z (by decide), fun z => absurd z (by decide), fun z => absurd z (by decide), fun z => absurd z (by decide), fun z => absurd z (by decide)⟩
    rw [cm, s4]
    refine wI_bitCount b4 ?_
    rw [← hvS_1]
    exact hp
  · refine ⟨fun z => absurd z (by decide), fun _ => ?_, fun z => absurd z (by decide), fun z => absurd z (by decide), fun z => absurd z (by decide), fun z => absurd z (by decide), fun z => absurd z (by decide), fun z => absurd z (by decide), fun z => absurd z (by decide), fun z => absurd z (by decide)⟩
    unfold wp_X5_refusedHalves
    refine ⟨vin, vin, ?_⟩
    rw [cm, s3, s4, zI_difX (by omega), ← hvS_2 hV hm]
    exact wI_bitCount (hvS_lt hV) hp
end
