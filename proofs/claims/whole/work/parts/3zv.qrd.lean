/-! ===== the answer to a question, in the class ===== -/
def fsB (p : Nat → Bool) : Nat → Int
  | 0 => -1
  | n + 1 => if fsB p n = -1 then (if p n = true then (n : Int) else -1) else fsB p n
theorem fsB_no {p : Nat → Bool} : ∀ n, (∀ i, i < n → p i = false) → fsB p n = -1
  | 0, _ => rfl
  | n + 1, h => by
    unfold fsB
    rw [if_pos (fsB_no n (fun i hi => h i (by omega))), if_neg (by rw [h n (by omega)]; decide)]
theorem fsB_at {p : Nat → Bool} {m : Nat} (h0 : ∀ i, i < m → p i = false) (h1 : p m = true) : ∀ d, fsB p (m + d + 1) = m
  | 0 => by
    unfold fsB
    rw [if_pos (fsB_no m h0), if_pos h1]
  | d + 1 => by
    have ih := fsB_at h0 h1 d
    show (if fsB p (m + d + 1) = -1 then _ else fsB p (m + d + 1)) = _
    rw [ih, if_neg (by omega)]
def qAn (R : RR) (day : Nat) (many : Bool) (E : QE) : Int := if many = true then (cntB (fun m => E (fun i => vW R day i m)) (R 1) : Int) else fsB (fun m => E (fun i => vW R day i m)) (R 1)
def WQr (x c j : Nat) : Prop := x = 1 ∧ c = 0 ∧ 1 ≤ j ∧ j ≤ 6 ∨ x = 3 ∧ c = 0 ∧ 4 ≤ j ∧ j ≤ 6
section
variable {G : GH} {b : Nat → Nat} {n p day : Nat} {R : RR} {post : Int32 → GH → Prop}
theorem wI_bitAny {r : Int32} (hp : ∀ v, post v G) : wp_J6_bitCount_0f7a4 post r G := by
  unfold wp_J6_bitCount_0f7a4
  rintro _ rfl _ rfl _ rfl _ rfl _ rfl
  exact hp _
theorem wI_firstAny {r : Int32} {N : Nat} (hN : N ≤ 13) (h8 : G 8 0 1 = zI N) (hp : ∀ v, post v G) : wp_X2_firstOf post r G := by
  unfold wp_X2_firstOf
  intro P K
  have main : ∀ f m : Nat, m + f = N → P r (zI m) G := by
    intro f
    induction f with
    | zero =>
      intro m hm
      refine K _ _ _ ?_
      unfold lb_X2_firstOf_2
      rw [h8]
      exact br_t (by rw [zI_le (by omega)]; omega) (hp _)
    | succ f ih =>
      intro m hm
      refine K _ _ _ ?_
      unfold lb_X2_firstOf_2
      rw [h8]
      refine br_f (by rw [zI_le (by omega)]; omega) ?_
      have nx := ih (m + 1) (by omega)
      rw [show zI (m : Int) + (1 : Int32) = zI ((m + 1 : Nat) : Int) from zI_add _ 1]
      unfold wp_X7_isIn
      refine br_c (fun _ => ?_) (fun _ => ?_)
      · exact br_bf rfl nx
      · exact br_bt rfl (hp _)
  exact main N 0 (by omega)
theorem wI_firstOf {q : Nat → Bool} {N : Nat} (hN : N ≤ 13) (h8 : G 8 0 1 = zI N) (hp : post (zI (fsB q N)) G) : wp_X2_firstOf post (zI (bset q N)) G := by
  have hb := bset_lt13 q hN
  unfold wp_X2_firstOf
  intro P K
  have main : ∀ f m : Nat, m + f = N → (∀ i, i < m → q i = false) → P (zI (bset q N)) (zI m) G := by
    intro f
    induction f with
    | zero =>
      intro m hm h0
      refine K _ _ _ ?_
      unfold lb_X2_firstOf_2
      rw [h8]
      refine br_t (by rw [zI_le (by omega)]; omega) ?_
      rw [fsB_no N (fun i hi => h0 i (by omega))] at hp
      exact hp
    | succ f ih =>
      intro m hm h0
      refine K _ _ _ ?_
      unfold lb_X2_firstOf_2
      rw [h8]
      refine br_f (by rw [zI_le (by omega)]; omega) ?_
      rw [wI_isIn (by omega) (by omega), bset_tb, decide_eq_true (by omega), Bool.true_and]
      by_cases z : q m = true
      · refine br_bt z ?_
        have := fsB_at h0 z (N - m - 1)
        rw [show m + (N - m - 1) + 1 = N by omega] at this
        rw [this] at hp
        exact hp
      · have z0 : q m = false := by simpa using z
        refine br_bf z0 ?_
        rw [show zI (m : Int) + (1 : Int32) = zI ((m + 1 : Nat) : Int) from zI_add _ 1]
        refine ih (m + 1) (by omega) (fun i hi => ?_)
        by_cases u : i = m
        · rw [u]
          exact z0
        · exact h0 i (by omega)
  exact main N 0 (by omega) (fun i hi => by omega)
set_option maxHeartbeats 1000000 in
theorem wI_qread (hV : VR 12 R) (hD : QD R day G) (hB : TB b (G 1 1)) (hn : n ≤ 200) (hf : ∀ c s, qsR b n = .inl (c, s) → 1 ≤ c ∧ c ≤ 4 → ∀ G', Ag WQr G G' → G' 1 0 1 = zI 0 → G' 3 0 5 = zI s → post (zI c) G') (ht : ∀ E, qsR b n = .inr E → ∀ G', Ag WQr G G' → G' 1 0 1 = zI 0 → G' 3 0 5 = zI (-1) → G' 3 0 6 = zI (qAn R day (wdB b n 0 15) E) → post (zI 0) G') : wp_X2_read post (zI n) G := by
  have hm12 := hV.mk
  unfold wp_X2_read
  intro G1 e1 G2 e2
  have a2 : Ag WQr G G2 := by
    rw [e2, e1]
    exact ((Ag.rf G).up (Or.inr ⟨rfl, rfl, by omega, by omega⟩)).up (Or.inr ⟨rfl, rfl, by omega, by omega⟩)
  have f4 : G2 3 0 4 = 0 := by rw [e2, gs_eq, upd_ne (by decide), e1, gs_eq, upd_eq]
  have f5 : G2 3 0 5 = zI (-1) := by
    rw [e2, gs_eq, upd_eq]
    rfl
  have hB2 : TB b (G2 1 1) := by
    rw [a2.ce 1 1 (fun j w => by unfold WQr at w; omega)]
    exact hB
  have dR : ∀ {G'}, Ag WQr G G' → QD R day G' := fun {G'} ag => by
    unfold QD
    rw [ag.ob 8 (fun c j w => by unfold WQr at w; omega), ag.ob 6 (fun c j w => by unfold WQr at w; omega), ag.ob 5 (fun c j w => by unfold WQr at w; omega)]
    exact hD
  refine wI_takeText hB2 (by omega) (fun G3 ag3 g1 hT3 => ?_)
  have a3 : Ag WQr G G3 := a2.wk ag3 (fun x c j z => by unfold WX at z; unfold WQr; omega)
  have h3 : QG b n 0 G3 := ⟨hT3, by rw [ag3 3 0 4 (fun w => by unfold WX at w; omega)]; exact f4, by rw [ag3 3 0 5 (fun w => by unfold WX at w; omega)]; exact f5⟩
  have s1 : ∀ {G'}, Ag WQ G3 G' → G' 1 0 1 = zI 0 := fun {G'} ag => by
    rw [ag 1 0 1 (fun w => by unfold WQ WA at w; omega)]
    exact g1
  have aQ : ∀ {G'}, Ag WQ G3 G' → Ag WQr G G' := fun {G'} ag => a3.wk ag (fun x c j z => by unfold WQ WA at z; unfold WQr; omega)
  -- the end with a fault
  have bad : ∀ c s v2 r G', qsR b n = .inl (c, s) → Ag WQ G3 G' → QX b n c s G' → j_X2_read_91 post v2 r G' := by
    intro c s v2 r G' e ag hX
    have hc := hX.2.2.1
    have fin : ∀ v, j_X2_read_108 post v G' := by
      intro v
      unfold j_X2_read_108
      intro G16 e16
      have k4 : G16 3 0 4 = zI c := by
        rw [e16, gs_eq, upd_ne (by decide)]
        exact hX.1
      rw [k4]
      refine hf c s e hc G16 ?_ ?_ ?_
      · rw [e16]
        exact (aQ ag).up (Or.inr ⟨rfl, rfl, by omega, by omega⟩)
      · rw [e16, gs_ne (by decide)]
        exact s1 ag
      · rw [e16, gs_eq, upd_ne (by decide)]
        exact hX.2.1
    unfold j_X2_read_91
    exact br_c (fun _ => wI_firstAny (N := R 1) (by omega) (dR (aQ ag)).1.mk fin) (fun _ => wI_bitAny fin)
  have rest : ∀ v2 : Int32, v2 = bI (wdB b n 0 15) → (wdB b n 0 15 = true ∨ wdB b n 0 16 = true) → j_X2_read_55 post v2 G3 := by
    intro v2 hv2 hw
    unfold j_X2_read_55
    unfold qsR at hf ht bad
    rw [if_pos hw] at hf ht bad
    refine h3.adv (fun G4 ag4 h4 => ?_)
    have hD4 := dR (aQ ag4)
    have hTs := wI_readTest (b := b) (n := n) (day := day) (R := R) (k := 6) (e := 23) (by omega) hn hV (psF_ok 6) (wI_readFact hn hV 6 23 (by omega) (by omega))
    show (sQ 24).2 _ (zI (6 - ((6 : Nat) : Int))) G4
    refine hTs _ G4 _ hD4 h4 (fun c s e1 r G5 ag5 hX => ?_) (fun q E e1 G5 ag5 h5 => ?_)
    · exact br_f hX.ne (bad c s _ _ G5 (sB_l e1) (ag4.tr ag5) hX)
    · rw [sB_r e1] at hf ht bad
      unfold qsR2 at hf ht bad
      have ag5' := ag4.tr ag5
      have h5r := tk_rg (b := b) h5.1.2.1.2
      refine br_t h5.2.1 ?_
      rw [h5.1.2.2.1, zl0, zI_eq (by omega)]
      refine br_c (fun z => ?_) (fun z => ?_)
      · have z : tkK b n (q, E).1 = 0 := by
          show tkK b n q = 0
          omega
        rw [if_pos z] at ht
        have fin : ∀ v, v = zI (qAn R day (wdB b n 0 15) E) → j_X2_read_108 post v G5 := by
          intro v hv
          unfold j_X2_read_108
          intro G16 e16
          have k4 : G16 3 0 4 = zI 0 := by
            rw [e16, gs_eq, upd_ne (by decide)]
            exact h5.2.1
          rw [k4]
          refine ht E rfl G16 ?_ ?_ ?_ ?_
          · rw [e16]
            exact (aQ ag5').up (Or.inr ⟨rfl, rfl, by omega, by omega⟩)
          · rw [e16, gs_ne (by decide)]
            exact s1 ag5'
          · rw [e16, gs_eq, upd_ne (by decide)]
            exact h5.2.2
          · rw [e16, gs_eq, upd_eq, hv]
        unfold j_X2_read_91
        unfold qAn at fin
        cases hm : wdB b n 0 15
        · rw [hm] at fin hv2
          refine br_t hv2 ?_
          unfold bE
          refine wI_firstOf (by omega) (dR (aQ ag5')).1.mk (fin _ ?_)
          rw [if_neg (by decide)]
        · rw [hm] at fin hv2
          refine br_f (by rw [hv2]; decide) ?_
          refine wI_bitCount (bE_lt hV E) (fin _ ?_)
          rw [if_pos rfl]
          unfold bE
          rw [cntB_bset (by omega)]
      · have z : ¬ tkK b n (q, E).1 = 0 := by
          show ¬ tkK b n q = 0
          omega
        rw [if_neg z] at hf bad
        exact wI_failQ 1 rfl (by omega) h5 (fun G6 ag6 hX => bad _ _ _ _ G6 rfl (ag5'.tr ag6) hX)
  refine wI_isWord h3.1 (by decide) ?_
  by_cases a : wdB b n 0 15 = true
  · exact br_bt a (rest _ (by rw [a]) (Or.inl a))
  · refine br_bf (by simpa using a) (wI_isWord h3.1 (by decide) ?_)
    by_cases c : wdB b n 0 16 = true
    · exact br_bt c (rest _ rfl (Or.inr c))
    · refine br_bf (by simpa using c) ?_
      refine wI_failQ 1 rfl (by omega) h3 (fun G4 ag4 hX => ?_)
      have hc := hX.2.2.1
      rw [hX.1]
      refine hf 1 (tkS b n 0) ?_ hc G4 (aQ ag4) (s1 ag4) hX.2.1
      unfold qsR
      rw [if_neg (fun z => z.elim a c)]
end
