/-! ===== comparisons, facts, tests and the whole question, in the class ===== -/
section
variable {G : GH} {b : Nat → Nat} {n p day : Nat} {R : RR}
theorem sgB_ne {c c' : Nat} (hc : c ≠ c') (h : sgB b n p c = true) : sgB b n p c' = false := by
  unfold sgB at h ⊢
  have h := of_decide_eq_true h
  exact decide_eq_false (fun z => hc (by rw [← h.2, z.2]))
set_option maxHeartbeats 1000000 in
theorem wI_compL {post : Int32 → GH → Prop} {k : Nat} {l r : Int} {v2 v3 : Int32} (hk : k = 0 ∧ v2 = 1 ∨ k = 1 ∧ v2 = 0 ∧ v3 = 0 ∨ k = 2 ∧ v2 = 0 ∧ v3 = 1) (hl : -9 ≤ l ∧ l ≤ 9999) (hr : -9 ≤ r ∧ r ≤ 9999) (hV : VR 12 R) (hD : QD R day G) (h0 : G 3 0 4 = 0) (hp : post (zI (bE R day (cmpE k l r))) G) : lp_X2_readComparison_77 post (zI l) v2 v3 (zI r) (0 : Int32) (0 : Int32) G := by
  have hm12 := hV.mk
  intro P K
  have rgv : ∀ v m, -9 ≤ v ∧ v ≤ 9999 → m < R 1 → -9 ≤ vv v (fun i => vW R day i m) ∧ vv v (fun i => vW R day i m) ≤ 9999 := by
    intro v m hv hm
    unfold vv
    split
    · have := vW_rg (day := day) (i := (-v - 1).toNat) hV (by omega) hm
      dsimp only
      omega
    · omega
  have main : ∀ f m : Nat, m + f = R 1 → P (zI l) v2 v3 (zI r) (zI (bset (fun m => cmpE k l r (fun i => vW R day i m)) m)) (zI m) G := by
    intro f
    induction f with
    | zero =>
      intro m hm
      have : m = R 1 := by omega
      subst this
      refine K _ _ _ _ _ _ _ ?_
      unfold lb_X2_readComparison_77
      rw [hD.1.mk]
      exact br_t (by rw [zI_le (by omega)]; omega) hp
    | succ f ih =>
      intro m hm
      have hmR : m < R 1 := by omega
      refine K _ _ _ _ _ _ _ ?_
      unfold lb_X2_readComparison_77
      rw [hD.1.mk]
      refine br_f (by rw [zI_le (by omega)]; omega) (br_t h0 ?_)
      refine wI_valueOf hV hD hmR hl (wI_valueOf hV hD hmR hr ?_)
      have h1 := rgv l m hl hmR
      have h2 := rgv r m hr hmR
      have nx := ih (m + 1) (by omega)
      have e : bset (fun m => cmpE k l r (fun i => vW R day i m)) (m + 1) = bset (fun m => cmpE k l r (fun i => vW R day i m)) m ||| (if cmpE k l r (fun i => vW R day i m) = true then 2 ^ m else 0) := rfl
      rw [e] at nx
      have yes : cmpE k l r (fun i => vW R day i m) = true → j_X2_readComparison_150 post P (zI l) v2 v3 (zI r) (zI (bset (fun m => cmpE k l r (fun i => vW R day i m)) m)) (zI m) G := by
        intro z
        rw [if_pos z] at nx
        unfold j_X2_readComparison_150
        intro y ey
        rw [zI_bit (by omega), zI_or] at ey
        subst ey
        rw [show zI (m : Int) + (1 : Int32) = zI ((m + 1 : Nat) : Int) from zI_add _ 1]
        exact nx
      have no : ¬ cmpE k l r (fun i => vW R day i m) = true → P (zI l) v2 v3 (zI r) (zI (bset (fun m => cmpE k l r (fun i => vW R day i m)) m)) (zI m + (1 : Int32)) G := by
        intro z
        rw [if_neg z, Nat.or_zero] at nx
        rw [show zI (m : Int) + (1 : Int32) = zI ((m + 1 : Nat) : Int) from zI_add _ 1]
        exact nx
      rw [zI_eq (by omega), zI_le (by omega), zI_le (by omega)]
      unfold cmpE at yes no
      rcases hk with ⟨rfl, rfl⟩ | ⟨rfl, rfl, rfl⟩ | ⟨rfl, rfl, rfl⟩
      · rw [if_pos rfl, decide_eq_true_eq] at yes no
        exact br_f (by decide) (br_c (fun z => no (by omega)) (fun z => yes (by omega)))
      · rw [if_neg (by decide), if_pos rfl, decide_eq_true_eq] at yes no
        exact br_t rfl (br_t rfl (br_c (fun z => yes z) (fun z => no z)))
      · rw [if_neg (by decide), if_neg (by decide), decide_eq_true_eq] at yes no
        exact br_t rfl (br_f (by decide) (br_c (fun z => no (by omega)) (fun z => yes (by omega))))
  exact main (R 1) 0 (by omega)
set_option maxHeartbeats 1000000 in
theorem wI_readComparison {post : Int32 → GH → Prop} (hV : VR 12 R) (hD : QD R day G) (h : QG b n p G) (hf : ∀ c s, cmR b n p = .inl (c, s) → ∀ r G', Ag WQ G G' → QX b n c s G' → post r G') (ht : ∀ q E, cmR b n p = .inr (q, E) → ∀ G', Ag WQ G G' → QG b n q G' → post (zI (bE R day E)) G') : wp_X2_readComparison post G := by
  have hm12 := hV.mk
  unfold wp_X2_readComparison
  unfold cmR at hf ht
  refine wI_readValue h (fun c s e r G1 ag1 hX => ?_) (fun l q e G1 ag1 h1 => ?_)
  · obtain ⟨q', hT'⟩ := hX.2.2.2
    refine wI_isSign 60 hT' rfl (by omega) (wI_isSign 62 hT' rfl (by omega) (br_f hX.ne ?_))
    unfold j_X2_readComparison_52
    exact wI_failQX hX.ne (hf c s (sB_l e) _ G1 ag1 hX)
  · have hl := vlR_ok e
    rw [sB_r e] at hf ht
    unfold cmR1 at hf ht
    refine wI_isSign 60 h1.1 rfl (by omega) (wI_isSign 62 h1.1 rfl (by omega) (br_t h1.2.1 ?_))
    have j58 : ∀ (k : Nat) (v2 v3 : Int32), sgK b n q = some k → (k = 0 ∧ v2 = 1 ∨ k = 1 ∧ v2 = 0 ∧ v3 = 0 ∨ k = 2 ∧ v2 = 0 ∧ v3 = 1) → j_X2_readComparison_58 post (zI l) v2 v3 G1 := by
      intro k v2 v3 hsg hk
      have hsg : sgK b n (l, q).2 = some k := hsg
      rw [hsg] at hf ht
      have hf : ∀ c s, cmR2 b n k (l, q) = .inl (c, s) → ∀ r G', Ag WQ G G' → QX b n c s G' → post r G' := hf
      have ht : ∀ q' E, cmR2 b n k (l, q) = .inr (q', E) → ∀ G', Ag WQ G G' → QG b n q' G' → post (zI (bE R day E)) G' := ht
      unfold cmR2 at hf ht
      unfold j_X2_readComparison_58
      refine h1.adv (fun G2 ag2 h2 => ?_)
      refine wI_readValue h2 (fun c s e2 r G3 ag3 hX => ?_) (fun r q2 e2 G3 ag3 h3 => ?_)
      · intro P K
        refine K _ _ _ _ _ _ _ ?_
        unfold lb_X2_readComparison_77
        have fin : ∀ v, post v G3 := fun v => hf c s (sB_l e2) v G3 ((ag1.tr ag2).tr ag3) hX
        exact br_c (fun _ => fin _) (fun _ => br_f hX.ne (fin _))
      · have hr := vlR_ok e2
        have ag3' := (ag1.tr ag2).tr ag3
        refine wI_compL hk ⟨hl.2.1, hl.2.2.1⟩ ⟨hr.2.1, hr.2.2.1⟩ hV (hD.fr ag3') h3.2.1 ?_
        exact ht q2 _ (sB_r e2) G3 ag3' h3
    by_cases a : sgB b n q 60 = true
    · have hk : sgK b n q = some 0 := by
        unfold sgK
        rw [if_pos a]
      exact br_bt a (j58 0 _ _ hk (Or.inl ⟨rfl, by rw [a]; rfl⟩))
    · have a0 : sgB b n q 60 = false := by simpa using a
      refine br_bf a0 ?_
      by_cases c : sgB b n q 62 = true
      · have c1 := sgB_ne (c := 62) (c' := 61) (by decide) c
        have hk : sgK b n q = some 2 := by
          unfold sgK
          rw [if_neg a, if_neg (by rw [c1]; decide), if_pos c]
        exact br_bt c (j58 2 _ _ hk (Or.inr (Or.inr ⟨rfl, by rw [a0]; rfl, by rw [c]; rfl⟩)))
      · have c0 : sgB b n q 62 = false := by simpa using c
        refine br_bf c0 (wI_isSign 61 h1.1 rfl (by omega) ?_)
        by_cases d : sgB b n q 61 = true
        · have hk : sgK b n q = some 1 := by
            unfold sgK
            rw [if_neg a, if_pos d]
          exact br_bt d (j58 1 _ _ hk (Or.inr (Or.inl ⟨rfl, by rw [a0]; rfl, by rw [c0]; rfl⟩)))
        · refine br_bf (by simpa using d) ?_
          have hk : sgK b n (l, q).2 = none := by
            show sgK b n q = none
            unfold sgK
            rw [if_neg a, if_neg d, if_neg c]
          rw [hk] at hf
          unfold j_X2_readComparison_52
          exact wI_failQ 1 rfl (by omega) h1 (fun G' ag hX => hf _ _ rfl _ G' (ag1.tr ag) hX)
end
/-- a method that reads a fact or a test does what F says, at every height from e on -/
def CF1 (b : Nat → Nat) (n : Nat) (R : RR) (day : Nat) (F : Nat → QR) (k : Nat) (q : (Int32 → GH → Prop) → Int32 → GH → Prop) : Prop :=
  ∀ (p : Nat) (G : GH) (post : Int32 → GH → Prop), QD R day G → QG b n p G → (∀ c s, F p = .inl (c, s) → ∀ r G', Ag WQ G G' → QX b n c s G' → post r G') → (∀ q E, F p = .inr (q, E) → ∀ G', Ag WQ G G' → QG b n q G' → post (zI (bE R day E)) G') → q post (zI (6 - (k : Int))) G
section
variable {b : Nat → Nat} {n day : Nat} {R : RR}
theorem bE_lt (hV : VR 12 R) (E : QE) : bE R day E < 8192 := bset_lt13 _ (Nat.le_trans hV.mk (by decide))
set_option maxHeartbeats 2000000 in
theorem wI_readTest {k e : Nat} {F : Nat → QR} (hk : k ≤ 6) (hn : n ≤ 200) (hV : VR 12 R) (hF : FO b n F) (hQ : CF1 b n R day F k (sQ e).1) : CF1 b n R day (tsR b n F) k (sQ (e + 1)).2 := by
  intro p G post hD h hf ht
  show wr_X2_readTest post (sQ e).1 (sQ e).2 (zI (6 - (k : Int))) G
  unfold wr_X2_readTest
  unfold tsR at hf ht
  have bad : ∀ c s v2 v3 t G', sB (F p) (fun x => lpT b n F 201 (fun _ => false) x.2 x.1) = .inl (c, s) → Ag WQ G G' → QX b n c s G' → lp_X2_readTest_11 post (sQ e).1 (sQ e).2 (zI (6 - (k : Int))) v2 v3 t G' := by
    intro c s v2 v3 t G' e1 ag hX
    intro P K
    refine K _ _ _ _ _ ?_
    unfold lb_X2_readTest_11
    exact br_c (fun _ => hf c s e1 _ G' ag hX) (fun _ => br_f hX.ne (hf c s e1 _ G' ag hX))
  refine hQ p G _ hD h (fun c s e1 r G1 ag1 hX => ?_) (fun q E e1 G1 ag1 h1 => ?_)
  · exact bad c s _ _ _ G1 (sB_l e1) ag1 hX
  · rw [sB_r e1] at hf ht bad
    have hp0 := h.1.2.1.2
    have hq1 := hF p q E hp0 e1
    generalize hT0 : lpT b n F 201 (fun _ => false) (q, E).2 (q, E).1 = T at hf ht bad
    have main : ∀ f t q : Nat, ∀ (ms bo : QE) (G' : GH), n < q + f → t < q → Ag WQ G G' → QG b n q G' → lpT b n F f ms bo q = T → lp_X2_readTest_11 post (sQ e).1 (sQ e).2 (zI (6 - (k : Int))) (zI (bE R day ms)) (zI (bE R day bo)) (zI t) G' := by
      intro f
      induction f with
      | zero =>
        intro t q ms bo G' h1 h2 ag hq hr
        have := hq.1.2.1.2
        omega
      | succ f ih =>
        intro t q ms bo G' h1 h2 ag hq hr
        have hqn := hq.1.2.1.2
        have hrg := tk_rg (b := b) hqn
        have eor : zI (bE R day ms : Int) ||| zI (bE R day bo : Int) = zI (bE R day (fun W => ms W || bo W)) := by
          rw [zI_or]
          unfold bE
          rw [bset_or]
        intro P K
        refine K _ _ _ _ _ ?_
        unfold lb_X2_readTest_11
        refine br_f (by rw [zl200, zI_le (by omega)]; omega) (br_t hq.2.1 ?_)
        refine wI_isWord hq.1 (by decide) ?_
        unfold lpT at hr
        by_cases a : wdB b n q 17 = true
        · refine br_bt a ?_
          rw [if_pos a] at hr
          have hk1 := hrg.2.2.2.1 (by rw [wd_kind a]; decide)
          refine hq.adv (fun G2 ag2 h2' => ?_)
          have ag2' := ag.tr ag2
          refine hQ _ G2 _ (hD.fr ag2') h2' (fun c s e2 r G3 ag3 hX => ?_) (fun q3 E3 e2 G3 ag3 h3 => ?_)
          · intro y ey
            rw [sB_l e2] at hr
            exact bad c s _ _ _ G3 hr.symm (ag2'.tr ag3) hX P K
          · intro y ey
            have hq3 := hF _ q3 E3 hrg.2.2.1 e2
            rw [sB_r e2] at hr
            have ean : zI (bE R day bo : Int) &&& zI (bE R day E3 : Int) = zI (bE R day (fun W => bo W && E3 W)) := by
              rw [zI_and]
              unfold bE
              rw [bset_and]
            rw [ean] at ey
            subst ey
            rw [show zI (t : Int) + (1 : Int32) = zI ((t + 1 : Nat) : Int) from zI_add _ 1]
            exact ih (t + 1) q3 ms (fun W => bo W && E3 W) G3 (by omega) (by omega) (ag2'.tr ag3) h3 hr P K
        · refine br_bf (by simpa using a) (wI_isWord hq.1 (by decide) ?_)
          rw [if_neg a] at hr
          by_cases c : wdB b n q 18 = true
          · refine br_bt c ?_
            rw [if_pos c] at hr
            have hk1 := hrg.2.2.2.1 (by rw [wd_kind c]; decide)
            refine hq.adv (fun G2 ag2 h2' => ?_)
            have ag2' := ag.tr ag2
            intro y ey
            rw [eor] at ey
            subst ey
            refine hQ _ G2 _ (hD.fr ag2') h2' (fun c s e2 r G3 ag3 hX => ?_) (fun q3 E3 e2 G3 ag3 h3 => ?_)
            · rw [sB_l e2] at hr
              exact bad c s _ _ _ G3 hr.symm (ag2'.tr ag3) hX P K
            · have hq3 := hF _ q3 E3 hrg.2.2.1 e2
              rw [sB_r e2] at hr
              rw [show zI (t : Int) + (1 : Int32) = zI ((t + 1 : Nat) : Int) from zI_add _ 1]
              exact ih (t + 1) q3 _ E3 G3 (by omega) (by omega) (ag2'.tr ag3) h3 hr P K
          · refine br_bf (by simpa using c) ?_
            rw [if_neg c] at hr
            rw [← hr] at ht
            rw [eor]
            exact ht _ _ rfl G' ag hq
    have e0 : (0 : Int32) = zI (bE R day (fun _ => false) : Int) := by
      have : bE R day (fun _ => false) = 0 := bset_f (R 1)
      rw [this]
      rfl
    have := main 201 0 q (fun _ => false) E G1 (by omega) (by omega) ag1 h1 hT0
    rw [← e0] at this
    exact this
set_option maxHeartbeats 2000000 in
theorem wI_readFact (hn : n ≤ 200) (hV : VR 12 R) : ∀ k e : Nat, k ≤ 6 → 2 * k + 1 ≤ e → CF1 b n R day (psF b n k) k (sQ e).1 := by
  have hm12 := hV.mk
  intro k
  induction k with
  | zero =>
    intro e _ he
    obtain ⟨e, rfl⟩ : ∃ e', e = e' + 1 := ⟨e - 1, by omega⟩
    intro p G post hD h hf ht
    show wr_X2_readFact post (sQ e).1 (sQ e).2 (zI (6 - ((0 : Nat) : Int))) G
    unfold wr_X2_readFact
    unfold psF at hf ht
    have j31 : ∀ v2, (wdB b n p 19 = true ∨ sgB b n p 40 = true) → j_X2_readFact_31 post (sQ e).1 (sQ e).2 (zI (6 - ((0 : Nat) : Int))) v2 G := by
      intro v2 z
      rw [if_pos z] at hf
      unfold j_X2_readFact_31
      refine br_f (by rw [zl6, zI_lt (by omega)]; omega) ?_
      exact wI_failQ 3 rfl (by omega) h (fun G' ag hX => hf _ _ rfl _ G' ag hX)
    refine wI_isWord h.1 (by decide) ?_
    by_cases a : wdB b n p 19 = true
    · exact br_bt a (j31 _ (Or.inl a))
    · refine br_bf (by simpa using a) (wI_isSign 40 h.1 rfl (by omega) ?_)
      by_cases c : sgB b n p 40 = true
      · exact br_bt c (j31 _ (Or.inr c))
      · refine br_bf (by simpa using c) ?_
        rw [if_neg (fun z => z.elim a c)] at hf ht
        exact wI_readComparison hV hD h hf ht
  | succ k ih =>
    intro e hk6 he
    obtain ⟨e, rfl⟩ : ∃ e', e = e' + 1 := ⟨e - 1, by omega⟩
    obtain ⟨e2, rfl⟩ : ∃ e', e = e' + 1 := ⟨e - 1, by omega⟩
    have ihF := ih (e2 + 1) (by omega) (by omega)
    have ihT := wI_readTest (k := k) (by omega) hn hV (psF_ok k) (ih e2 (by omega) (by omega))
    intro p G post hD h hf ht
    show wr_X2_readFact post (sQ (e2 + 1)).1 (sQ (e2 + 1)).2 (zI (6 - ((k + 1 : Nat) : Int))) G
    have ek : zI (6 - ((k + 1 : Nat) : Int)) + (1 : Int32) = zI (6 - (k : Int)) := by
      rw [zl1, zI_add]
      exact zI_cg (by omega)
    unfold wr_X2_readFact
    unfold psF at hf ht
    refine wI_isWord h.1 (by decide) ?_
    by_cases a : wdB b n p 19 = true
    · refine br_bt a ?_
      rw [if_pos a] at hf ht
      unfold j_X2_readFact_31
      refine br_t (by rw [zl6, zI_lt (by omega)]; omega) (h.adv (fun G1 ag1 h1 => ?_))
      refine br_f (by rw [a]; decide) ?_
      have hD1 := hD.fr ag1
      rw [wI_allMarks hD1.1 (hV.up (by omega)), ek]
      refine ihF _ G1 _ hD1 h1 (fun c s e1 r G2 ag2 hX => ?_) (fun q E e1 G2 ag2 h2 => ?_)
      · exact hf c s (sB_l e1) _ G2 (ag1.tr ag2) hX
      · have hb := bE_lt (day := day) hV E
        rw [zI_difX (by omega)]
        have e3 : bdf (2 ^ R 1 - 1) (bE R day E) = bE R day (fun W => !E W) := by
          unfold bE
          rw [bset_not _ (by omega)]
        rw [e3]
        exact ht q _ (sB_r e1) G2 (ag1.tr ag2) h2
    · refine br_bf (by simpa using a) (wI_isSign 40 h.1 rfl (by omega) ?_)
      have a0 : wdB b n p 19 = false := by simpa using a
      rw [if_neg a] at hf ht
      by_cases c : sgB b n p 40 = true
      · refine br_bt c ?_
        rw [if_pos c] at hf ht
        unfold j_X2_readFact_31
        refine br_t (by rw [zl6, zI_lt (by omega)]; omega) (h.adv (fun G1 ag1 h1 => ?_))
        refine br_t (by rw [a0]; rfl) ?_
        have hD1 := hD.fr ag1
        rw [ek]
        refine ihT _ G1 _ hD1 h1 (fun c s e1 r G2 ag2 hX => ?_) (fun q E e1 G2 ag2 h2 => ?_)
        · refine br_f hX.ne ?_
          unfold j_X2_readFact_105
          exact br_f hX.ne (hf c s (sB_l e1) _ G2 (ag1.tr ag2) hX)
        · refine br_t h2.2.1 (wI_isSign 41 h2.1 rfl (by omega) ?_)
          rw [sB_r e1] at hf ht
          unfold smi at hf ht
          by_cases d : sgB b n q 41 = true
          · have d' : sgB b n (q, E).1 41 = true := d
            refine br_bt d ?_
            rw [if_pos d'] at ht
            unfold j_X2_readFact_105
            exact br_t h2.2.1 (h2.adv (fun G3 ag3 h3 => ht _ _ rfl G3 ((ag1.tr ag2).tr ag3) h3))
          · have d' : ¬ sgB b n (q, E).1 41 = true := d
            refine br_bf (by simpa using d) ?_
            rw [if_neg d'] at hf
            exact wI_failQ 1 rfl (by omega) h2 (fun G3 ag3 hX => hf _ _ rfl _ G3 ((ag1.tr ag2).tr ag3) hX)
      · refine br_bf (by simpa using c) ?_
        rw [if_neg c] at hf ht
        exact wI_readComparison hV hD h hf ht
end
