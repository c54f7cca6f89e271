/-! ===== comparisons, facts, tests, in the reference ===== -/
def MF1 (b : Nat → Nat) (n : Nat) (R : RR) (day : Nat) (as_ : Int) (W : Nat → Int) (F : Nat → QR) (k : Nat) (q : (Bool → GH → Prop) → GH → Prop) : Prop :=
  ∀ (p : Nat) (G : GH) (post : Bool → GH → Prop), MD R day as_ G → MG b n p G → G 24 0 41 = zI (6 - (k : Int)) → (∀ c s, F p = .inl (c, s) → ∀ r G', Ag WV G G' → MD R day as_ G' → MX c s G' → post r G') → (∀ q E, F p = .inr (q, E) → ∀ G', Ag WV G G' → MD R day as_ G' → MG b n q G' → G' 24 0 41 = zI (6 - (k : Int)) → post (E W) G') → q post G
section
variable {b : Nat → Nat} {n day : Nat} {R : RR} {as_ : Int} {W : Nat → Int}
theorem AgVM {G G' G'' : GH} (h1 : Ag WV G G') (h2 : Ag WM G' G'') : Ag WV G G'' := h1.wk h2 (fun _ _ _ z => WTk_V (WM_k z))
theorem AgVO {G G' : GH} {v : Int32} (h1 : Ag WV G G') : Ag WV G (gs G' 24 0 (upd (G' 24 0) 41 v)) := h1.wk agOp (fun _ _ _ => WTk_V)
theorem o41M {G G' : GH} (ag : Ag WM G G') : G' 24 0 41 = G 24 0 41 := ag 24 0 41 (fun w => by unfold WM at w; omega)
theorem aW_rg (hV : VR 12 R) (hW : aW R day as_ W) {v : Int} (hv : -9 ≤ v ∧ v ≤ 9999) : -9 ≤ vv v W ∧ vv v W ≤ 9999 := by
  unfold vv
  split
  · rcases hW with ⟨-, rfl⟩ | ⟨m, hm, -, rfl⟩
    · dsimp only
      omega
    · have := vW_rg (day := day) (i := (-v - 1).toNat) hV (by omega) hm
      dsimp only
      omega
  · omega
theorem wM_j161X {G : GH} {post : Bool → GH → Prop} {qF qB qT : (Bool → GH → Prop) → GH → Prop} {v1 v2 : Int32} (hX : ¬ G 24 0 38 = 0) (hp : ∀ r, post r G) : j_X8_readFact_161 post qF qB qT v1 v2 G := by
  unfold j_X8_readFact_161
  refine wM_passX hX (wM_readValueX hX ?_)
  exact br_c (fun _ => br_c (fun _ => br_c (fun _ => hp _) (fun _ => hp _)) (fun _ => br_c (fun _ => hp _) (fun _ => hp _))) (fun _ => br_c (fun _ => hp _) (fun _ => hp _))
set_option maxHeartbeats 1000000 in
theorem wM_compare {p : Nat} {G : GH} {post : Bool → GH → Prop} {qF qB qT : (Bool → GH → Prop) → GH → Prop} (hV : VR 12 R) (hd : day ≤ 9999) (hW : aW R day as_ W) (hD : MD R day as_ G) (h : MG b n p G) (hf : ∀ c s, cmR b n p = .inl (c, s) → ∀ r G', Ag WV G G' → MD R day as_ G' → MX c s G' → post r G') (ht : ∀ q E, cmR b n p = .inr (q, E) → ∀ G', Ag WV G G' → MD R day as_ G' → MG b n q G' → G' 24 0 41 = G 24 0 41 → post (E W) G') :
    wp_X8_readValue (fun (r_8 : Int32) (G_7 : GH) => wp_X8_isSign (fun (b_10 : Bool) (G_9 : GH) => ((b_10 = false → wp_X8_isSign (fun (b_13 : Bool) (G_12 : GH) => ((b_13 = false → wp_X8_isSign (fun (b_16 : Bool) (G_15 : GH) => ((b_16 = false → j_X8_readFact_150 post qF qB qT r_8 (2 : Int32) G_15) ∧ (b_16 = true → j_X8_readFact_150 post qF qB qT r_8 (1 : Int32) G_15))) (62 : Int32) G_12) ∧ (b_13 = true → j_X8_readFact_150 post qF qB qT r_8 (0 : Int32) G_12))) (61 : Int32) G_9) ∧ (b_10 = true → j_X8_readFact_150 post qF qB qT r_8 (-1 : Int32) G_9))) (60 : Int32) G_7) G := by
  unfold cmR at hf ht
  refine wM_readValue hV hd hW hD h (fun c s e r G1 ag1 hD1 hX => ?_) (fun l q e G1 ag1 ho1 hD1 h1 => ?_)
  · refine wM_isSignX hX.ne (br_bf rfl (wM_isSignX hX.ne (br_bf rfl (wM_isSignX hX.ne (br_bf rfl ?_)))))
    unfold j_X8_readFact_150
    exact br_t rfl (wM_wrongX hX.ne (wM_j161X hX.ne (fun r => hf c s (sB_l e) r G1 ag1 hD1 hX)))
  · have hl := vlR_ok e
    have hlr := aW_rg hV hW ⟨hl.2.1, hl.2.2.1⟩
    rw [sB_r e] at hf ht
    unfold cmR1 at hf ht
    have j150 : ∀ (k : Nat) (s0 : Int32), sgK b n q = some k → (k = 0 ∧ s0 = -1 ∨ k = 1 ∧ s0 = 0 ∨ k = 2 ∧ s0 = 1) → j_X8_readFact_150 post qF qB qT (zI (vv l W)) s0 G1 := by
      intro k s0 hsg hk
      have hsg : sgK b n (l, q).2 = some k := hsg
      rw [hsg] at hf ht
      have hf : ∀ c s, cmR2 b n k (l, q) = .inl (c, s) → ∀ r G', Ag WV G G' → MD R day as_ G' → MX c s G' → post r G' := hf
      have ht : ∀ q' E, cmR2 b n k (l, q) = .inr (q', E) → ∀ G', Ag WV G G' → MD R day as_ G' → MG b n q' G' → G' 24 0 41 = G 24 0 41 → post (E W) G' := ht
      unfold cmR2 at hf ht
      unfold j_X8_readFact_150
      refine br_f (by rcases hk with ⟨-, rfl⟩ | ⟨-, rfl⟩ | ⟨-, rfl⟩ <;> decide) ?_
      unfold j_X8_readFact_161
      refine wM_pass h1 (fun G2 ag2 h2 => ?_)
      have hD2 := hD1.tm ag2
      have ag2' := AgVM ag1 ag2
      refine wM_readValue hV hd hW hD2 h2 (fun c s e2 r G3 ag3 hD3 hX => ?_) (fun r q2 e2 G3 ag3 ho3 hD3 h3 => ?_)
      · have fin : ∀ v, post v G3 := fun v => hf c s (sB_l e2) v G3 (ag2'.tr ag3) hD3 hX
        exact br_c (fun _ => br_c (fun _ => br_c (fun _ => fin _) (fun _ => fin _)) (fun _ => br_c (fun _ => fin _) (fun _ => fin _))) (fun _ => br_c (fun _ => fin _) (fun _ => fin _))
      · have hr := vlR_ok e2
        have hrr := aW_rg hV hW ⟨hr.2.1, hr.2.2.1⟩
        have fin := ht q2 _ (sB_r e2) G3 (ag2'.tr ag3) hD3 h3 (by rw [ho3, o41M ag2, ho1])
        unfold cmpE at fin
        rw [zI_eq (by omega), zI_le (by omega), zI_le (by omega)]
        rcases hk with ⟨rfl, rfl⟩ | ⟨rfl, rfl⟩ | ⟨rfl, rfl⟩
        · refine br_f (by decide) ?_
          rw [if_pos rfl] at fin
          refine br_c (fun z => ?_) (fun z => ?_)
          · rw [decide_eq_false (by show ¬ vv l W < vv r W; omega)] at fin
            exact fin
          · rw [decide_eq_true (by show vv l W < vv r W; omega)] at fin
            exact fin
        · refine br_t (by decide) (br_t rfl ?_)
          rw [if_neg (by decide), if_pos rfl] at fin
          refine br_c (fun z => ?_) (fun z => ?_)
          · rw [decide_eq_true (by show vv l W = vv r W; exact z)] at fin
            exact fin
          · rw [decide_eq_false (by show ¬ vv l W = vv r W; exact z)] at fin
            exact fin
        · refine br_t (by decide) (br_f (by decide) ?_)
          rw [if_neg (by decide), if_neg (by decide)] at fin
          refine br_c (fun z => ?_) (fun z => ?_)
          · rw [decide_eq_false (by show ¬ vv r W < vv l W; omega)] at fin
            exact fin
          · rw [decide_eq_true (by show vv r W < vv l W; omega)] at fin
            exact fin
    refine wM_isSign 60 h1 rfl (by omega) ?_
    by_cases a : sgB b n q 60 = true
    · refine br_bt a (j150 0 _ ?_ (Or.inl ⟨rfl, rfl⟩))
      unfold sgK
      rw [if_pos a]
    · refine br_bf (by simpa using a) (wM_isSign 61 h1 rfl (by omega) ?_)
      by_cases c : sgB b n q 61 = true
      · refine br_bt c (j150 1 _ ?_ (Or.inr (Or.inl ⟨rfl, rfl⟩)))
        unfold sgK
        rw [if_neg a, if_pos c]
      · refine br_bf (by simpa using c) (wM_isSign 62 h1 rfl (by omega) ?_)
        by_cases d : sgB b n q 62 = true
        · refine br_bt d (j150 2 _ ?_ (Or.inr (Or.inr ⟨rfl, rfl⟩)))
          unfold sgK
          rw [if_neg a, if_neg c, if_pos d]
        · refine br_bf (by simpa using d) ?_
          have hk : sgK b n (l, q).2 = none := by
            show sgK b n q = none
            unfold sgK
            rw [if_neg a, if_neg c, if_neg d]
          rw [hk] at hf
          unfold j_X8_readFact_150
          refine br_t rfl (wM_wrong 1 rfl (by omega) h1 (fun G2 ag2 hX => ?_))
          exact wM_j161X hX.ne (fun r => hf _ _ rfl r G2 (AgVM ag1 ag2) (hD1.tm ag2) hX)
/-! the loops over 'and' and 'or' -/
theorem sM_f (d : Nat) (ps : Bool → GH → Prop) (G : GH) : (sM (d + 1)).1 ps G = wr_X8_readFact ps (sM d).1 (sM d).2.1 (sM d).2.2 G := rfl
theorem sM_b (d : Nat) (ps : Bool → GH → Prop) (G : GH) : (sM (d + 1)).2.1 ps G = wr_X8_readBoth ps (sM d).1 (sM d).2.1 (sM d).2.2 G := rfl
theorem sM_t (d : Nat) (ps : Bool → GH → Prop) (G : GH) : (sM (d + 1)).2.2 ps G = wr_X8_readTest ps (sM d).1 (sM d).2.1 (sM d).2.2 G := rfl
theorem wM_tL_X {G : GH} {post : Bool → GH → Prop} {qF qB qT : (Bool → GH → Prop) → GH → Prop} {c : Bool} (hX : ¬ G 24 0 38 = 0) (hp : ∀ r, post r G) : lp_X8_readTest_5 post qF qB qT (bI c) G := by
  intro P K
  refine K _ _ ?_
  unfold lb_X8_readTest_5
  exact wM_isWordX hX (br_bf rfl ⟨c, rfl, hp c⟩)
theorem wM_bL_X {G : GH} {post : Bool → GH → Prop} {qF qB qT : (Bool → GH → Prop) → GH → Prop} {c : Bool} (hX : ¬ G 24 0 38 = 0) (hp : ∀ r, post r G) : lp_X8_readBoth_5 post qF qB qT (bI c) G := by
  intro P K
  refine K _ _ ?_
  unfold lb_X8_readBoth_5
  exact wM_isWordX hX (br_bf rfl ⟨c, rfl, hp c⟩)
set_option maxHeartbeats 2000000 in
theorem wM_readTest {k e : Nat} {F : Nat → QR} (hn : n ≤ 200) (hF : FO b n F) (hQ : ∀ e', e + 1 ≤ e' → MF1 b n R day as_ W F k (sM e').1) : MF1 b n R day as_ W (tsR b n F) k (sM (e + 3)).2.2 := by
  intro p G post hD h ho hf ht
  rw [sM_t (e + 2)]
  unfold wr_X8_readTest
  rw [sM_b (e + 1)]
  unfold wr_X8_readBoth
  unfold tsR at hf ht
  refine hQ (e + 1) (by omega) p G _ hD h ho (fun c s e1 r G1 ag1 hD1 hX => ?_) (fun q E e1 G1 ag1 hD1 h1 ho1 => ?_)
  · have fin : ∀ r, post r G1 := fun r => hf c s (sB_l e1) r G1 ag1 hD1 hX
    exact wM_bL_X hX.ne (fun r => wM_tL_X hX.ne fin)
  · rw [sB_r e1] at hf ht
    have hq1 := hF p q E h.1.2.1.2 e1
    generalize hT0 : lpT b n F 201 (fun _ => false) (q, E).2 (q, E).1 = T at hf ht
    have main : ∀ f q : Nat, ∀ (ms bo : QE) (G' : GH) (pb : Bool → GH → Prop) (d : Nat), d = e + 1 → n < q + f → Ag WV G G' → MD R day as_ G' → MG b n q G' → G' 24 0 41 = zI (6 - (k : Int)) → lpT b n F f ms bo q = T → (∀ c G2, lp_X8_readTest_5 post (sM (e + 2)).1 (sM (e + 2)).2.1 (sM (e + 2)).2.2 (bI (ms W || c)) G2 → pb c G2) → lp_X8_readBoth_5 pb (sM d).1 (sM d).2.1 (sM d).2.2 (bI (bo W)) G' := by
      intro f
      induction f with
      | zero =>
        intro q ms bo G' pb d hd0 h1 ag hD' hq ho' hr hc
        have := hq.1.2.1.2
        omega
      | succ f ih =>
        intro q ms bo G' pb d hd0 h1 ag hD' hq ho' hr hc
        have hqn := hq.1.2.1.2
        have hrg := tk_rg (b := b) hqn
        have hed : e + 1 ≤ d := by omega
        intro P K
        refine K _ _ ?_
        unfold lb_X8_readBoth_5
        refine wM_isWord hq (by decide) ?_
        rw [wdB_eq (w := 60) (w' := 17) rfl]
        unfold lpT at hr
        by_cases a : wdB b n q 17 = true
        · refine br_bt a ?_
          rw [if_pos a] at hr
          have hk1 := hrg.2.2.2.1 (by rw [wd_kind a]; decide)
          refine wM_pass hq (fun G2 ag2 h2 => ?_)
          have ag2' := AgVM ag ag2
          refine hQ d hed _ G2 _ (hD'.tm ag2) h2 (by rw [o41M ag2, ho']) (fun c s e2 r G3 ag3 hD3 hX => ?_) (fun q3 E3 e2 G3 ag3 hD3 h3 ho3 => ?_)
          · rw [sB_l e2] at hr
            have fin : ∀ c', P (bI c') G3 := by
              intro c'
              refine wM_bL_X hX.ne (fun r => hc r G3 (wM_tL_X hX.ne (fun r => ?_))) P K
              rw [← hr] at hf
              exact hf c s rfl r G3 (ag2'.tr ag3) hD3 hX
            exact br_c (fun _ => fin false) (fun _ => ⟨fun _ => fin false, fun _ => fin true⟩)
          · have hq3 := hF _ q3 E3 hrg.2.2.1 e2
            rw [sB_r e2] at hr
            have nx := ih q3 ms (fun W => bo W && E3 W) G3 pb d hd0 (by omega) (ag2'.tr ag3) hD3 h3 ho3 hr hc P K
            cases hb : bo W
            · rw [hb] at nx
              exact br_t rfl nx
            · rw [hb] at nx
              refine br_f (by decide) ?_
              cases hE : E3 W
              · rw [hE] at nx
                exact br_bf rfl nx
              · rw [hE] at nx
                exact br_bt rfl nx
        · refine br_bf (by simpa using a) ⟨bo W, rfl, ?_⟩
          rw [if_neg a] at hr
          refine hc _ G' ?_
          intro P2 K2
          refine K2 _ _ ?_
          unfold lb_X8_readTest_5
          refine wM_isWord hq (by decide) ?_
          rw [wdB_eq (w := 61) (w' := 18) rfl]
          by_cases c : wdB b n q 18 = true
          · refine br_bt c ?_
            rw [if_pos c] at hr
            have hk1 := hrg.2.2.2.1 (by rw [wd_kind c]; decide)
            refine wM_pass hq (fun G2 ag2 h2 => ?_)
            have ag2' := AgVM ag ag2
            rw [sM_b (e + 1)]
            unfold wr_X8_readBoth
            have pbk : ∀ (c' : Bool) (G3 : GH), lp_X8_readTest_5 post (sM (e + 2)).1 (sM (e + 2)).2.1 (sM (e + 2)).2.2 (bI ((ms W || bo W) || c')) G3 → (bI (ms W || bo W) = 0 → (c' = false → P2 (0 : Int32) G3) ∧ (c' = true → j_X8_readTest_32 post (sM (e + 2)).1 (sM (e + 2)).2.1 (sM (e + 2)).2.2 P2 G3)) ∧ (¬ bI (ms W || bo W) = 0 → j_X8_readTest_32 post (sM (e + 2)).1 (sM (e + 2)).2.1 (sM (e + 2)).2.2 P2 G3) := by
              intro c' G3 hl
              have hl := hl P2 K2
              unfold j_X8_readTest_32
              cases hmb : (ms W || bo W)
              · rw [hmb] at hl
                refine br_t rfl ?_
                cases c'
                · exact br_bf rfl hl
                · exact br_bt rfl hl
              · rw [hmb] at hl
                exact br_f (by decide) hl
            refine hQ (e + 1) (by omega) _ G2 _ (hD'.tm ag2) h2 (by rw [o41M ag2, ho']) (fun c s e2 r G3 ag3 hD3 hX => ?_) (fun q3 E3 e2 G3 ag3 hD3 h3 ho3 => ?_)
            · rw [sB_l e2] at hr
              rw [← hr] at hf
              exact wM_bL_X hX.ne (fun r => pbk r G3 (wM_tL_X hX.ne (fun r => hf c s rfl r G3 (ag2'.tr ag3) hD3 hX)))
            · have hq3 := hF _ q3 E3 hrg.2.2.1 e2
              rw [sB_r e2] at hr
              exact ih q3 (fun W => ms W || bo W) E3 G3 _ (e + 1) rfl (by omega) (ag2'.tr ag3) hD3 h3 ho3 hr pbk
          · refine br_bf (by simpa using c) ⟨ms W || bo W, rfl, ?_⟩
            rw [if_neg c] at hr
            rw [← hr] at ht
            exact ht _ _ rfl G' ag hD' hq ho'
    exact main 201 q (fun _ => false) E G1 _ (e + 1) rfl (by omega) ag1 hD1 h1 ho1 hT0 (fun c G2 hl => hl)
end
