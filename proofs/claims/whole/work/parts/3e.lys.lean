/-! ===== hearing, in the reference ===== -/
section
variable {R : RR} {G : GH} {n m : Nat} {post : Int32 → GH → Prop}
theorem wM_letterAt {x y : Int32} (hV : VR n R) (hn : n ≤ 13) (hM : MR R (G 24 1)) (hm : m < R 1) (k : Nat) (hx : x = zI m) (hy : y = zI k) (hk : k ≤ 20) (hp : post (zI (ltr R m k)) G) : wp_X8_letterAt post x y G := by
  subst hx hy
  have hm13 : m < 13 := Nat.lt_of_lt_of_le hm (Nat.le_trans hV.mk hn)
  have hl := hV.ln hm
  unfold wp_X8_letterAt
  refine wM_of1 hM m 0 rfl rfl hm13 (by omega) ?_
  unfold ltr at hp
  refine br_c (fun q => ?_) (fun q => ?_)
  · rw [zI_le (by omega)] at q
    rw [if_neg (by omega)] at hp
    exact hp
  · rw [zI_le (by omega)] at q
    rw [if_pos (by omega)] at hp
    exact wM_of1 hM m (1 + k) rfl (by rw [zl1, zI_add]; rfl) hm13 (by omega) hp
theorem ltr_le {k : Nat} (hV : VR n R) (hm : m < R 1) : ltr R m k ≤ 122 := by
  by_cases q : k < qq R m 0
  · exact (ltr_lt hV hm q).2.2
  · rw [ltr_0 (by omega)]
    omega
theorem wM_isPair {postb : Bool → GH → Prop} {k : Nat} {u v : Int32} (a b : Nat) (hV : VR n R) (hn : n ≤ 13) (hM : MR R (G 24 1)) (hm : m < R 1) (hk : k ≤ 15) (hu : u = zI a) (hv : v = zI b) (ha : a ≤ 1000) (hb : b ≤ 1000) (hp : postb (decide (ltr R m k = a ∧ ltr R m (k + 1) = b)) G) : wp_X8_isPair postb (zI m) (zI k) u v G := by
  subst hu hv
  have h1 := ltr_le (k := k) hV hm
  have h2 := ltr_le (k := k + 1) hV hm
  unfold wp_X8_isPair
  refine wM_letterAt hV hn hM hm k rfl rfl (by omega) ?_
  refine br_c (fun q => ?_) (fun q => ?_)
  · rw [zI_eq (by omega)] at q
    refine wM_letterAt hV hn hM hm (k + 1) rfl (by rw [zl1, zI_add]; rfl) (by omega) ?_
    refine br_c (fun q1 => ?_) (fun q1 => ?_)
    · rw [zI_eq (by omega)] at q1
      rw [decide_eq_true (by omega)] at hp
      exact hp
    · rw [zI_eq (by omega)] at q1
      rw [decide_eq_false (by omega)] at hp
      exact hp
  · rw [zI_eq (by omega)] at q
    rw [decide_eq_false (by omega)] at hp
    exact hp
/-- the reference's words for it: -1 none, -2 nothing heard -/
def prM (x : Int) : Int := if x = -2 then -1 else if x = -1 then -2 else x
theorem wM_pairAt {k : Nat} (hV : VR n R) (hn : n ≤ 13) (hM : MR R (G 24 1)) (hm : m < R 1) (hk : k ≤ 15) (hp : post (zI (prM (prS (ltr R m k) (ltr R m (k + 1))))) G) : wp_X8_pairAt post (zI m) (zI k) G := by
  generalize ha : ltr R m k = a at hp
  generalize hb : ltr R m (k + 1) = b at hp
  unfold wp_X8_pairAt
  refine wM_isPair 112 104 hV hn hM hm hk rfl rfl (by omega) (by omega) ?_
  rw [ha, hb]
  by_cases q1 : a = 112 ∧ b = 104
  · refine br_bt (decide_eq_true q1) ?_
    obtain ⟨rfl, rfl⟩ := q1
    exact hp
  refine br_bf (decide_eq_false q1) ?_
  refine wM_isPair 116 104 hV hn hM hm hk rfl rfl (by omega) (by omega) ?_
  rw [ha, hb]
  by_cases q2 : a = 116 ∧ b = 104
  · refine br_bt (decide_eq_true q2) ?_
    obtain ⟨rfl, rfl⟩ := q2
    exact hp
  refine br_bf (decide_eq_false q2) ?_
  refine wM_isPair 99 104 hV hn hM hm hk rfl rfl (by omega) (by omega) ?_
  rw [ha, hb]
  by_cases q3 : a = 99 ∧ b = 104
  · refine br_bt (decide_eq_true q3) ?_
    obtain ⟨rfl, rfl⟩ := q3
    exact hp
  refine br_bf (decide_eq_false q3) ?_
  refine wM_isPair 99 107 hV hn hM hm hk rfl rfl (by omega) (by omega) ?_
  rw [ha, hb]
  by_cases q4 : a = 99 ∧ b = 107
  · refine br_bt (decide_eq_true q4) ?_
    obtain ⟨rfl, rfl⟩ := q4
    exact hp
  refine br_bf (decide_eq_false q4) ?_
  refine wM_isPair 115 104 hV hn hM hm hk rfl rfl (by omega) (by omega) ?_
  rw [ha, hb]
  by_cases q5 : a = 115 ∧ b = 104
  · refine br_bt (decide_eq_true q5) ?_
    obtain ⟨rfl, rfl⟩ := q5
    exact hp
  refine br_bf (decide_eq_false q5) ?_
  refine wM_isPair 103 104 hV hn hM hm hk rfl rfl (by omega) (by omega) ?_
  rw [ha, hb]
  by_cases q6 : a = 103 ∧ b = 104
  · refine br_bt (decide_eq_true q6) ?_
    obtain ⟨rfl, rfl⟩ := q6
    exact hp
  refine br_bf (decide_eq_false q6) ?_
  have e : prS a b = -2 := by
    unfold prS
    by_cases z : b = 104
    · rw [if_pos z, if_neg (by omega), if_neg (by omega), if_neg (by omega), if_neg (by omega), if_neg (by omega)]
    · rw [if_neg z, if_neg q4]
  rw [e] at hp
  exact hp
set_option maxHeartbeats 1000000 in
theorem wM_singleAt {k : Nat} (hV : VR n R) (hn : n ≤ 13) (hM : MR R (G 24 1)) (hm : m < R 1) (hk : k < qq R m 0) (hx : ltr R m k ≠ 120) (hp : post (zI (sgS (ltr R m k) (ltr R m (k + 1)) (k == 0))) G) : wp_X8_singleAt post (zI m) (zI k) G := by
  have hl := hV.ln hm
  obtain ⟨e0, l1, l2⟩ := ltr_lt hV hm hk
  have h2 := ltr_le (k := k + 1) hV hm
  unfold wp_X8_singleAt j_X8_singleAt_146
  refine wM_letterAt hV hn hM hm (k + 1) rfl (by rw [zl1, zI_add]; rfl) (by omega) ?_
  refine wM_letterAt hV hn hM hm k rfl rfl (by omega) ?_
  generalize ltr R m k = a at *
  generalize ltr R m (k + 1) = b at *
  have V : ∀ c : Nat, c ≤ 200 → ∀ x : Int, sgS c b (k == 0) = x → zI (a : Int) = zI (c : Int) → post (zI x) G := by
    intro c hc x h1 h3
    rw [zI_eq (by omega)] at h3
    have : a = c := by omega
    subst this
    rw [h1] at hp
    exact hp
  have Vw : ∀ c : Nat, c ≤ 200 → sgS c b true = 0 → sgS c b false = -1 → zI (a : Int) = zI (c : Int) → (zI (k : Int) = 0 → post (0 : Int32) G) ∧ (¬ zI (k : Int) = 0 → post (-1 : Int32) G) := by
    intro c hc h1 h1b h3
    rw [zI_eq (by omega)] at h3
    have : a = c := by omega
    subst this
    refine br_c (fun q => ?_) (fun q => ?_)
    · rw [zl0, zI_eq (by omega)] at q
      have : k = 0 := by omega
      subst this
      rw [show ((0 : Nat) == 0) = true from rfl, h1] at hp
      exact hp
    · rw [zl0, zI_eq (by omega)] at q
      have : (k == 0) = false := by simp; omega
      rw [this, h1b] at hp
      exact hp
  have S : ∀ c : Nat, c ≠ 99 → sgS c b (k == 0) = if tbS (c - 97) = 0 ∧ (k == 0) = false then -1 else tbS (c - 97) := by
    intro c hc
    unfold sgS
    rw [if_neg (fun z => hc z.1)]
  have W : ∀ c : Nat, c ≠ 99 → tbS (c - 97) = 0 → sgS c b true = 0 ∧ sgS c b false = -1 := by
    intro c hc ht
    constructor
    · unfold sgS
      rw [if_neg (fun z => hc z.1), ht]
      rfl
    · unfold sgS
      rw [if_neg (fun z => hc z.1), ht]
      rfl
  have T : ∀ c : Nat, c ≠ 99 → ∀ x : Int, tbS (c - 97) = x → x ≠ 0 → sgS c b (k == 0) = x := by
    intro c hc x ht h0
    rw [S c hc, ht, if_neg (fun z => h0 z.1)]
  refine ⟨fun q => ?_, V 98 (by omega) 6 (T 98 (by omega) 6 rfl (by omega)), fun q => ?_, V 100 (by omega) 9 (T 100 (by omega) 9 rfl (by omega)), fun q => Vw 101 (by omega) (W 101 (by omega) rfl).1 (W 101 (by omega) rfl).2 q, V 102 (by omega) 1 (T 102 (by omega) 1 rfl (by omega)), V 103 (by omega) 2 (T 103 (by omega) 2 rfl (by omega)), V 104 (by omega) (-1) (T 104 (by omega) (-1) rfl (by omega)), fun q => Vw 105 (by omega) (W 105 (by omega) rfl).1 (W 105 (by omega) rfl).2 q, V 106 (by omega) 2 (T 106 (by omega) 2 rfl (by omega)), V 107 (by omega) 2 (T 107 (by omega) 2 rfl (by omega)), V 108 (by omega) 3 (T 108 (by omega) 3 rfl (by omega)), V 109 (by omega) 4 (T 109 (by omega) 4 rfl (by omega)), V 110 (by omega) 5 (T 110 (by omega) 5 rfl (by omega)), fun q => Vw 111 (by omega) (W 111 (by omega) rfl).1 (W 111 (by omega) rfl).2 q, V 112 (by omega) 6 (T 112 (by omega) 6 rfl (by omega)), V 113 (by omega) 2 (T 113 (by omega) 2 rfl (by omega)), V 114 (by omega) 7 (T 114 (by omega) 7 rfl (by omega)), V 115 (by omega) 8 (T 115 (by omega) 8 rfl (by omega)), V 116 (by omega) 9 (T 116 (by omega) 9 rfl (by omega)), fun q => Vw 117 (by omega) (W 117 (by omega) rfl).1 (W 117 (by omega) rfl).2 q, V 118 (by omega) 1 (T 118 (by omega) 1 rfl (by omega)), V 119 (by omega) (-1) (T 119 (by omega) (-1) rfl (by omega)), fun q => ?_, fun q => Vw 121 (by omega) (W 121 (by omega) rfl).1 (W 121 (by omega) rfl).2 q, V 122 (by omega) 8 (T 122 (by omega) 8 rfl (by omega))⟩
  · rw [zI_toInt (by omega)] at q
    have : a = 97 := by omega
    subst this
    exact Vw 97 (by omega) (W 97 (by omega) rfl).1 (W 97 (by omega) rfl).2 rfl
  · have q : zI (a : Int) = zI ((99 : Nat) : Int) := q
    rw [zI_eq (by omega)] at q
    have : a = 99 := by omega
    subst this
    have d101 : (zI (b : Int) = (101 : Int32)) = (b = 101) := by rw [show (101 : Int32) = zI ((101 : Nat) : Int) from rfl, zI_eq (by omega)]; exact propext (by omega)
    have d105 : (zI (b : Int) = (105 : Int32)) = (b = 105) := by rw [show (105 : Int32) = zI ((105 : Nat) : Int) from rfl, zI_eq (by omega)]; exact propext (by omega)
    have d121 : (zI (b : Int) = (121 : Int32)) = (b = 121) := by rw [show (121 : Int32) = zI ((121 : Nat) : Int) from rfl, zI_eq (by omega)]; exact propext (by omega)
    rw [d101, d105, d121]
    have s8 : (b = 101 ∨ b = 105 ∨ b = 121) → post (8 : Int32) G := by
      intro h
      unfold sgS at hp
      rw [if_pos ⟨rfl, h⟩] at hp
      exact hp
    refine br_c (fun q1 => s8 (Or.inl q1)) (fun q1 => ?_)
    refine br_c (fun q2 => s8 (Or.inr (Or.inl q2))) (fun q2 => ?_)
    refine br_c (fun q3 => s8 (Or.inr (Or.inr q3))) (fun q3 => ?_)
    unfold sgS at hp
    rw [if_neg (by omega), if_neg (fun z => absurd z.1 (by decide))] at hp
    exact hp
  · have q : zI (a : Int) = zI ((120 : Nat) : Int) := q
    rw [zI_eq (by omega)] at q
    exact absurd (show a = 120 by omega) hx
end
section
variable {R : RR} {G : GH} {n m : Nat} {post : GH → Prop}
set_option maxHeartbeats 2000000 in
theorem wM_laySounds (hV : VR n R) (hn : n ≤ 13) (hM : MR R (G 24 1)) (hm : m < R 1) (hp : ∀ G', Ag (WS 24 9 10 m) G G' → HS (G' 24) 9 10 m (snd R m) → post G') : wp_X8_laySounds post (zI m) G := by
  have hm13 : m < 13 := Nat.lt_of_lt_of_le hm (Nat.le_trans hV.mk hn)
  have hl := hV.ln hm
  have cm : (zI (m : Int)).toNatClampNeg = m := zI_clN (by omega)
  unfold wp_X8_laySounds
  refine ⟨zI_in (by omega), ?_⟩
  rintro _ rfl
  rw [cm]
  have hM2 : ∀ G', Ag (WS 24 9 10 m) G G' → MR R (G' 24 1) := fun G' a => by
    rw [a.ce 24 1 (fun j w => by rcases w.2 with h | h <;> omega)]
    exact hM
  intro P9 K9
  have main : ∀ f k : Nat, ∀ L : List Nat, ∀ G', qq R m 0 ≤ k + f → k ≤ qq R m 0 + 1 → Ag (WS 24 9 10 m) G G' → HS (G' 24) 9 10 m L → (∀ x, x ∈ L → x < 10) → L.length ≤ 2 * k → hrS R m f k L = snd R m → P9 (zI m) (zI k) G' := by
    intro f
    induction f with
    | zero =>
      intro k L G' hk _ ag hs _ _ he
      refine K9 _ _ _ ?_
      unfold lb_X8_laySounds_9
      refine wM_of1 (hM2 G' ag) m 0 rfl rfl hm13 (by omega) ?_
      refine br_t (by rw [zI_le (by omega)]; omega) ?_
      exact hp G' ag (by rw [← he]; exact hs)
    | succ f ih =>
      intro k L G' hk hk1 ag hs hx hL he
      refine K9 _ _ _ ?_
      unfold lb_X8_laySounds_9
      refine wM_of1 (hM2 G' ag) m 0 rfl rfl hm13 (by omega) ?_
      by_cases q : qq R m 0 ≤ k
      · refine br_t (by rw [zI_le (by omega)]; omega) ?_
        rw [hrS_end q] at he
        exact hp G' ag (by rw [← he]; exact hs)
      refine br_f (by rw [zI_le (by omega)]; omega) ?_
      obtain ⟨e0, l1, l2⟩ := ltr_lt hV hm (show k < qq R m 0 by omega)
      unfold hrS at he
      rw [if_neg q] at he
      have hr := prS_rg (ltr R m k) (ltr R m (k + 1))
      refine wM_pairAt hV hn (hM2 G' ag) hm (by omega) ?_
      by_cases z : prS (ltr R m k) (ltr R m (k + 1)) = -2
      · rw [if_neg (by omega)] at he
        rw [z, show prM (-2) = -1 from rfl]
        refine br_t rfl ?_
        refine wM_letterAt hV hn (hM2 G' ag) hm k rfl rfl (by omega) ?_
        refine br_c (fun w => ?_) (fun w => ?_)
        · rw [zl120, zI_eq (by omega)] at w
          rw [if_pos (by omega)] at he
          refine wM_hears (s := 2) hm13 (by omega) (by omega) hs hx (fun G3 ag3 hs3 => ?_)
          have h2 := adS_len 2 L
          refine wM_hears (s := 8) hm13 (by omega) (by omega) hs3 (adS_lt (by omega) hx) (fun G4 ag4 hs4 => ?_)
          have h3 := adS_len 8 (adS 2 L)
          rw [zl1, zI_add]
          exact ih (k + 1) _ G4 (by omega) (by omega) ((ag.tr ag3).tr ag4) hs4 (adS_lt (by omega) (adS_lt (by omega) hx)) (by omega) he
        · rw [zl120, zI_eq (by omega)] at w
          rw [if_neg (by omega)] at he
          have hsr := sgS_rg (ltr R m k) (ltr R m (k + 1)) (k == 0)
          refine wM_singleAt hV hn (hM2 G' ag) hm (by omega) (by omega) ?_
          refine br_c (fun u => ?_) (fun u => ?_)
          · rw [zl1, zI_neg, zI_eq (by omega)] at u
            rw [zl1, zI_add]
            have e : adS (sgS (ltr R m k) (ltr R m (k + 1)) (k == 0)) L = L := by
              unfold adS
              rw [if_pos (by omega)]
            rw [e] at he
            exact ih (k + 1) L G' (by omega) (by omega) ag hs hx (by omega) he
          · rw [zl1, zI_neg, zI_eq (by omega)] at u
            refine wM_singleAt hV hn (hM2 G' ag) hm (by omega) (by omega) ?_
            refine wM_hears hm13 (by omega) (by omega) hs hx (fun G3 ag3 hs3 => ?_)
            have h2 := adS_len (sgS (ltr R m k) (ltr R m (k + 1)) (k == 0)) L
            rw [zl1, zI_add]
            exact ih (k + 1) _ G3 (by omega) (by omega) (ag.tr ag3) hs3 (adS_lt hsr.2 hx) (by omega) he
      · rw [if_pos (by omega)] at he
        by_cases w : prS (ltr R m k) (ltr R m (k + 1)) = -1
        · rw [w] at he
          rw [w, show prM (-1) = -2 from rfl]
          refine br_f (by rw [zl1, zI_neg, zI_eq (by omega)]; omega) ?_
          refine br_t (by rw [zl0, zI_lt (by omega)]; omega) ?_
          rw [zl2, zI_add]
          have e : adS (-1) L = L := by
            unfold adS
            rw [if_pos (by omega)]
          rw [e] at he
          exact ih (k + 2) L G' (by omega) (by omega) ag hs hx (by omega) he
        · have e : prM (prS (ltr R m k) (ltr R m (k + 1))) = prS (ltr R m k) (ltr R m (k + 1)) := by
            unfold prM
            rw [if_neg z, if_neg w]
          rw [e]
          refine br_f (by rw [zl1, zI_neg, zI_eq (by omega)]; omega) ?_
          refine br_f (by rw [zl0, zI_lt (by omega)]; omega) ?_
          refine wM_hears hm13 (by omega) (by omega) hs hx (fun G3 ag3 hs3 => ?_)
          have h2 := adS_len (prS (ltr R m k) (ltr R m (k + 1))) L
          rw [zl2, zI_add]
          exact ih (k + 2) _ G3 (by omega) (by omega) (ag.tr ag3) hs3 (adS_lt hr.2 hx) (by omega) he
  refine main 10 0 [] _ (by omega) (by omega) ((Ag.rf G).up ⟨rfl, Or.inr ⟨rfl, rfl⟩⟩) ⟨?_, fun j hj => by simp at hj⟩ (fun x hx => by cases hx) (by simp) rfl
  rw [gs_eq]
  unfold upd
  rw [if_pos rfl]
  rfl
end
