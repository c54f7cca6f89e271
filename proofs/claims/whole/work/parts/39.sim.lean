/-! ===== the reference's rows; since and priority there ===== -/
section
variable {R : RR} {G : GH} {n o m h day : Nat} {post : Int32 → GH → Prop}
theorem wM_of1 {x y : Int32} (hM : MR R (G 24 1)) (m w : Nat) (hx : x = zI m) (hy : y = zI w) (hm : m < 13) (hw : w < 51) (hp : post (zI (qq R m w)) G) : wp_X8_of1 post x y G := by
  subst hx hy
  unfold wp_X8_of1
  rw [zl18, zl51, zI_mul, zI_add, zI_add]
  refine ⟨zI_in (by omega), ?_⟩
  rw [zI_cl (by omega), show ((18 : Int) + 51 * (m : Int) + (w : Int)).toNat = 18 + 51 * m + w by omega, hM.q hm hw]
  exact hp
theorem wM_ruleOf {x : Int32} (hM : MR R (G 24 1)) (w : Nat) (hx : x = zI w) (hw : w < 6) (hp : post (zI (R (2 + w))) G) : wp_X8_ruleOf post x G := by
  subst hx
  unfold wp_X8_ruleOf
  rw [zl2, zI_add]
  refine ⟨zI_in (by omega), ?_⟩
  rw [zI_cl (by omega), show ((2 : Int) + (w : Int)).toNat = 2 + w by omega, hM.at (by omega)]
  exact hp
theorem wM_marks (hM : MR R (G 24 1)) : wp_X8_marks post G = post (zI (R 1)) G := by
  unfold wp_X8_marks
  rw [hM.at (by decide)]
theorem wM_halvesMany (hM : MR R (G 24 1)) : wp_X8_halvesMany post G = post (zI ((2 * R 0 : Nat) : Int)) G := by
  unfold wp_X8_halvesMany
  rw [hM.at (by decide), zl2, zI_mul]
  rfl
theorem br_bf {b : Bool} {A B : Prop} (h : b = false) (a : A) : (b = false → A) ∧ (b = true → B) := ⟨fun _ => a, fun q => by rw [h] at q; cases q⟩
theorem br_bt {b : Bool} {A B : Prop} (h : b = true) (a : B) : (b = false → A) ∧ (b = true → B) := ⟨fun q => (by rw [h] at q; cases q), fun _ => a⟩
theorem wM_isLive {postb : Bool → GH → Prop} {at_ : Int} {k : Nat} (hV : VR n R) (hn : n ≤ 13) (hM : MR R (G 24 1)) (hm : m < R 1) (hk : k < qq R m 13) (ha : -2 ≤ at_ ∧ at_ ≤ 9999) (hp : postb (decide ((qq R m (15 + 3 * k) : Int) ≤ at_ ∧ at_ ≤ (qq R m (16 + 3 * k) : Int) + R 6)) G) : wp_X8_isLive postb (zI m) (zI k) (zI at_) G := by
  have hm13 : m < 13 := Nat.lt_of_lt_of_le hm (Nat.le_trans hV.mk hn)
  have hu := hV.uc hm
  have hr := hV.r4
  have b1 := hV.us1 hm hk
  have b2 := hV.us2 hm hk
  unfold wp_X8_isLive
  rintro _ rfl
  refine wM_of1 hM m (15 + 3 * k) rfl (by rw [zl14, zl3, zl1, zI_mul, zI_add, zI_add]; exact zI_cg (by omega)) hm13 (by omega) ?_
  rw [zI_lt (by omega)]
  refine br_c (fun q => ?_) (fun q => ?_)
  · rw [decide_eq_false (by omega)] at hp
    exact hp
  · refine wM_of1 hM m (16 + 3 * k) rfl (by rw [zl14, zl3, zl2, zI_mul, zI_add, zI_add]; exact zI_cg (by omega)) hm13 (by omega) ?_
    refine wM_ruleOf hM 4 rfl (by decide) ?_
    show (_ → _) ∧ (_ → _)
    rw [show (R (2 + 4)) = R 6 from rfl, zI_add, zI_lt (by omega)]
    refine br_c (fun q2 => ?_) (fun q2 => ?_)
    · rw [decide_eq_false (by omega)] at hp
      exact hp
    · rw [decide_eq_true (by omega)] at hp
      exact hp
set_option maxHeartbeats 1000000 in
theorem wM_sinceOf (hV : VR n R) (hn : n ≤ 13) (hM : MR R (G 24 1)) (hm : m < R 1) (hh : h < 12) (hd : day ≤ 9999) (hp : post (zI (snc R m h day)) G) : wp_X8_sinceOf post (zI m) (zI h) (zI day) G := by
  have hm13 : m < 13 := Nat.lt_of_lt_of_le hm (Nat.le_trans hV.mk hn)
  have hu := hV.uc hm
  have hr := hV.r4
  unfold wp_X8_sinceOf
  intro P9 K9
  have main : ∀ f c : Nat, c ≤ f → c ≤ day + 1 → (∀ e, c ≤ e → e ≤ day → lvB R m h e = true) → P9 (zI m) (zI h) (zI (if c = day + 1 then -1 else (c : Int))) (zI ((c : Int) - 1)) (zI 1) G := by
    intro f
    induction f with
    | zero => 
      intro c hc _ hl
      have : c = 0 := by omega
      subst this
      refine K9 _ _ _ _ _ _ ?_
      unfold lb_X8_sinceOf_9
      refine br_f (by rw [zl0, zI_eq (by omega)]; omega) ?_
      intro P20 K20
      have inner : ∀ g k : Nat, k + g = qq R m 13 → P20 (zI m) (zI h) (zI (if 0 = day + 1 then -1 else ((0 : Nat) : Int))) (zI (((0 : Nat) : Int) - 1)) (zI 0) (zI k) G := by
        intro g
        induction g with
        | zero =>
          intro k hk
          refine K20 _ _ _ _ _ _ _ ?_
          unfold lb_X8_sinceOf_20
          refine wM_of1 hM m 13 rfl rfl hm13 (by omega) ?_
          refine br_t (by rw [zI_le (by omega)]; omega) ?_
          rintro _ rfl
          refine K9 _ _ _ _ _ _ ?_
          unfold lb_X8_sinceOf_9
          refine br_t rfl ?_
          rw [if_neg (by omega)]
          rw [snc_eq (c := 0) (Or.inl rfl) day (by omega) hl] at hp
          exact hp
        | succ g ih2 =>
          intro k hk
          have hk2 : k < qq R m 13 := by omega
          have b0 := hV.us0 hm hk2
          refine K20 _ _ _ _ _ _ _ ?_
          unfold lb_X8_sinceOf_20
          refine wM_of1 hM m 13 rfl rfl hm13 (by omega) ?_
          refine br_f (by rw [zI_le (by omega)]; omega) ?_
          refine wM_of1 hM m (15 + 3 * k) rfl (by rw [zl14, zl3, zl1, zI_mul, zI_add, zI_add]; exact zI_cg (by omega)) hm13 (by omega) ?_
          refine wM_of1 hM m (14 + 3 * k) rfl (by rw [zl14, zl3, zI_mul, zI_add]; exact zI_cg (by omega)) hm13 (by omega) ?_
          have same : P20 (zI m) (zI h) (zI (if 0 = day + 1 then -1 else ((0 : Nat) : Int))) (zI (((0 : Nat) : Int) - 1)) (zI 0) (zI k + (1 : Int32)) G := by
            rw [zl1, zI_add]
            exact ih2 (k + 1) (by omega)
          refine br_c (fun q => ?_) (fun q => same)
          refine wM_isLive hV hn hM hm hk2 (by omega) ?_
          exact br_bf (decide_eq_false (by omega)) same
      exact inner (qq R m 13) 0 (by omega)
    | succ f ih =>
      intro c hcf hc hl
      refine K9 _ _ _ _ _ _ ?_
      unfold lb_X8_sinceOf_9
      refine br_f (by rw [zl0, zI_eq (by omega)]; omega) ?_
      intro P20 K20
      have inner : ∀ g k c' : Nat, k + g = qq R m 13 → c' ≤ c → (∀ e, c' ≤ e → e ≤ day → lvB R m h e = true) → (c' = c → ∀ k', k' < k → ¬ (qq R m (14 + 3 * k') = h ∧ qq R m (15 + 3 * k') < c ∧ c ≤ qq R m (16 + 3 * k') + R 6 + 1)) → P20 (zI m) (zI h) (zI (if c' = day + 1 then -1 else (c' : Int))) (zI ((c : Int) - 1)) (zI (if c' = c then 0 else 1)) (zI k) G := by
        intro g
        induction g with
        | zero =>
          intro k c' hk hc' hl' h1
          refine K20 _ _ _ _ _ _ _ ?_
          unfold lb_X8_sinceOf_20
          refine wM_of1 hM m 13 rfl rfl hm13 (by omega) ?_
          refine br_t (by rw [zI_le (by omega)]; omega) ?_
          rintro _ rfl
          by_cases q : c' = c
          · subst q
            refine K9 _ _ _ _ _ _ ?_
            unfold lb_X8_sinceOf_9
            rw [if_pos rfl]
            refine br_t rfl ?_
            have nx : c' = 0 ∨ lvB R m h (c' - 1) = false := by
              by_cases z : c' = 0
              · exact Or.inl z
              · right
                rw [Bool.eq_false_iff]
                intro hv
                obtain ⟨k', a1, a2, a3, a4⟩ := lvB_iff.mp hv
                exact h1 rfl k' (by omega) ⟨a2, by omega, by omega⟩
            by_cases q2 : c' ≤ day
            · rw [if_neg (by omega), ← snc_eq nx day q2 hl']
              exact hp
            · rw [if_pos (by omega)]
              have e : c' = day + 1 := by omega
              have : lvB R m h day = false := by
                rcases nx with z | z
                · omega
                · rw [e] at z; exact z
              rw [snc_no this] at hp
              exact hp
          · rw [if_neg q, if_neg (by omega), zl1, zI_sub]
            have := ih c' (by omega) (by omega) hl'
            rw [if_neg (by omega)] at this
            exact this
        | succ g ih2 =>
          intro k c' hk hc' hl' h1
          have hk2 : k < qq R m 13 := by omega
          have b0 := hV.us0 hm hk2
          have b1 := hV.us1 hm hk2
          have b2 := hV.us2 hm hk2
          refine K20 _ _ _ _ _ _ _ ?_
          unfold lb_X8_sinceOf_20
          refine wM_of1 hM m 13 rfl rfl hm13 (by omega) ?_
          refine br_f (by rw [zI_le (by omega)]; omega) ?_
          refine wM_of1 hM m (15 + 3 * k) rfl (by rw [zl14, zl3, zl1, zI_mul, zI_add, zI_add]; exact zI_cg (by omega)) hm13 (by omega) ?_
          refine wM_of1 hM m (14 + 3 * k) rfl (by rw [zl14, zl3, zI_mul, zI_add]; exact zI_cg (by omega)) hm13 (by omega) ?_
          have same : ¬ (qq R m (14 + 3 * k) = h ∧ qq R m (15 + 3 * k) < c' ∧ qq R m (15 + 3 * k) < c ∧ c ≤ qq R m (16 + 3 * k) + R 6 + 1) → P20 (zI m) (zI h) (zI (if c' = day + 1 then -1 else (c' : Int))) (zI ((c : Int) - 1)) (zI (if c' = c then 0 else 1)) (zI k + (1 : Int32)) G := by
            intro hx
            rw [zl1, zI_add]
            refine ih2 (k + 1) c' (by omega) hc' hl' (fun q k' hk' => ?_)
            by_cases z : k' = k
            · subst z
              rw [q] at hx
              omega
            · exact h1 q k' (by omega)
          have upd1 : qq R m (14 + 3 * k) = h → qq R m (15 + 3 * k) < c' → c ≤ qq R m (16 + 3 * k) + R 6 + 1 → P20 (zI m) (zI h) (zI (qq R m (15 + 3 * k))) (zI ((c : Int) - 1)) (1 : Int32) (zI k + (1 : Int32)) G := by
            intro x0 x1 x2
            have := ih2 (k + 1) (qq R m (15 + 3 * k)) (by omega) (by omega) (fun e y1 y2 => by
              by_cases z : c' ≤ e
              · exact hl' e z y2
              · exact lvB_iff.mpr ⟨k, hk2, x0, y1, by omega⟩) (fun z => by omega)
            rw [if_neg (by omega), if_neg (by omega)] at this
            rw [zl1, zI_add]
            exact this
          refine br_c (fun q => ?_) (fun q => ?_)
          · rw [zI_eq (by omega)] at q
            refine wM_isLive hV hn hM hm hk2 (by omega) ?_
            by_cases z : (qq R m (15 + 3 * k) : Int) ≤ (c : Int) - 1 ∧ (c : Int) - 1 ≤ (qq R m (16 + 3 * k) : Int) + R 6
            · refine br_bt (decide_eq_true z) ?_
              unfold j_X8_sinceOf_92
              refine br_c (fun q1 => ?_) (fun q1 => ?_)
              · rw [zl1, zI_neg] at q1
                have e1 : c' = day + 1 := by
                  by_cases w : c' = day + 1
                  · exact w
                  · rw [if_neg w, zI_eq (by omega)] at q1
                    omega
                exact upd1 (by omega) (by omega) (by omega)
              · have e1 : c' ≠ day + 1 := by
                  intro w
                  rw [if_pos w] at q1
                  exact q1 rfl
                rw [if_neg e1]
                rw [if_neg e1] at same
                refine br_c (fun q2 => ?_) (fun q2 => ?_)
                · rw [zI_lt (by omega)] at q2
                  exact upd1 (by omega) (by omega) (by omega)
                · rw [zI_lt (by omega)] at q2
                  exact same (by omega)
            · refine br_bf (decide_eq_false z) ?_
              exact same (by omega)
          · rw [zI_eq (by omega)] at q
            exact same (by omega)
      have := inner (qq R m 13) 0 c (by omega) (Nat.le_refl _) hl (fun _ k' hk' => by omega)
      rw [if_pos (rfl : c = c)] at this
      exact this
  have := main (day + 1) (day + 1) (Nat.le_refl _) (Nat.le_refl _) (fun e a b => by omega)
  rw [if_pos rfl, show (((day + 1 : Nat) : Int) - 1) = (day : Int) by omega] at this
  exact this
/-! the priority -/
def pri (R : RR) (m h day : Nat) : Int := if qq R m 12 ≤ day then (if snc R m h day = -1 then (qq R m 12 : Int) else min (snc R m h day) (qq R m 12)) else snc R m h day
theorem pri_rg (R : RR) (m h day : Nat) : -1 ≤ pri R m h day ∧ pri R m h day ≤ day := by
  have := snc_rg R m h day
  unfold pri
  split
  · split <;> omega
  · omega
theorem wM_priorityOf (hV : VR n R) (hn : n ≤ 13) (hM : MR R (G 24 1)) (hm : m < R 1) (hh : h < 12) (hd : day ≤ 9999) (hp : post (zI (pri R m h day)) G) : wp_X8_priorityOf post (zI m) (zI h) (zI day) G := by
  have hm13 : m < 13 := Nat.lt_of_lt_of_le hm (Nat.le_trans hV.mk hn)
  have hf := hV.fl hm
  have hs := snc_rg R m h day
  unfold wp_X8_priorityOf
  refine wM_sinceOf hV hn hM hm hh hd ?_
  refine wM_of1 hM m 12 rfl rfl hm13 (by omega) ?_
  unfold pri at hp
  refine br_c (fun q => ?_) (fun q => ?_)
  · rw [zI_le (by omega)] at q
    rw [if_pos (by omega)] at hp
    refine br_c (fun q1 => ?_) (fun q1 => ?_)
    · rw [zl1, zI_neg, zI_eq (by omega)] at q1
      rw [if_pos q1] at hp
      exact hp
    · rw [zl1, zI_neg, zI_eq (by omega)] at q1
      rw [if_neg q1] at hp
      rw [zI_min (by omega)]
      exact hp
  · rw [zI_le (by omega)] at q
    rw [if_neg (by omega)] at hp
    exact hp
theorem wI_priorityOf (hV : VR n R) (hn : n ≤ 13) (hC : CR R (G o)) (hm : m < R 1) (hh : h < 12) (hd : day ≤ 9999) (hp : post (zI (pri R m h day)) G) : wp_X4_priorityOf post o (zI m) (zI h) (zI day) G := by
  have hm13 : m < 13 := Nat.lt_of_lt_of_le hm (Nat.le_trans hV.mk hn)
  have hf := hV.fl hm
  have hs := snc_rg R m h day
  have cm : (zI (m : Int)).toNatClampNeg = m := zI_clN (by omega)
  unfold wp_X4_priorityOf
  refine wI_sinceOf hV hn hC hm hh hd ?_
  refine ⟨zI_in (by omega), ?_⟩
  rw [cm, hC.fl hm]
  unfold pri at hp
  refine br_c (fun q => ?_) (fun q => ?_)
  · rw [zI_le (by omega)] at q
    rw [if_pos (by omega)] at hp
    refine br_c (fun q1 => ⟨zI_in (by omega), ?_⟩) (fun q1 => ⟨zI_in (by omega), ?_⟩)
    · rw [zl1, zI_neg, zI_eq (by omega)] at q1
      rw [if_pos q1] at hp
      exact hp
    · rw [zl1, zI_neg, zI_eq (by omega)] at q1
      rw [if_neg q1] at hp
      rw [zI_min (by omega)]
      exact hp
  · rw [zI_le (by omega)] at q
    rw [if_neg (by omega)] at hp
    exact hp
end
