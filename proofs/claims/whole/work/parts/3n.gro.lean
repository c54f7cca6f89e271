/-! ===== groups: what a set grows to ===== -/
theorem cntB_lt {p q : Nat → Bool} : ∀ n i, i < n → (∀ j, p j = true → q j = true) → p i = false → q i = true → cntB p n < cntB q n
  | 0, i, hi, _, _, _ => by omega
  | n + 1, i, hi, hm, h0, h1 => by
    have mono : ∀ n, cntB p n ≤ cntB q n := by
      intro n
      induction n with
      | zero => exact Nat.le_refl _
      | succ n ih =>
        unfold cntB
        cases hp : p n
        · rw [if_neg (by decide)]
          omega
        · rw [hm n hp, if_pos rfl]
          omega
    unfold cntB
    by_cases w : i = n
    · subst w
      have := mono i
      rw [h0, h1, if_neg (by decide), if_pos rfl]
      omega
    · have := cntB_lt n i (by omega) hm h0 h1
      cases hp : p n
      · rw [if_neg (by decide)]
        omega
      · rw [hm n hp, if_pos rfl]
        omega
theorem wd_grow {f : Nat → Nat} {n s : Nat} (hf : ∀ c, c < n → f c < 2 ^ 13) (hs : s < 2 ^ 13) (h : wd f n s ≠ s) : cntB s.testBit 13 < cntB (wd f n s).testBit 13 := by
  have : ∃ i, s.testBit i = false ∧ (wd f n s).testBit i = true := by
    by_cases w : ∃ i, s.testBit i = false ∧ (wd f n s).testBit i = true
    · exact w
    · exfalso
      apply h
      apply Nat.eq_of_testBit_eq
      intro i
      cases e : s.testBit i
      · cases e2 : (wd f n s).testBit i
        · rfl
        · exact absurd ⟨i, e, e2⟩ w
      · exact wd_tb.mpr (Or.inl e)
  obtain ⟨i, h1, h2⟩ := this
  exact cntB_lt 13 i (tb_lt (wd_lt hf hs) h2) (fun j hj => wd_tb.mpr (Or.inl hj)) h1 h2
theorem rc_fix {f : Nat → Nat} {n s t : Nat} (h : rc f n s (t + 1) = rc f n s t) : ∀ d, rc f n s (t + d) = rc f n s t
  | 0 => rfl
  | d + 1 => by
    show wd f n (rc f n s (t + d)) = _
    rw [rc_fix h d]
    exact h
theorem rc_cnt {f : Nat → Nat} {n s : Nat} (hf : ∀ c, c < n → f c < 2 ^ 13) (hs : s < 2 ^ 13) (h1 : 1 ≤ cntB s.testBit 13) : ∀ t, (∃ u, u < t ∧ rc f n s (u + 1) = rc f n s u) ∨ t + 1 ≤ cntB (rc f n s t).testBit 13
  | 0 => Or.inr h1
  | t + 1 => by
    rcases rc_cnt hf hs h1 t with ⟨u, a, b⟩ | h
    · exact Or.inl ⟨u, by omega, b⟩
    · by_cases w : rc f n s (t + 1) = rc f n s t
      · exact Or.inl ⟨t, by omega, w⟩
      · right
        have := wd_grow hf (rc_lt hf hs t) w
        show t + 1 + 1 ≤ cntB (wd f n (rc f n s t)).testBit 13
        omega
theorem rc_13 {f : Nat → Nat} {n s t : Nat} (hf : ∀ c, c < n → f c < 2 ^ 13) (hs : s < 2 ^ 13) (h1 : 1 ≤ cntB s.testBit 13) (h : rc f n s (t + 1) = rc f n s t) : rc f n s t = rc f n s 13 := by
  rcases rc_cnt hf hs h1 13 with ⟨u, a, b⟩ | h2
  · have e1 := rc_fix b (13 - u)
    rw [show u + (13 - u) = 13 by omega] at e1
    rw [e1]
    by_cases w : t ≤ u
    · have := rc_fix h (u - t)
      rw [show t + (u - t) = u by omega] at this
      exact this.symm
    · have := rc_fix b (t - u)
      rw [show u + (t - u) = t by omega] at this
      exact this
  · have := cntB_le (rc f n s 13).testBit 13
    omega
theorem rc_stop {f : Nat → Nat} {n s : Nat} (hf : ∀ c, c < n → f c < 2 ^ 13) (hs : s < 2 ^ 13) (h1 : 1 ≤ cntB s.testBit 13) : wd f n (rc f n s 13) = rc f n s 13 := by
  rcases rc_cnt hf hs h1 13 with ⟨u, a, b⟩ | h2
  · have e1 := rc_fix b (13 - u)
    rw [show u + (13 - u) = 13 by omega] at e1
    rw [e1]
    exact b
  · have := cntB_le (rc f n s 13).testBit 13
    omega
def gpS (R : RR) (m : Nat) : Nat := rc (alS R) (R 1) (2 ^ m) 13
theorem alS_lt {n : Nat} {R : RR} (hV : VR n R) (hn : n ≤ 13) : ∀ c, c < R 1 → alS R c < 2 ^ 13 := fun c _ => bset_lt13 _ (Nat.le_trans hV.mk hn)
theorem bit13 {m : Nat} (hm : m < 13) : 2 ^ m < 2 ^ 13 ∧ 1 ≤ cntB (2 ^ m).testBit 13 := by
  refine ⟨Nat.pow_lt_pow_right (by decide) hm, ?_⟩
  have := cntB_lt (p := fun _ => false) (q := (2 ^ m).testBit) 13 m hm (fun j h => by cases h) rfl Nat.testBit_two_pow_self
  omega
section
variable {R : RR} {G : GH} {n o o1 m : Nat} {post : Int32 → GH → Prop}
set_option maxHeartbeats 1000000 in
theorem wI_groupOf (hV : VR n R) (hn : n ≤ 13) (hC : CR R (G o1)) (hm : m < R 1) (h7 : ∀ i, i < R 1 → G o 7 i = zI (alS R i)) (hp : post (zI (gpS R m)) G) : wp_X1_groupOf post o o1 (zI m) G := by
  have h13 := Nat.le_trans hV.mk hn
  obtain ⟨hb1, hb2⟩ := bit13 (show m < 13 by omega)
  have hl := fun t => rc_lt (s := 2 ^ m) (alS_lt hV hn) hb1 t
  unfold wp_X1_groupOf
  rw [zI_bit (by omega)]
  rintro _ rfl
  intro P7 K7
  have main : ∀ f t : Nat, t + f = 13 → P7 (zI (rc (alS R) (R 1) (2 ^ m) t)) (zI t) G := by
    intro f
    induction f with
    | zero =>
      intro t ht
      have : t = 13 := by omega
      subst this
      refine K7 _ _ _ ?_
      unfold lb_X1_groupOf_7
      exact br_t (by decide) hp
    | succ f ih =>
      intro t ht
      have hlt := hl t
      refine K7 _ _ _ ?_
      unfold lb_X1_groupOf_7
      refine br_f (by rw [zl13, zI_le (by omega)]; omega) ?_
      intro P20 K20
      have inner : ∀ g k : Nat, k + g = R 1 → P20 (zI (rc (alS R) (R 1) (2 ^ m) t)) (zI t) (zI ((rc (alS R) (R 1) (2 ^ m) t ||| uni (alS R) (rc (alS R) (R 1) (2 ^ m) t) k : Nat) : Int)) (zI k) G := by
        intro g
        induction g with
        | zero =>
          intro k hk
          have : k = R 1 := by omega
          subst this
          have hlt2 := hl (t + 1)
          refine K20 _ _ _ _ _ ?_
          unfold lb_X1_groupOf_20
          rw [hC.mk]
          refine br_t (by rw [zI_le (by omega)]; omega) ?_
          have e : rc (alS R) (R 1) (2 ^ m) t ||| uni (alS R) (rc (alS R) (R 1) (2 ^ m) t) (R 1) = rc (alS R) (R 1) (2 ^ m) (t + 1) := rfl
          rw [e]
          refine br_c (fun q => ?_) (fun q => ?_)
          · rw [zI_eq (by omega)] at q
            have := rc_13 (alS_lt hV hn) hb1 hb2 (show rc (alS R) (R 1) (2 ^ m) (t + 1) = rc (alS R) (R 1) (2 ^ m) t by omega)
            rw [this]
            exact hp
          · rw [zl1, zI_add]
            exact ih (t + 1) (by omega)
        | succ g ih2 =>
          intro k hk
          refine K20 _ _ _ _ _ ?_
          unfold lb_X1_groupOf_20
          rw [hC.mk]
          refine br_f (by rw [zI_le (by omega)]; omega) ?_
          rw [wI_isIn (by omega) (by omega), zl1, zI_add]
          have := ih2 (k + 1) (by omega)
          unfold uni at this
          by_cases z : (rc (alS R) (R 1) (2 ^ m) t).testBit k = true
          · refine br_bt z ⟨zI_in (by omega), ?_⟩
            rintro _ rfl
            rw [zI_clN (by omega), h7 k (by omega), zI_or, Nat.or_assoc]
            rw [if_pos z] at this
            exact this
          · refine br_bf (by simpa using z) ?_
            rw [if_neg z, Nat.or_zero] at this
            exact this
      have := inner (R 1) 0 (by omega)
      unfold uni at this
      rw [Nat.or_zero] at this
      exact this
  exact main 13 0 (by omega)
set_option maxHeartbeats 1000000 in
theorem wM_groupL (hV : VR n R) (hn : n ≤ 13) (hM : MR R (G 24 1)) (hm : m < R 1) (h20 : ∀ i, i < R 1 → G 24 20 i = zI (alS R i)) (hp : post (zI (gpS R m)) G) : lp_X8_group_29 post (zI ((2 ^ m : Nat) : Int)) (0 : Int32) G := by
  have h13 := Nat.le_trans hV.mk hn
  obtain ⟨hb1, hb2⟩ := bit13 (show m < 13 by omega)
  have hl := fun t => rc_lt (s := 2 ^ m) (alS_lt hV hn) hb1 t
  have hpos : 0 < 2 ^ m := Nat.two_pow_pos m
  intro P29 K29
  -- one turn: the set grows from what it was
  have turn : ∀ t : Nat, P29 (zI (rc (alS R) (R 1) (2 ^ m) (t + 1))) (zI (rc (alS R) (R 1) (2 ^ m) t)) G → lp_X8_group_39 post P29 (zI (rc (alS R) (R 1) (2 ^ m) t)) (zI (rc (alS R) (R 1) (2 ^ m) t)) (0 : Int32) G := by
    intro t hP
    have hlt := hl t
    intro P39 K39
    have inner : ∀ g k : Nat, k + g = R 1 → P39 (zI ((rc (alS R) (R 1) (2 ^ m) t ||| uni (alS R) (rc (alS R) (R 1) (2 ^ m) t) k : Nat) : Int)) (zI (rc (alS R) (R 1) (2 ^ m) t)) (zI k) G := by
      intro g
      induction g with
      | zero =>
        intro k hk
        have : k = R 1 := by omega
        subst this
        refine K39 _ _ _ _ ?_
        unfold lb_X8_group_39
        rw [wM_marks hM]
        refine br_t (by rw [zI_le (by omega)]; omega) ?_
        exact hP
      | succ g ih2 =>
        intro k hk
        refine K39 _ _ _ _ ?_
        unfold lb_X8_group_39
        rw [wM_marks hM]
        refine br_f (by rw [zI_le (by omega)]; omega) ?_
        rw [wM_has (by omega) (by omega), zl1, zI_add]
        have := ih2 (k + 1) (by omega)
        unfold uni at this
        by_cases z : (rc (alS R) (R 1) (2 ^ m) t).testBit k = true
        · refine br_bt z ⟨zI_in (by omega), ?_⟩
          rintro _ rfl
          rw [zI_clN (by omega), h20 k (by omega), zI_or, Nat.or_assoc]
          rw [if_pos z] at this
          exact this
        · refine br_bf (by simpa using z) ?_
          rw [if_neg z, Nat.or_zero] at this
          exact this
    have := inner (R 1) 0 (by omega)
    unfold uni at this
    rw [Nat.or_zero] at this
    exact this
  have main : ∀ f t : Nat, t + f = 13 → P29 (zI (rc (alS R) (R 1) (2 ^ m) (t + 1))) (zI (rc (alS R) (R 1) (2 ^ m) t)) G := by
    intro f
    induction f with
    | zero =>
      intro t ht
      have : t = 13 := by omega
      subst this
      have e : rc (alS R) (R 1) (2 ^ m) (13 + 1) = rc (alS R) (R 1) (2 ^ m) 13 := rc_stop (alS_lt hV hn) hb1 hb2
      refine K29 _ _ _ ?_
      unfold lb_X8_group_29
      rw [e]
      exact br_t rfl hp
    | succ f ih =>
      intro t ht
      have h1 := hl t
      have h2 := hl (t + 1)
      refine K29 _ _ _ ?_
      unfold lb_X8_group_29
      refine br_c (fun q => ?_) (fun q => ?_)
      · rw [zI_eq (by omega)] at q
        have e := rc_13 (alS_lt hV hn) hb1 hb2 (show rc (alS R) (R 1) (2 ^ m) (t + 1) = rc (alS R) (R 1) (2 ^ m) t by omega)
        have e2 : rc (alS R) (R 1) (2 ^ m) (t + 1) = gpS R m := by
          unfold gpS
          omega
        rw [e2]
        exact hp
      · exact turn (t + 1) (ih (t + 1) (by omega))
  refine K29 _ _ _ ?_
  unfold lb_X8_group_29
  refine br_f (by rw [zl0, zI_eq (by omega)]; omega) ?_
  exact turn 0 (main 13 0 (by omega))
end
