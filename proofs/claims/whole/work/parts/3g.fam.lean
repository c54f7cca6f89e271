/-! ===== how far, in the reference ===== -/
def twB (a b x y : Nat) : Bool := decide (a = x ∧ b = y ∨ a = y ∧ b = x)
section
variable {G : GH} {a b : Nat} {post : Bool → GH → Prop}
theorem wM_areTwo {u v : Int32} (x y : Nat) (ha : a ≤ 1000) (hb : b ≤ 1000) (hu : u = zI x) (hv : v = zI y) (hx : x ≤ 1000) (hy : y ≤ 1000) (hp : post (twB a b x y) G) : wp_X8_areTwo post (zI a) (zI b) u v G := by
  subst hu hv
  unfold wp_X8_areTwo j_X8_areTwo_10 j_X8_areTwo_20
  rw [zI_eq (by omega), zI_eq (by omega), zI_eq (by omega), zI_eq (by omega)]
  unfold twB at hp
  by_cases h1 : a = x ∧ b = y ∨ a = y ∧ b = x
  · rw [decide_eq_true h1] at hp
    refine br_c (fun q => br_c (fun q1 => hp) (fun q1 => br_c (fun q2 => br_c (fun q3 => hp) (fun q3 => ?_)) (fun q2 => ?_))) (fun q => br_c (fun q2 => br_c (fun q3 => hp) (fun q3 => ?_)) (fun q2 => ?_))
    all_goals omega
  · rw [decide_eq_false h1] at hp
    refine br_c (fun q => br_c (fun q1 => ?_) (fun q1 => br_c (fun q2 => br_c (fun q3 => ?_) (fun q3 => hp)) (fun q2 => hp))) (fun q => br_c (fun q2 => br_c (fun q3 => ?_) (fun q3 => hp)) (fun q2 => hp))
    all_goals omega
theorem wM_kinLetters (ha : 97 ≤ a ∧ a ≤ 122) (hb : 97 ≤ b ∧ b ≤ 122) (hp : post ((ktb 3 (a - 97)).testBit (b - 97)) G) : wp_X8_areKinLetters post (zI a) (zI b) G := by
  have E : ∀ a b : Fin 26, (ktb 3 a.val).testBit b.val = (twB (a.val + 97) (b.val + 97) 105 108 || twB (a.val + 97) (b.val + 97) 105 106 || twB (a.val + 97) (b.val + 97) 109 110 || twB (a.val + 97) (b.val + 97) 117 118 || twB (a.val + 97) (b.val + 97) 99 111 || twB (a.val + 97) (b.val + 97) 98 100 || twB (a.val + 97) (b.val + 97) 112 113 || twB (a.val + 97) (b.val + 97) 101 99) := by decide +kernel
  have e := E ⟨a - 97, by omega⟩ ⟨b - 97, by omega⟩
  simp only [show a - 97 + 97 = a by omega, show b - 97 + 97 = b by omega] at e
  rw [e] at hp
  unfold wp_X8_areKinLetters j_X8_areKinLetters_48 j_X8_areKinLetters_53 j_X8_areKinLetters_106
  have yes : ∀ P : Prop, (post true G) → (((1 : Int32) = 0 → P) ∧ (¬ (1 : Int32) = 0 → post true G)) := fun P h => br_f (by decide) h
  refine wM_areTwo 105 108 (by omega) (by omega) rfl rfl (by omega) (by omega) ?_
  cases h1 : twB a b 105 108
  case true =>
    rw [h1] at hp
    exact br_bt rfl (yes _ (by simpa using hp))
  refine br_bf rfl ?_
  refine wM_areTwo 105 106 (by omega) (by omega) rfl rfl (by omega) (by omega) ?_
  cases h2 : twB a b 105 106
  case true =>
    rw [h1, h2] at hp
    exact br_bt rfl (yes _ (by simpa using hp))
  refine br_bf rfl ?_
  refine wM_areTwo 109 110 (by omega) (by omega) rfl rfl (by omega) (by omega) ?_
  cases h3 : twB a b 109 110
  case true =>
    rw [h1, h2, h3] at hp
    exact br_bt rfl (yes _ (by simpa using hp))
  refine br_bf rfl ?_
  refine wM_areTwo 117 118 (by omega) (by omega) rfl rfl (by omega) (by omega) ?_
  cases h4 : twB a b 117 118
  case true =>
    rw [h1, h2, h3, h4] at hp
    exact br_bt rfl (yes _ (by simpa using hp))
  refine br_bf rfl ?_
  refine br_t rfl ?_
  rw [h1, h2, h3, h4] at hp
  refine wM_areTwo 99 111 (by omega) (by omega) rfl rfl (by omega) (by omega) ?_
  cases h5 : twB a b 99 111
  case true =>
    rw [h5] at hp
    exact br_bt rfl (by simpa using hp)
  refine br_bf rfl ?_
  refine wM_areTwo 98 100 (by omega) (by omega) rfl rfl (by omega) (by omega) ?_
  cases h6 : twB a b 98 100
  case true =>
    rw [h5, h6] at hp
    exact br_bt rfl (by simpa using hp)
  refine br_bf rfl ?_
  refine wM_areTwo 112 113 (by omega) (by omega) rfl rfl (by omega) (by omega) ?_
  cases h7 : twB a b 112 113
  case true =>
    rw [h5, h6, h7] at hp
    exact br_bt rfl (by simpa using hp)
  refine br_bf rfl ?_
  refine wM_areTwo 101 99 (by omega) (by omega) rfl rfl (by omega) (by omega) ?_
  rw [h5, h6, h7] at hp
  cases h8 : twB a b 101 99
  · rw [h8] at hp
    exact br_bf rfl (by simpa using hp)
  · rw [h8] at hp
    exact br_bt rfl (by simpa using hp)
theorem wM_kinSounds (ha : a < 10) (hb : b < 10) (hp : post ((ktb 4 a).testBit b) G) : wp_X8_areKinSounds post (zI a) (zI b) G := by
  have E : ∀ a b : Fin 10, (ktb 4 a.val).testBit b.val = (twB a.val b.val 6 1 || twB a.val b.val 2 8 || twB a.val b.val 4 5 || twB a.val b.val 3 7 || twB a.val b.val 9 8) := by decide +kernel
  have e := E ⟨a, ha⟩ ⟨b, hb⟩
  simp only at e
  rw [e] at hp
  unfold wp_X8_areKinSounds j_X8_areKinSounds_32 j_X8_areKinSounds_37 j_X8_areKinSounds_65
  have yes : ∀ P : Prop, (post true G) → (((1 : Int32) = 0 → P) ∧ (¬ (1 : Int32) = 0 → post true G)) := fun P h => br_f (by decide) h
  refine wM_areTwo 6 1 (by omega) (by omega) rfl rfl (by omega) (by omega) ?_
  cases h1 : twB a b 6 1
  case true =>
    rw [h1] at hp
    exact br_bt rfl (yes _ (by simpa using hp))
  refine br_bf rfl ?_
  refine wM_areTwo 2 8 (by omega) (by omega) rfl rfl (by omega) (by omega) ?_
  cases h2 : twB a b 2 8
  case true =>
    rw [h1, h2] at hp
    exact br_bt rfl (yes _ (by simpa using hp))
  refine br_bf rfl ?_
  refine wM_areTwo 4 5 (by omega) (by omega) rfl rfl (by omega) (by omega) ?_
  cases h3 : twB a b 4 5
  case true =>
    rw [h1, h2, h3] at hp
    exact br_bt rfl (yes _ (by simpa using hp))
  refine br_bf rfl ?_
  refine br_t rfl ?_
  rw [h1, h2, h3] at hp
  refine wM_areTwo 3 7 (by omega) (by omega) rfl rfl (by omega) (by omega) ?_
  cases h5 : twB a b 3 7
  case true =>
    rw [h5] at hp
    exact br_bt rfl (by simpa using hp)
  refine br_bf rfl ?_
  refine wM_areTwo 9 8 (by omega) (by omega) rfl rfl (by omega) (by omega) ?_
  rw [h5] at hp
  cases h8 : twB a b 9 8
  · rw [h8] at hp
    exact br_bf rfl (by simpa using hp)
  · rw [h8] at hp
    exact br_bt rfl (by simpa using hp)
end
def tOf (hd : Bool) : Nat := if hd then 4 else 3
/-- letters stand from 97 on in the reference, sounds from 0 -/
def off (hd : Bool) : Nat := if hd then 0 else 97
def hdI (hd : Bool) : Int32 := if hd then 1 else 0
section
variable {G : GH} {a b n m : Nat} {x y : Nat → Nat} {hd : Bool} {post : Int32 → GH → Prop}
theorem wM_changeOf (ha : a < klen (tOf hd)) (hb : b < klen (tOf hd)) (hp : post (zI (cgt (tOf hd) a b)) G) : wp_X8_changeOf post (zI ((a + off hd : Nat) : Int)) (zI ((b + off hd : Nat) : Int)) (hdI hd) G := by
  have hk : klen (tOf hd) ≤ 26 := by cases hd <;> decide
  have ho : off hd ≤ 97 := by cases hd <;> decide
  unfold wp_X8_changeOf j_X8_changeOf_30
  rw [zI_eq (by omega)]
  unfold cgt at hp
  refine br_c (fun q => ?_) (fun q => ?_)
  · rw [if_pos (by omega)] at hp
    exact hp
  · rw [if_neg (by omega)] at hp
    cases hd
    · refine br_t rfl ?_
      have ha' : a < 26 := ha
      have hb' : b < 26 := hb
      have hp : post (zI ((if (ktb 3 a).testBit b = true then 1 else 2 : Nat) : Int)) G := hp
      refine wM_kinLetters (a := a + 97) (b := b + 97) (by omega) (by omega) ?_
      rw [Nat.add_sub_cancel, Nat.add_sub_cancel]
      cases h : (ktb 3 a).testBit b
      · refine br_bf rfl ?_
        rw [if_neg (by rw [h]; decide)] at hp
        exact hp
      · refine br_bt rfl ?_
        rw [if_pos h] at hp
        exact hp
    · refine br_f (by decide) ?_
      have hp : post (zI ((if (ktb 4 a).testBit b = true then 1 else 2 : Nat) : Int)) G := hp
      refine wM_kinSounds (a := a) (b := b) ha hb ?_
      cases h : (ktb 4 a).testBit b
      · refine br_bf rfl ?_
        rw [if_neg (by rw [h]; decide)] at hp
        exact hp
      · refine br_bt rfl ?_
        rw [if_pos h] at hp
        exact hp
set_option maxHeartbeats 2000000 in
theorem wM_farOf (hn : n ≤ 20) (hm : m ≤ 20) (hx : ∀ i, i < n → x i < klen (tOf hd)) (hy : ∀ j, j < m → y j < klen (tOf hd)) (gx : ∀ i, i < n → G 24 11 i = zI ((x i + off hd : Nat) : Int)) (gy : ∀ j, j < m → G 24 12 j = zI ((y j + off hd : Nat) : Int))
    (hp : ∀ G', Ag (W8 24 13) G G' → post (zI (edR (tOf hd) x y n m)) G') : wp_X8_farOf post (zI n) (zI m) (hdI hd) G := by
  have hk : klen (tOf hd) ≤ 26 := by cases hd <;> decide
  generalize ht : tOf hd = t at *
  have ra : ∀ G', Ag (W8 24 13) G G' → ∀ j, G' 24 11 j = G 24 11 j := fun G' ag j => ag 24 11 j (fun z => absurd z.2 (by decide))
  have rb : ∀ G', Ag (W8 24 13) G G' → ∀ j, G' 24 12 j = G 24 12 j := fun G' ag j => ag 24 12 j (fun z => absurd z.2 (by decide))
  unfold wp_X8_farOf
  intro P7 K7
  have rows : ∀ f i : Nat, i + f = n + 1 → ∀ G', Ag (W8 24 13) G G' → (∀ i' j, i' < i → j ≤ m → G' 24 13 (21 * i' + j) = zI (edR t x y i' j)) → P7 (zI n) (zI m) (hdI hd) (zI 21) (zI i) G' := by
    intro f
    induction f with
    | zero =>
      intro i hi G' ag hc
      refine K7 _ _ _ _ _ _ ?_
      unfold lb_X8_farOf_7
      refine br_t (by rw [zI_lt (by omega)]; omega) ?_
      rw [zI_mul, zI_add]
      refine ⟨zI_in (by omega), ?_⟩
      rw [zI_cl (by omega), show ((21 : Int) * (n : Int) + (m : Int)).toNat = 21 * n + m by omega, hc n m (by omega) (by omega)]
      exact hp G' ag
    | succ f ih =>
      intro i hi G' ag hc
      refine K7 _ _ _ _ _ _ ?_
      unfold lb_X8_farOf_7
      refine br_f (by rw [zI_lt (by omega)]; omega) ?_
      intro P16 K16
      have cols : ∀ g j : Nat, j + g = m + 1 → ∀ G'', Ag (W8 24 13) G G'' → (∀ i' j', i' < i → j' ≤ m → G'' 24 13 (21 * i' + j') = zI (edR t x y i' j')) → (∀ j', j' < j → G'' 24 13 (21 * i + j') = zI (edR t x y i j')) → P16 (zI n) (zI m) (hdI hd) (zI 21) (zI i) (zI j) G'' := by
        intro g
        induction g with
        | zero =>
          intro j hj G'' ag2 h1 h2
          refine K16 _ _ _ _ _ _ _ ?_
          unfold lb_X8_farOf_16
          refine br_t (by rw [zI_lt (by omega)]; omega) ?_
          rw [zl1, zI_add]
          refine ih (i + 1) (by omega) G'' ag2 (fun i' j' hi' hj' => ?_)
          by_cases w : i' = i
          · subst w; exact h2 j' (by omega)
          · exact h1 i' j' (by omega) hj'
        | succ g ih2 =>
          intro j hj G'' ag2 h1 h2
          refine K16 _ _ _ _ _ _ _ ?_
          unfold lb_X8_farOf_16
          refine br_f (by rw [zI_lt (by omega)]; omega) ?_
          have fin : ∀ v : Int, v = edR t x y i j → j_X8_farOf_156 post P7 P16 (zI n) (zI m) (hdI hd) (zI 21) (zI i) (zI j) (zI v) G'' := by
            intro v hv
            unfold j_X8_farOf_156
            rw [zI_mul, zI_add]
            refine ⟨zI_in (by omega), ?_⟩
            rintro _ rfl
            rw [zI_cl (by omega), show ((21 : Int) * (i : Int) + (j : Int)).toNat = 21 * i + j by omega, zl1, zI_add]
            refine ih2 (j + 1) (by omega) _ (ag2.up ⟨rfl, rfl⟩) (fun i' j' hi' hj' => ?_) (fun j' hj' => ?_)
            · rw [gs_eq]
              unfold upd
              rw [if_neg (by omega)]
              exact h1 i' j' hi' hj'
            · rw [gs_eq]
              unfold upd
              by_cases w : j' = j
              · rw [if_pos (by omega), w, hv]
              · rw [if_neg (by omega)]
                exact h2 j' (by omega)
          by_cases i0 : i = 0
          · subst i0
            refine br_t rfl ?_
            by_cases j0 : j = 0
            · subst j0
              refine br_t rfl ?_
              unfold j_X8_farOf_38
              refine br_t (by decide) ?_
              unfold j_X8_farOf_69
              refine br_t (by decide) ?_
              unfold j_X8_farOf_98
              refine br_t (by decide) ?_
              exact fin 0 rfl
            · refine br_f (by rw [zl0, zI_eq (by omega)]; omega) ?_
              unfold j_X8_farOf_36 j_X8_farOf_38
              refine br_t (by decide) ?_
              unfold j_X8_farOf_69
              refine br_f (by rw [zl0, zI_le (by omega)]; omega) ?_
              rw [zI_mul, zI_add, zl1, zI_sub]
              refine ⟨zI_in (by omega), ?_⟩
              have := h2 (j - 1) (by omega)
              rw [zI_cl (by omega), show ((21 : Int) * ((0 : Nat) : Int) + (j : Int) - 1).toNat = 21 * 0 + (j - 1) by omega, this, zl2, zI_add, show (1000000 : Int32) = zI 1000000 from rfl]
              have e1 : edR t x y 0 (j - 1) = 2 * (j - 1) := rfl
              have e2 : edR t x y 0 j = 2 * j := rfl
              rw [zI_min (by omega)]
              rintro _ rfl
              unfold j_X8_farOf_98
              refine br_t (by decide) ?_
              exact fin _ (by omega)
          · refine br_f (by rw [zl0, zI_eq (by omega)]; omega) ?_
            unfold j_X8_farOf_36 j_X8_farOf_38
            refine br_f (by rw [zl0, zI_le (by omega)]; omega) ?_
            rw [zl1, zI_sub, zI_mul, zI_add]
            refine ⟨zI_in (by omega), ?_⟩
            have u1 := h1 (i - 1) j (by omega) (by omega)
            have b1 := edR_le t x y (i - 1) j
            rw [zI_cl (by omega), show ((21 : Int) * ((i : Int) - 1) + (j : Int)).toNat = 21 * (i - 1) + j by omega, u1, zl2, zI_add, show (1000000 : Int32) = zI 1000000 from rfl, zI_min (by omega)]
            rintro _ rfl
            unfold j_X8_farOf_69
            by_cases j0 : j = 0
            · subst j0
              refine br_t (by decide) ?_
              unfold j_X8_farOf_98
              refine br_f (by rw [zl0, zI_le (by omega)]; omega) ?_
              refine br_t (by decide) ?_
              have e1 := edR_0 t x y (i - 1)
              have e2 := edR_0 t x y i
              exact fin _ (by omega)
            · refine br_f (by rw [zl0, zI_le (by omega)]; omega) ?_
              rw [zI_mul, zI_add, zl1, zI_sub]
              refine ⟨zI_in (by omega), ?_⟩
              have u2 := h2 (j - 1) (by omega)
              have b2 := edR_le t x y i (j - 1)
              rw [zI_cl (by omega), show ((21 : Int) * (i : Int) + (j : Int) - 1).toNat = 21 * i + (j - 1) by omega, u2, zl2, zI_add, zI_min (by omega)]
              rintro _ rfl
              unfold j_X8_farOf_98
              refine br_f (by rw [zl0, zI_le (by omega)]; omega) ?_
              refine br_f (by rw [zl0, zI_le (by omega)]; omega) ?_
              rw [zl1, zI_sub, zI_mul, zI_add, zI_sub, zI_sub]
              refine ⟨zI_in (by omega), zI_in (by omega), zI_in (by omega), ?_⟩
              have u3 := h1 (i - 1) (j - 1) (by omega) (by omega)
              have b3 := edR_le t x y (i - 1) (j - 1)
              rw [zI_cl (by omega), zI_cl (by omega), zI_cl (by omega), show ((21 : Int) * ((i : Int) - 1) + (j : Int) - 1).toNat = 21 * (i - 1) + (j - 1) by omega, show ((i : Int) - 1).toNat = i - 1 by omega, show ((j : Int) - 1).toNat = j - 1 by omega, u3, ra G'' ag2, rb G'' ag2, gx (i - 1) (by omega), gy (j - 1) (by omega)]
              refine wM_changeOf (by rw [ht]; exact hx _ (by omega)) (by rw [ht]; exact hy _ (by omega)) ?_
              rw [ht]
              have hc2 := cgt_le t (x (i - 1)) (y (j - 1))
              rw [zI_add, zI_min (by omega)]
              rintro _ rfl
              have es := edR_s t x y (i - 1) (j - 1)
              rw [show i - 1 + 1 = i by omega, show j - 1 + 1 = j by omega] at es
              have bs := edR_le t x y i j
              exact fin _ (by omega)
      exact cols (m + 1) 0 (by omega) G' ag hc (fun j' hj' => by omega)
  exact rows (n + 1) 0 (by omega) G (Ag.rf G) (fun i' j hi' => by omega)
set_option maxHeartbeats 1000000 in
theorem wM_likenessOf (hn : n ≤ 20) (hm : m ≤ 20) (hx : ∀ i, i < n → x i < klen (tOf hd)) (hy : ∀ j, j < m → y j < klen (tOf hd)) (gx : ∀ i, i < n → G 24 11 i = zI ((x i + off hd : Nat) : Int)) (gy : ∀ j, j < m → G 24 12 j = zI ((y j + off hd : Nat) : Int))
    (hp : ∀ G', Ag (W8 24 13) G G' → post (zI (lkn (tOf hd) x y n m)) G') : wp_X8_likenessOf post (zI n) (zI m) (hdI hd) G := by
  unfold wp_X8_likenessOf
  rw [zI_max (by omega)]
  rintro _ rfl
  refine br_c (fun q => ?_) (fun q => ?_)
  · rw [zl0, zI_eq (by omega)] at q
    have := hp G (Ag.rf G)
    unfold lkn at this
    rw [if_pos (by omega)] at this
    exact this
  · refine wM_farOf hn hm hx hy gx gy (fun G' ag => ⟨q, ?_⟩)
    rw [zl0, zI_eq (by omega)] at q
    have := hp G' ag
    unfold lkn at this
    rw [if_neg (by omega)] at this
    have hle := edR_le (tOf hd) x y n m
    rw [zl50, zI_mul, zI_add, zl1, zI_sub, zI_div (by omega), zl100, zI_sub]
    have e : ((max n m : Nat) : Int) = max (n : Int) (m : Int) := by omega
    rw [e] at this
    exact this
end
