/-! ===== how far two rows are apart ===== -/
def ktb (t a : Nat) : Nat := if t = 3 then [0, 8, 16400, 2, 4, 0, 0, 0, 2560, 256, 0, 256, 8192, 4096, 4, 65536, 32768, 0, 0, 0, 2097152, 1048576, 0, 0, 0, 0].getD a 0 else [0, 64, 256, 128, 32, 16, 2, 8, 516, 256].getD a 0
def klen (t : Nat) : Nat := if t = 3 then 26 else 10
def cgt (t a b : Nat) : Nat := if a = b then 0 else if (ktb t a).testBit b then 1 else 2
def edI (prev c : Nat → Nat) (i : Nat) : Nat → Nat
  | 0 => 2 * (i + 1)
  | j + 1 => min (prev j + c j) (min (edI prev c i j) (prev (j + 1)) + 2)
def edR (t : Nat) (x y : Nat → Nat) : Nat → Nat → Nat
  | 0 => fun j => 2 * j
  | i + 1 => edI (edR t x y i) (fun j => cgt t (x i) (y j)) i
theorem cgt_le (t a b : Nat) : cgt t a b ≤ 2 := by
  unfold cgt
  repeat' split
  all_goals omega
theorem edR_s (t : Nat) (x y : Nat → Nat) (i j : Nat) : edR t x y (i + 1) (j + 1) = min (edR t x y i j + cgt t (x i) (y j)) (min (edR t x y (i + 1) j) (edR t x y i (j + 1)) + 2) := rfl
theorem edR_0 (t : Nat) (x y : Nat → Nat) (i : Nat) : edR t x y i 0 = 2 * i := by
  cases i <;> rfl
theorem edR_le (t : Nat) (x y : Nat → Nat) : ∀ i j, edR t x y i j ≤ 2 * (i + j)
  | 0, j => by
    show 2 * j ≤ _
    omega
  | i + 1, 0 => by
    rw [edR_0]
    omega
  | i + 1, j + 1 => by
    have h1 := edR_le t x y i (j + 1)
    rw [edR_s]
    omega
theorem edR_sym {t : Nat} {x y : Nat → Nat} {n m : Nat} (hc : ∀ i j, i < n → j < m → cgt t (x i) (y j) = cgt t (y j) (x i)) : ∀ i j, i ≤ n → j ≤ m → edR t x y i j = edR t y x j i
  | 0, j, _, _ => by
    rw [edR_0]
    rfl
  | i + 1, 0, _, _ => by
    rw [edR_0]
    rfl
  | i + 1, j + 1, hi, hj => by
    have h1 := edR_sym hc i j (by omega) (by omega)
    have h2 := edR_sym hc i (j + 1) (by omega) (by omega)
    have h3 := edR_sym hc (i + 1) j (by omega) (by omega)
    rw [edR_s, edR_s, h1, h2, h3, hc i j (by omega) (by omega), Nat.min_comm (edR t y x j (i + 1))]
theorem edR_cg {t : Nat} {x y x' y' : Nat → Nat} {n m : Nat} (hx : ∀ i, i < n → x i = x' i) (hy : ∀ j, j < m → y j = y' j) : ∀ i j, i ≤ n → j ≤ m → edR t x y i j = edR t x' y' i j
  | 0, j, _, _ => rfl
  | i + 1, 0, _, _ => by
    rw [edR_0, edR_0]
  | i + 1, j + 1, hi, hj => by
    have h1 := edR_cg (t := t) hx hy i j (by omega) (by omega)
    have h2 := edR_cg (t := t) hx hy i (j + 1) (by omega) (by omega)
    have h3 := edR_cg (t := t) hx hy (i + 1) j (by omega) (by omega)
    rw [edR_s, edR_s, h1, h2, h3, hx i (by omega), hy j (by omega)]
def lkn (t : Nat) (x y : Nat → Nat) (n m : Nat) : Int := if max n m = 0 then 100 else 100 - (50 * (edR t x y n m : Int) + (max n m : Nat) - 1) / ((max n m : Nat) : Int)
theorem kt_sym3 {a b : Nat} (ha : a < 26) (hb : b < 26) : cgt 3 a b = cgt 3 b a := (by decide +kernel : ∀ a b : Fin 26, cgt 3 a.val b.val = cgt 3 b.val a.val) ⟨a, ha⟩ ⟨b, hb⟩
theorem kt_sym4 {a b : Nat} (ha : a < 10) (hb : b < 10) : cgt 4 a b = cgt 4 b a := (by decide +kernel : ∀ a b : Fin 10, cgt 4 a.val b.val = cgt 4 b.val a.val) ⟨a, ha⟩ ⟨b, hb⟩
theorem kt_sym {t a b : Nat} (ht : t = 3 ∨ t = 4) (ha : a < klen t) (hb : b < klen t) : cgt t a b = cgt t b a := by
  rcases ht with rfl | rfl
  · exact kt_sym3 ha hb
  · exact kt_sym4 ha hb
theorem lkn_sym {t : Nat} {x y : Nat → Nat} {n m : Nat} (ht : t = 3 ∨ t = 4) (hx : ∀ i, i < n → x i < klen t) (hy : ∀ j, j < m → y j < klen t) : lkn t x y n m = lkn t y x m n := by
  unfold lkn
  rw [edR_sym (n := n) (m := m) (fun i j hi hj => kt_sym ht (hx i hi) (hy j hj)) n m (Nat.le_refl _) (Nat.le_refl _), Nat.max_comm]
theorem lkn_rg (t : Nat) (x y : Nat → Nat) (n m : Nat) (hn : n ≤ 20) (hm : m ≤ 20) : -4000 ≤ lkn t x y n m ∧ lkn t x y n m ≤ 100 := by
  unfold lkn
  split
  · omega
  · have h := edR_le t x y n m
    have h0 : (0 : Int) ≤ (50 * (edR t x y n m : Int) + (max n m : Nat) - 1) / ((max n m : Nat) : Int) := Int.ediv_nonneg (by omega) (by omega)
    have h1 : (50 * (edR t x y n m : Int) + (max n m : Nat) - 1) / ((max n m : Nat) : Int) ≤ 50 * (edR t x y n m : Int) + (max n m : Nat) - 1 := Int.ediv_le_self _ (by omega)
    omega
theorem tb34 {t a : Nat} (ht : t = 3 ∨ t = 4) (ha : a < klen t) : (sTb t).getD a 0 = zI (ktb t a) ∧ ktb t a < 2147483648 := by
  rcases ht with rfl | rfl
  · exact (by decide +kernel : ∀ a : Fin 26, (sTb 3).getD a.val 0 = zI (ktb 3 a.val) ∧ ktb 3 a.val < 2147483648) ⟨a, ha⟩
  · exact (by decide +kernel : ∀ a : Fin 10, (sTb 4).getD a.val 0 = zI (ktb 4 a.val) ∧ ktb 4 a.val < 2147483648) ⟨a, ha⟩
theorem tl34 {t : Nat} (ht : t = 3 ∨ t = 4) : (sTb t).length = klen t := by
  rcases ht with rfl | rfl <;> rfl
def W8 (o c : Nat) (a b _j : Nat) : Prop := a = o ∧ b = c
section
variable {G : GH} {o o1 k1 m1 t a b n m : Nat} {x y : Nat → Nat} {post : Int32 → GH → Prop}
set_option maxHeartbeats 2000000 in
theorem wI_farOf (ht : t = 3 ∨ t = 4) (hne : ¬ (o1 = o ∧ k1 = 8)) (hm1 : m1 ≤ 260) (hn : n ≤ 20) (hm : m ≤ 20) (han : a + n ≤ m1) (hbm : b + m ≤ m1) (hx : ∀ i, i < n → x i < klen t) (hy : ∀ j, j < m → y j < klen t) (gx : ∀ i, i < n → G o1 k1 (a + i) = zI (x i)) (gy : ∀ j, j < m → G o1 k1 (b + j) = zI (y j))
    (hp : ∀ G', Ag (W8 o 8) G G' → post (zI (edR t x y n m)) G') : wp_X1_farOf post o o1 k1 m1 t (zI a) (zI n) (zI b) (zI m) G := by
  have hk : klen t ≤ 26 := by rcases ht with rfl | rfl <;> decide
  have rd : ∀ G', Ag (W8 o 8) G G' → ∀ j, G' o1 k1 j = G o1 k1 j := fun G' ag j => ag o1 k1 j hne
  unfold wp_X1_farOf
  have rows : ∀ f i : Nat, i + f = n → ∀ G', Ag (W8 o 8) G G' → (∀ j, j ≤ m → G' o 8 j = zI (edR t x y i j)) → lp_X1_farOf_30 post o o1 k1 m1 t (zI a) (zI n) (zI b) (zI m) (zI i) G' := by
    intro f
    induction f with
    | zero =>
      intro i hi G' ag hc
      intro P30 K30
      refine K30 _ _ _ _ _ _ ?_
      unfold lb_X1_farOf_30
      refine br_t (by rw [zI_le (by omega)]; omega) ?_
      refine ⟨zI_in (by omega), ?_⟩
      have : i = n := by omega
      subst this
      rw [zI_clN (by omega), hc m (Nat.le_refl _)]
      exact hp G' ag
    | succ f ih =>
      intro i hi G' ag hc
      intro P30 K30
      refine K30 _ _ _ _ _ _ ?_
      unfold lb_X1_farOf_30
      refine br_f (by rw [zI_le (by omega)]; omega) ?_
      have hxi := hx i (by omega)
      rw [zI_add]
      refine ⟨zI_in (by omega), ?_⟩
      rw [zI_cl (by omega), show ((a : Int) + (i : Int)).toNat = a + i by omega, rd G' ag, gx i (by omega), zI_nb (by omega)]
      rintro _ rfl
      rw [tl34 ht]
      refine ⟨zI_in (by omega), ?_⟩
      rw [zI_clN (by omega), (tb34 ht hxi).1]
      rintro _ rfl
      have htl := (tb34 ht hxi).2
      rintro _ rfl
      rintro _ rfl
      rw [hc 0 (by omega), zl2, zl1, zI_add, zI_mul]
      intro P74 K74
      have cols : ∀ g j : Nat, j + g = m → ∀ G'', Ag (W8 o 8) G G'' → (∀ j', j' ≤ m → G'' o 8 j' = zI (if j' ≤ j then edR t x y (i + 1) j' else edR t x y i j')) → P74 (zI a) (zI n) (zI b) (zI m) (zI i) (zI (x i)) (zI (ktb t (x i))) (zI (edR t x y i j)) (zI j) G'' := by
        intro g
        induction g with
        | zero =>
          intro j hj G'' ag2 hc2
          refine K74 _ _ _ _ _ _ _ _ _ _ ?_
          unfold lb_X1_farOf_74
          refine br_t (by rw [zI_le (by omega)]; omega) ?_
          rw [zl1, zI_add]
          exact ih (i + 1) (by omega) G'' ag2 (fun j' hj' => by rw [hc2 j' hj', if_pos (by omega)]) P30 K30
        | succ g ih2 =>
          intro j hj G'' ag2 hc2
          have hyj := hy j (by omega)
          have b1 := edR_le t x y i j
          have b2 := edR_le t x y (i + 1) j
          have b3 := edR_le t x y i (j + 1)
          refine K74 _ _ _ _ _ _ _ _ _ _ ?_
          unfold lb_X1_farOf_74
          refine br_f (by rw [zI_le (by omega)]; omega) ?_
          rw [zI_add]
          refine ⟨zI_in (by omega), ?_⟩
          rw [zI_cl (by omega), show ((b : Int) + (j : Int)).toNat = b + j by omega, rd G'' ag2, gy j (by omega), zI_nb (by omega)]
          rintro _ rfl
          have fin : ∀ v : Nat, v = cgt t (x i) (y j) → j_X1_farOf_116 post P30 P74 o o1 k1 m1 t (zI a) (zI n) (zI b) (zI m) (zI i) (zI (x i)) (zI (ktb t (x i))) (zI (edR t x y i j)) (zI j) (zI v) G'' := by
            intro v hv
            have hv2 := cgt_le t (x i) (y j)
            unfold j_X1_farOf_116
            rw [zl1, zI_add]
            refine ⟨zI_in (by omega), zI_in (by omega), ?_⟩
            rw [zI_clN (by omega), zI_cl (by omega), show ((j : Int) + 1).toNat = j + 1 by omega, hc2 j (by omega), hc2 (j + 1) (by omega), if_pos (Nat.le_refl _), if_neg (by omega), zI_min (by omega), zl2, zI_add, zI_add, zI_min (by omega)]
            rintro _ rfl
            refine ⟨zI_in (by omega), ?_⟩
            rintro _ rfl
            refine ⟨zI_in (by omega), ?_⟩
            rintro _ rfl
            refine ih2 (j + 1) (by omega) _ (ag2.up ⟨rfl, rfl⟩) (fun j' hj' => ?_)
            rw [gs_eq]
            unfold upd
            by_cases w : j' = j + 1
            · rw [if_pos w, w, if_pos (Nat.le_refl _), edR_s]
              exact zI_cg (by omega)
            · rw [if_neg w, hc2 j' hj']
              by_cases w2 : j' ≤ j
              · rw [if_pos w2, if_pos (by omega)]
              · rw [if_neg w2, if_neg (by omega)]
          refine br_c (fun q => ?_) (fun q => ?_)
          · rw [zI_eq (by omega)] at q
            exact fin 0 (by unfold cgt; rw [if_pos (by omega)])
          · rw [zI_eq (by omega)] at q
            rw [wI_isIn (by omega) htl]
            by_cases w : (ktb t (x i)).testBit (y j) = true
            · refine br_bt w ?_
              exact fin 1 (by unfold cgt; rw [if_neg (by omega), if_pos w])
            · refine br_bf (by simpa using w) ?_
              exact fin 2 (by unfold cgt; rw [if_neg (by omega), if_neg w])
      refine cols m 0 (by omega) _ (ag.up ⟨rfl, rfl⟩) (fun j' hj' => ?_)
      rw [gs_eq]
      unfold upd
      by_cases w : j' = 0
      · rw [if_pos w, w, if_pos (Nat.le_refl _), edR_0]
        exact zI_cg (by omega)
      · rw [if_neg w, if_neg (by omega)]
        exact hc j' hj'
  intro P3 K3
  have ini : ∀ f j : Nat, j + f = m + 1 → ∀ G', Ag (W8 o 8) G G' → (∀ j', j' < j → G' o 8 j' = zI ((2 * j' : Nat) : Int)) → P3 (zI a) (zI n) (zI b) (zI m) (zI j) G' := by
    intro f
    induction f with
    | zero =>
      intro j hj G' ag hc
      refine K3 _ _ _ _ _ _ ?_
      unfold lb_X1_farOf_3
      refine br_t (by rw [zI_lt (by omega)]; omega) ?_
      exact rows n 0 (by omega) G' ag (fun j' hj' => hc j' (by omega))
    | succ f ih =>
      intro j hj G' ag hc
      refine K3 _ _ _ _ _ _ ?_
      unfold lb_X1_farOf_3
      refine br_f (by rw [zI_lt (by omega)]; omega) ?_
      refine ⟨zI_in (by omega), ?_⟩
      rintro _ rfl
      rw [zI_clN (by omega), zl2, zI_mul, zl1, zI_add]
      refine ih (j + 1) (by omega) _ (ag.up ⟨rfl, rfl⟩) (fun j' hj' => ?_)
      rw [gs_eq]
      unfold upd
      by_cases w : j' = j
      · rw [if_pos w, w]
        exact zI_cg (by omega)
      · rw [if_neg w]
        exact hc j' (by omega)
  exact ini (m + 1) 0 (by omega) G (Ag.rf G) (fun j' hj' => by omega)
set_option maxHeartbeats 1000000 in
theorem wI_likenessOf (ht : t = 3 ∨ t = 4) (hne : ¬ (o1 = o ∧ k1 = 8)) (hm1 : m1 ≤ 260) (hn : n ≤ 20) (hm : m ≤ 20) (han : a + n ≤ m1) (hbm : b + m ≤ m1) (hx : ∀ i, i < n → x i < klen t) (hy : ∀ j, j < m → y j < klen t) (gx : ∀ i, i < n → G o1 k1 (a + i) = zI (x i)) (gy : ∀ j, j < m → G o1 k1 (b + j) = zI (y j))
    (hp : ∀ G', Ag (W8 o 8) G G' → post (zI (lkn t x y n m)) G') : wp_X1_likenessOf post o o1 k1 m1 t (zI a) (zI n) (zI b) (zI m) G := by
  unfold wp_X1_likenessOf
  rw [zI_max (by omega)]
  rintro _ rfl
  refine br_c (fun q => ?_) (fun q => ?_)
  · rw [zl0, zI_eq (by omega)] at q
    have := hp G (Ag.rf G)
    unfold lkn at this
    rw [if_pos (by omega)] at this
    exact this
  · refine wI_farOf ht hne hm1 hn hm han hbm hx hy gx gy (fun G' ag => ⟨q, ?_⟩)
    rw [zl0, zI_eq (by omega)] at q
    have := hp G' ag
    unfold lkn at this
    rw [if_neg (by omega)] at this
    have hle := edR_le t x y n m
    rw [zl50, zI_mul, zI_add, zl1, zI_sub, zI_div (by omega), zl100, zI_sub]
    have e : ((max n m : Nat) : Int) = max (n : Int) (m : Int) := by omega
    rw [e] at this
    exact this
end
