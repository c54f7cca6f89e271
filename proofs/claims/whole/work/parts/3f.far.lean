/-! ===== how far two rows are apart ===== -/
def ktb (t a : Nat) : Nat := if t = 3 then [0, 8, 16400, 2, 4, 0, 0, 0, 2560, 256, 0, 256, 8192, 4096, 4, 65536, 32768, 0, 0, 0, 2097152, 1048576, 0, 0, 0, 0].getD a 0 else [0, 64, 256, 128, 32, 16, 2, 8, 516, 256].getD a 0
def klen (t : Nat) : Nat := if t = 3 then 26 else 10
def cgt (t a b : Nat) : Nat := if a = b then 0 else if (ktb t a).testBit b then 1 else 2
def edI (prev c : Nat → Nat) (i : Nat) : Nat → Nat
  | 0 => 2 * (i + 1)
  | j + 1 => min (prev j + c j) (min (edI prev c i j) (prev (j + 1)) + 2)
def edR (t : Nat) (x y : Nat → Nat) : Nat → Nat → Nat
  | 0 => fun j => 2 * j
  | i + 1 => edI (edR t x y i) (fun j => cgt t (x i) (y j)) i
theorem cgt_le (t a b : Nat) : cgt t a b ≤ 2 := by
  unfold cgt
  repeat' split
  all_goals omega
theorem edR_s (t : Nat) (x y : Nat → Nat) (i j : Nat) : edR t x y (i + 1) (j + 1) = min (edR t x y i j + cgt t (x i) (y j)) (min (edR t x y (i + 1) j) (edR t x y i (j + 1)) + 2) := rfl
theorem edR_0 (t : Nat) (x y : Nat → Nat) (i : Nat) : edR t x y i 0 = 2 * i := by
  cases i <;> rfl
theorem edR_le (t : Nat) (x y : Nat → Nat) : ∀ i j, edR t x y i j ≤ 2 * (i + j)
  | 0, j => by
    show 2 * j ≤ _
    omega
  | i + 1, 0 => by
    rw [edR_0]
    omega
  | i + 1, j + 1 => by
    have h1 := edR_le t x y i (j + 1)
    rw [edR_s]
    omega
theorem edR_sym {t : Nat} {x y : Nat → Nat} {n m : Nat} (hc : ∀ i j, i < n → j < m → cgt t (x i) (y j) = cgt t (y j) (x i)) : ∀ i j, i ≤ n → j ≤ m → edR t x y i j = edR t y x j i
  | 0, j, _, _ => by
    rw [edR_0]
    rfl
  | i + 1, 0, _, _ => by
    rw [edR_0]
    rfl
  | i + 1, j + 1, hi, hj => by
    have h1 := edR_sym hc i j (by omega) (by omega)
    have h2 := edR_sym hc i (j + 1) (by omega) (by omega)
    have h3 := edR_sym hc (i + 1) j (by omega) (by omega)
    rw [edR_s, edR_s, h1, h2, h3, hc i j (by omega) (by omega), Nat.min_comm (edR t y x j (i + 1))]
theorem edR_cg {t : Nat} {x y x' y' : Nat → Nat} {n m : Nat} (hx : ∀ i, i < n → x i = x' i) (hy : ∀ j, j < m → y j = y' j) : ∀ i j, i ≤ n → j ≤ m → edR t x y i j = edR t x' y' i j
  | 0, j, _, _ => rfl
  | i + 1, 0, _, _ => by
    rw [edR_0, edR_0]
  | i + 1, j + 1, hi, hj => by
    have h1 := edR_cg (t := t) hx hy i j (by omega) (by omega)
    have h2 := edR_cg (t := t) hx hy i (j + 1) (by omega) (by omega)
    have h3 := edR_cg (t := t) hx hy (i + 1) j (by omega) (by omega)
    rw [edR_s, edR_s, h1, h2, h3, hx i (by omega), hy j (by omega)]
theorem edR_u1 (t : Nat) (x y : Nat → Nat) (i : Nat) : ∀ j, edR t x y (i + 1) j ≤ edR t x y i j + 2
  | 0 => by
    rw [edR_0, edR_0]
    omega
  | j + 1 => by
    rw [edR_s]
    omega
theorem edR_u2 (t : Nat) (x y : Nat → Nat) (j : Nat) : ∀ i, edR t x y i (j + 1) ≤ edR t x y i j + 2
  | 0 => by
    show 2 * (j + 1) ≤ 2 * j + 2
    omega
  | i + 1 => by
    rw [edR_s]
    omega
theorem edR_l1 (t : Nat) (x y : Nat → Nat) (i : Nat) : ∀ j, edR t x y i j ≤ edR t x y (i + 1) j + 2
  | 0 => by
    rw [edR_0, edR_0]
    omega
  | j + 1 => by
    have h1 := edR_l1 t x y i j
    have h2 := edR_u2 t x y j i
    rw [edR_s]
    omega
theorem edR_l2 (t : Nat) (x y : Nat → Nat) (j : Nat) : ∀ i, edR t x y i j ≤ edR t x y i (j + 1) + 2
  | 0 => by
    show 2 * j ≤ 2 * (j + 1) + 2
    omega
  | i + 1 => by
    have h1 := edR_l2 t x y j i
    have h2 := edR_u1 t x y i j
    rw [edR_s]
    omega
theorem edR_d {t : Nat} {x y : Nat → Nat} {i j : Nat} (h : x i = y j) : edR t x y (i + 1) (j + 1) = edR t x y i j := by
  have h1 := edR_l1 t x y i j
  have h2 := edR_l2 t x y j i
  have h3 : cgt t (x i) (y j) = 0 := by
    unfold cgt
    rw [if_pos h]
  rw [edR_s, h3]
  omega
theorem edR_p1 {t : Nat} {x y : Nat → Nat} (h : x 0 = y 0) : ∀ i j, edR t x y (i + 1) (j + 1) = edR t (fun l => x (l + 1)) (fun l => y (l + 1)) i j
  | 0, 0 => by
    rw [edR_d h]
    rfl
  | 0, j + 1 => by
    have h1 := edR_p1 (t := t) h 0 j
    have h2 : edR t (fun l => x (l + 1)) (fun l => y (l + 1)) 0 j = 2 * j := rfl
    have h3 : edR t (fun l => x (l + 1)) (fun l => y (l + 1)) 0 (j + 1) = 2 * (j + 1) := rfl
    have h4 : edR t x y 0 (j + 1) = 2 * (j + 1) := rfl
    have h5 : edR t x y 0 (j + 1 + 1) = 2 * (j + 1 + 1) := rfl
    rw [edR_s, h1, h2, h3, h4, h5]
    omega
  | i + 1, 0 => by
    have h1 := edR_p1 (t := t) h i 0
    rw [edR_0] at h1
    have h3 : edR t (fun l => x (l + 1)) (fun l => y (l + 1)) (i + 1) 0 = 2 * (i + 1) := edR_0 _ _ _ _
    rw [h3, edR_s, h1, edR_0, edR_0]
    omega
  | i + 1, j + 1 => by
    have h1 := edR_p1 (t := t) h i j
    have h2 := edR_p1 (t := t) h i (j + 1)
    have h3 := edR_p1 (t := t) h (i + 1) j
    rw [edR_s, h1, h2, h3, edR_s]
theorem edR_pk {t : Nat} : ∀ (k : Nat) (x y : Nat → Nat) (i j : Nat), (∀ l, l < k → x l = y l) → edR t x y (i + k) (j + k) = edR t (fun l => x (k + l)) (fun l => y (k + l)) i j
  | 0, x, y, i, j, _ => by
    have e1 : (fun l => x (0 + l)) = x := funext (fun l => by rw [Nat.zero_add])
    have e2 : (fun l => y (0 + l)) = y := funext (fun l => by rw [Nat.zero_add])
    rw [e1, e2]
    rfl
  | k + 1, x, y, i, j, h => by
    have h1 := edR_p1 (t := t) (h 0 (by omega)) (i + k) (j + k)
    have h2 := edR_pk (t := t) k (fun l => x (l + 1)) (fun l => y (l + 1)) i j (fun l hl => h (l + 1) (by omega))
    have e1 : (fun l => x (k + 1 + l)) = (fun l => x (k + l + 1)) := funext (fun l => by rw [show k + 1 + l = k + l + 1 by omega])
    have e2 : (fun l => y (k + 1 + l)) = (fun l => y (k + l + 1)) := funext (fun l => by rw [show k + 1 + l = k + l + 1 by omega])
    rw [e1, e2]
    exact h1.trans h2
theorem edR_sk {t : Nat} {x y : Nat → Nat} : ∀ (q n m : Nat), q ≤ n → q ≤ m → (∀ l, l < q → x (n - 1 - l) = y (m - 1 - l)) → edR t x y n m = edR t x y (n - q) (m - q)
  | 0, n, m, _, _, _ => rfl
  | q + 1, n, m, hn, hm, h => by
    have h0 : x (n - 1) = y (m - 1) := h 0 (by omega)
    obtain ⟨n', rfl⟩ : ∃ n', n = n' + 1 := ⟨n - 1, by omega⟩
    obtain ⟨m', rfl⟩ : ∃ m', m = m' + 1 := ⟨m - 1, by omega⟩
    have h1 := edR_sk (t := t) (x := x) (y := y) q n' m' (by omega) (by omega) (fun l hl => by
      have := h (l + 1) (by omega)
      rw [show n' + 1 - 1 - (l + 1) = n' - 1 - l by omega, show m' + 1 - 1 - (l + 1) = m' - 1 - l by omega] at this
      exact this)
    have h0 : x n' = y m' := h0
    rw [edR_d h0, h1, show n' + 1 - (q + 1) = n' - q by omega, show m' + 1 - (q + 1) = m' - q by omega]
theorem edR_cut {t : Nat} {x y : Nat → Nat} {n m k q : Nat} (hn : k + q ≤ n) (hm : k + q ≤ m) (hk : ∀ l, l < k → x l = y l) (hq : ∀ l, l < q → x (n - 1 - l) = y (m - 1 - l)) : edR t (fun l => x (k + l)) (fun l => y (k + l)) (n - (k + q)) (m - (k + q)) = edR t x y n m := by
  have h1 := edR_sk (t := t) q n m (by omega) (by omega) hq
  have h2 := edR_pk (t := t) k x y (n - (k + q)) (m - (k + q)) hk
  rw [show n - (k + q) + k = n - q by omega, show m - (k + q) + k = m - q by omega] at h2
  rw [h1, ← h2]
def lkn (t : Nat) (x y : Nat → Nat) (n m : Nat) : Int := if max n m = 0 then 100 else 100 - (50 * (edR t x y n m : Int) + (max n m : Nat) - 1) / ((max n m : Nat) : Int)
theorem kt_sym3 {a b : Nat} (ha : a < 26) (hb : b < 26) : cgt 3 a b = cgt 3 b a := (by decide +kernel : ∀ a b : Fin 26, cgt 3 a.val b.val = cgt 3 b.val a.val) ⟨a, ha⟩ ⟨b, hb⟩
theorem kt_sym4 {a b : Nat} (ha : a < 10) (hb : b < 10) : cgt 4 a b = cgt 4 b a := (by decide +kernel : ∀ a b : Fin 10, cgt 4 a.val b.val = cgt 4 b.val a.val) ⟨a, ha⟩ ⟨b, hb⟩
theorem kt_sym {t a b : Nat} (ht : t = 3 ∨ t = 4) (ha : a < klen t) (hb : b < klen t) : cgt t a b = cgt t b a := by
  rcases ht with rfl | rfl
  · exact kt_sym3 ha hb
  · exact kt_sym4 ha hb
theorem lkn_sym {t : Nat} {x y : Nat → Nat} {n m : Nat} (ht : t = 3 ∨ t = 4) (hx : ∀ i, i < n → x i < klen t) (hy : ∀ j, j < m → y j < klen t) : lkn t x y n m = lkn t y x m n := by
  unfold lkn
  rw [edR_sym (n := n) (m := m) (fun i j hi hj => kt_sym ht (hx i hi) (hy j hj)) n m (Nat.le_refl _) (Nat.le_refl _), Nat.max_comm]
theorem lkn_rg (t : Nat) (x y : Nat → Nat) (n m : Nat) (hn : n ≤ 20) (hm : m ≤ 20) : -4000 ≤ lkn t x y n m ∧ lkn t x y n m ≤ 100 := by
  unfold lkn
  split
  · omega
  · have h := edR_le t x y n m
    have h0 : (0 : Int) ≤ (50 * (edR t x y n m : Int) + (max n m : Nat) - 1) / ((max n m : Nat) : Int) := Int.ediv_nonneg (by omega) (by omega)
    have h1 : (50 * (edR t x y n m : Int) + (max n m : Nat) - 1) / ((max n m : Nat) : Int) ≤ 50 * (edR t x y n m : Int) + (max n m : Nat) - 1 := Int.ediv_le_self _ (by omega)
    omega
theorem tb34 {t a : Nat} (ht : t = 3 ∨ t = 4) (ha : a < klen t) : (sTb t).getD a 0 = zI (ktb t a) ∧ ktb t a < 2147483648 := by
  rcases ht with rfl | rfl
  · exact (by decide +kernel : ∀ a : Fin 26, (sTb 3).getD a.val 0 = zI (ktb 3 a.val) ∧ ktb 3 a.val < 2147483648) ⟨a, ha⟩
  · exact (by decide +kernel : ∀ a : Fin 10, (sTb 4).getD a.val 0 = zI (ktb 4 a.val) ∧ ktb 4 a.val < 2147483648) ⟨a, ha⟩
theorem tl34 {t : Nat} (ht : t = 3 ∨ t = 4) : (sTb t).length = klen t := by
  rcases ht with rfl | rfl <;> rfl
def W8 (o c : Nat) (a b _j : Nat) : Prop := a = o ∧ b = c
section
variable {G : GH} {o o1 k1 m1 t a b n m : Nat} {x y : Nat → Nat} {post : Int32 → GH → Prop}
set_option maxHeartbeats 2000000 in
theorem wI_costOf (ht : t = 3 ∨ t = 4) (hne : ¬ (o1 = o ∧ k1 = 8)) (hm1 : m1 ≤ 260) (hn : n ≤ 20) (hm : m ≤ 20) (han : a + n ≤ m1) (hbm : b + m ≤ m1) (hx : ∀ i, i < n → x i < klen t) (hy : ∀ j, j < m → y j < klen t) (gx : ∀ i, i < n → G o1 k1 (a + i) = zI (x i)) (gy : ∀ j, j < m → G o1 k1 (b + j) = zI (y j))
    (hp : ∀ G', Ag (W8 o 8) G G' → post (zI (edR t x y n m)) G') : wp_X1_costOf post o o1 k1 m1 t (zI a) (zI n) (zI b) (zI m) G := by
  have hk : klen t ≤ 26 := by rcases ht with rfl | rfl <;> decide
  have rd : ∀ G', Ag (W8 o 8) G G' → ∀ j, G' o1 k1 j = G o1 k1 j := fun G' ag j => ag o1 k1 j hne
  unfold wp_X1_costOf
  have rows : ∀ f i : Nat, i + f = n → ∀ G', Ag (W8 o 8) G G' → (∀ j, j ≤ m → G' o 8 j = zI (edR t x y i j)) → lp_X1_costOf_30 post o o1 k1 m1 t (zI a) (zI n) (zI b) (zI m) (zI i) G' := by
    intro f
    induction f with
    | zero =>
      intro i hi G' ag hc
      intro P30 K30
      refine K30 _ _ _ _ _ _ ?_
      unfold lb_X1_costOf_30
      refine br_t (by rw [zI_le (by omega)]; omega) ?_
      refine ⟨zI_in (by omega), ?_⟩
      have : i = n := by omega
      subst this
      rw [zI_clN (by omega), hc m (Nat.le_refl _)]
      exact hp G' ag
    | succ f ih =>
      intro i hi G' ag hc
      intro P30 K30
      refine K30 _ _ _ _ _ _ ?_
      unfold lb_X1_costOf_30
      refine br_f (by rw [zI_le (by omega)]; omega) ?_
      have hxi := hx i (by omega)
      rw [zI_add]
      refine ⟨zI_in (by omega), ?_⟩
      rw [zI_cl (by omega), show ((a : Int) + (i : Int)).toNat = a + i by omega, rd G' ag, gx i (by omega), zI_nb (by omega)]
      rintro _ rfl
      rw [tl34 ht]
      refine ⟨zI_in (by omega), ?_⟩
      rw [zI_clN (by omega), (tb34 ht hxi).1]
      rintro _ rfl
      have htl := (tb34 ht hxi).2
      rw [hc 0 (by omega), edR_0, zl2]
      rintro _ rfl
      rw [zI_add]
      rintro _ rfl
      rintro _ rfl
      intro P76 K76
      have cols : ∀ g j : Nat, j + g = m → ∀ G'', Ag (W8 o 8) G G'' → (∀ j', j' ≤ m → G'' o 8 j' = zI (if j' ≤ j then edR t x y (i + 1) j' else edR t x y i j')) → P76 (zI a) (zI n) (zI b) (zI m) (zI i) (zI (x i)) (zI (ktb t (x i))) (zI (edR t x y i j)) (zI (edR t x y (i + 1) j)) (zI j) G'' := by
        intro g
        induction g with
        | zero =>
          intro j hj G'' ag2 hc2
          refine K76 _ _ _ _ _ _ _ _ _ _ _ ?_
          unfold lb_X1_costOf_76
          refine br_t (by rw [zI_le (by omega)]; omega) ?_
          rw [zl1, zI_add]
          exact ih (i + 1) (by omega) G'' ag2 (fun j' hj' => by rw [hc2 j' hj', if_pos (by omega)]) P30 K30
        | succ g ih2 =>
          intro j hj G'' ag2 hc2
          have hyj := hy j (by omega)
          have b1 := edR_le t x y i j
          have b2 := edR_le t x y (i + 1) j
          have b3 := edR_le t x y i (j + 1)
          refine K76 _ _ _ _ _ _ _ _ _ _ _ ?_
          unfold lb_X1_costOf_76
          refine br_f (by rw [zI_le (by omega)]; omega) ?_
          rw [zI_add]
          refine ⟨zI_in (by omega), ?_⟩
          rw [zI_cl (by omega), show ((b : Int) + (j : Int)).toNat = b + j by omega, rd G'' ag2, gy j (by omega), zI_nb (by omega)]
          rintro _ rfl
          rw [zl1, zI_add]
          refine ⟨zI_in (by omega), ?_⟩
          rw [zI_cl (by omega), show ((j : Int) + 1).toNat = j + 1 by omega, hc2 (j + 1) (by omega), if_neg (by omega)]
          rintro _ rfl
          have fin : ∀ v : Int, v = edR t x y (i + 1) (j + 1) → j_X1_costOf_168 post P30 P76 o o1 k1 m1 t (zI a) (zI n) (zI b) (zI m) (zI i) (zI (x i)) (zI (ktb t (x i))) (zI j) (zI (edR t x y i (j + 1))) (zI v) G'' := by
            intro v hv
            subst hv
            unfold j_X1_costOf_168
            rw [zl1, zI_add]
            refine ⟨zI_in (by omega), ?_⟩
            rw [zI_cl (by omega), show ((j : Int) + 1).toNat = j + 1 by omega]
            rintro _ rfl
            refine ih2 (j + 1) (by omega) _ (ag2.up ⟨rfl, rfl⟩) (fun j' hj' => ?_)
            rw [gs_eq]
            unfold upd
            by_cases w : j' = j + 1
            · rw [if_pos w, w, if_pos (Nat.le_refl _)]
            · rw [if_neg w, hc2 j' hj']
              by_cases w2 : j' ≤ j
              · rw [if_pos w2, if_pos (by omega)]
              · rw [if_neg w2, if_neg (by omega)]
          have low : ∀ v : Nat, v = cgt t (x i) (y j) → j_X1_costOf_131 post P30 P76 o o1 k1 m1 t (zI a) (zI n) (zI b) (zI m) (zI i) (zI (x i)) (zI (ktb t (x i))) (zI (edR t x y (i + 1) j)) (zI j) (zI (edR t x y i (j + 1))) (zI (edR t x y i j)) (zI v) G'' := by
            intro v hv
            have hv2 := cgt_le t (x i) (y j)
            have es := edR_s t x y i j
            rw [← hv] at es hv2
            have las : ∀ u : Int, u = min (edR t x y (i + 1) j) (edR t x y i (j + 1)) → j_X1_costOf_148 post P30 P76 o o1 k1 m1 t (zI a) (zI n) (zI b) (zI m) (zI i) (zI (x i)) (zI (ktb t (x i))) (zI j) (zI (edR t x y i (j + 1))) (zI ((edR t x y i j : Int) + v)) (zI u) G'' := by
              intro u hu
              unfold j_X1_costOf_148
              rw [zl2, zI_add]
              rintro _ rfl
              refine br_c (fun q => ?_) (fun q => ?_)
              · rw [zI_le (by omega)] at q
                exact fin _ (by omega)
              · rw [zI_le (by omega)] at q
                exact fin _ (by omega)
            unfold j_X1_costOf_131
            rw [zI_add]
            rintro _ rfl
            refine br_c (fun q => ?_) (fun q => ?_)
            · rw [zI_le (by omega)] at q
              exact las _ (by omega)
            · rw [zI_le (by omega)] at q
              exact las _ (by omega)
          refine br_c (fun q => ?_) (fun q => ?_)
          · rw [zI_eq (by omega)] at q
            exact fin _ (by rw [edR_d (by omega)])
          · rw [zI_eq (by omega)] at q
            rw [← zl1, zI_tb (by omega) htl]
            by_cases w : (ktb t (x i)).testBit (y j) = true
            · refine br_f (by rw [w]; decide) ?_
              exact low 1 (by unfold cgt; rw [if_neg (by omega), if_pos w])
            · refine br_t (by rw [show (ktb t (x i)).testBit (y j) = false by simpa using w]; rfl) ?_
              exact low 2 (by unfold cgt; rw [if_neg (by omega), if_neg w])
      have e0 : zI ((2 * i : Nat) : Int) = zI (edR t x y i 0) := by rw [edR_0]
      have e1 : zI (((2 * i : Nat) : Int) + 2) = zI (edR t x y (i + 1) 0) := by
        rw [edR_0]
        exact zI_cg (by omega)
      rw [e0, e1]
      refine cols m 0 (by omega) _ (ag.up ⟨rfl, rfl⟩) (fun j' hj' => ?_)
      rw [gs_eq]
      unfold upd
      by_cases w : j' = 0
      · rw [if_pos w, w, if_pos (Nat.le_refl _)]
      · rw [if_neg w, if_neg (by omega)]
        exact hc j' hj'
  intro P3 K3
  have ini : ∀ f j : Nat, j + f = m + 1 → ∀ G', Ag (W8 o 8) G G' → (∀ j', j' < j → G' o 8 j' = zI ((2 * j' : Nat) : Int)) → P3 (zI a) (zI n) (zI b) (zI m) (zI j) G' := by
    intro f
    induction f with
    | zero =>
      intro j hj G' ag hc
      refine K3 _ _ _ _ _ _ ?_
      unfold lb_X1_costOf_3
      refine br_t (by rw [zI_lt (by omega)]; omega) ?_
      exact rows n 0 (by omega) G' ag (fun j' hj' => hc j' (by omega))
    | succ f ih =>
      intro j hj G' ag hc
      refine K3 _ _ _ _ _ _ ?_
      unfold lb_X1_costOf_3
      refine br_f (by rw [zI_lt (by omega)]; omega) ?_
      refine ⟨zI_in (by omega), ?_⟩
      rintro _ rfl
      rw [zI_clN (by omega), zl2, zI_mul, zl1, zI_add]
      refine ih (j + 1) (by omega) _ (ag.up ⟨rfl, rfl⟩) (fun j' hj' => ?_)
      rw [gs_eq]
      unfold upd
      by_cases w : j' = j
      · rw [if_pos w, w]
        exact zI_cg (by omega)
      · rw [if_neg w]
        exact hc j' (by omega)
  exact ini (m + 1) 0 (by omega) G (Ag.rf G) (fun j' hj' => by omega)
set_option maxHeartbeats 2000000 in
theorem wI_farOf (ht : t = 3 ∨ t = 4) (hne : ¬ (o1 = o ∧ k1 = 8)) (hm1 : m1 ≤ 260) (hn : n ≤ 20) (hm : m ≤ 20) (han : a + n ≤ m1) (hbm : b + m ≤ m1) (hx : ∀ i, i < n → x i < klen t) (hy : ∀ j, j < m → y j < klen t) (gx : ∀ i, i < n → G o1 k1 (a + i) = zI (x i)) (gy : ∀ j, j < m → G o1 k1 (b + j) = zI (y j))
    (hp : ∀ G', Ag (W8 o 8) G G' → post (zI (edR t x y n m)) G') : wp_X1_farOf post o o1 k1 m1 t (zI a) (zI n) (zI b) (zI m) G := by
  have hk : klen t ≤ 26 := by rcases ht with rfl | rfl <;> decide
  unfold wp_X1_farOf
  rw [zI_min (by omega), show min (n : Int) (m : Int) = ((min n m : Nat) : Int) by omega]
  rintro _ rfl
  have fin : ∀ k q : Nat, k + q ≤ min n m → (∀ l, l < k → x l = y l) → (∀ l, l < q → x (n - 1 - l) = y (m - 1 - l)) → j_X1_farOf_84 post o o1 k1 m1 t (zI a) (zI n) (zI b) (zI m) (zI k) (zI q) G := by
    intro k q hkq ek eq
    unfold j_X1_farOf_84
    rw [zI_add]
    rintro _ rfl
    rw [zI_add, zI_add, zI_sub, zI_sub, show (a : Int) + (k : Int) = ((a + k : Nat) : Int) by omega, show (b : Int) + (k : Int) = ((b + k : Nat) : Int) by omega, show (n : Int) - ((k : Int) + (q : Int)) = ((n - (k + q) : Nat) : Int) by omega, show (m : Int) - ((k : Int) + (q : Int)) = ((m - (k + q) : Nat) : Int) by omega]
    refine wI_costOf (x := fun l => x (k + l)) (y := fun l => y (k + l)) ht hne hm1 (by omega) (by omega) (by omega) (by omega) (fun i hi => hx (k + i) (by omega)) (fun j hj => hy (k + j) (by omega)) (fun i hi => ?_) (fun j hj => ?_) (fun G' ag => ?_)
    · rw [Nat.add_assoc]
      exact gx (k + i) (by omega)
    · rw [Nat.add_assoc]
      exact gy (k + j) (by omega)
    · rw [edR_cut (by omega) (by omega) ek eq]
      exact hp G' ag
  have behind : ∀ k : Nat, k ≤ min n m → (∀ l, l < k → x l = y l) → j_X1_farOf_40 post o o1 k1 m1 t (zI a) (zI n) (zI b) (zI m) (zI (min n m : Nat)) (zI k) G := by
    intro k hk2 ek
    unfold j_X1_farOf_40
    intro P43 K43
    have go : ∀ f q : Nat, k + q + f = min n m → (∀ l, l < q → x (n - 1 - l) = y (m - 1 - l)) → P43 (zI a) (zI n) (zI b) (zI m) (zI (min n m : Nat)) (zI k) (zI q) G := by
      intro f
      induction f with
      | zero =>
        intro q hq eq
        refine K43 _ _ _ _ _ _ _ _ ?_
        unfold lb_X1_farOf_43
        rw [zI_sub]
        refine br_t (by rw [zI_le (by omega)]; omega) ?_
        exact fin k q (by omega) ek eq
      | succ f ih =>
        intro q hq eq
        have hx1 := hx (n - 1 - q) (by omega)
        have hy1 := hy (m - 1 - q) (by omega)
        refine K43 _ _ _ _ _ _ _ _ ?_
        unfold lb_X1_farOf_43
        rw [zI_sub]
        refine br_f (by rw [zI_le (by omega)]; omega) ?_
        rw [zl1, zI_add, zI_sub, zI_sub, zI_add, zI_sub, zI_sub]
        refine ⟨zI_in (by omega), zI_in (by omega), ?_⟩
        rw [zI_cl (a := (a : Int) + (n : Int) - 1 - (q : Int)) (by omega), zI_cl (a := (b : Int) + (m : Int) - 1 - (q : Int)) (by omega), show ((a : Int) + (n : Int) - 1 - (q : Int)).toNat = a + (n - 1 - q) by omega, show ((b : Int) + (m : Int) - 1 - (q : Int)).toNat = b + (m - 1 - q) by omega, gx (n - 1 - q) (by omega), gy (m - 1 - q) (by omega), zI_nb (by omega), zI_nb (by omega), zI_add]
        refine br_c (fun w => ?_) (fun w => ?_)
        · rw [zI_eq (by omega)] at w
          refine ih (q + 1) (by omega) (fun l hl => ?_)
          by_cases e : l = q
          · subst e
            omega
          · exact eq l (by omega)
        · exact fin k q (by omega) ek eq
    exact go (min n m - k) 0 (by omega) (fun l hl => by omega)
  intro P11 K11
  have go : ∀ f k : Nat, k + f = min n m → (∀ l, l < k → x l = y l) → P11 (zI a) (zI n) (zI b) (zI m) (zI (min n m : Nat)) (zI k) G := by
    intro f
    induction f with
    | zero =>
      intro k hk2 ek
      refine K11 _ _ _ _ _ _ _ ?_
      unfold lb_X1_farOf_11
      refine br_t (by rw [zI_le (by omega)]; omega) ?_
      exact behind k (by omega) ek
    | succ f ih =>
      intro k hk2 ek
      have hx1 := hx k (by omega)
      have hy1 := hy k (by omega)
      refine K11 _ _ _ _ _ _ _ ?_
      unfold lb_X1_farOf_11
      refine br_f (by rw [zI_le (by omega)]; omega) ?_
      rw [zI_add, zI_add]
      refine ⟨zI_in (by omega), zI_in (by omega), ?_⟩
      rw [zI_cl (a := (a : Int) + (k : Int)) (by omega), zI_cl (a := (b : Int) + (k : Int)) (by omega), show ((a : Int) + (k : Int)).toNat = a + k by omega, show ((b : Int) + (k : Int)).toNat = b + k by omega, gx k (by omega), gy k (by omega), zI_nb (by omega), zI_nb (by omega), zl1, zI_add]
      refine br_c (fun w => ?_) (fun w => ?_)
      · rw [zI_eq (by omega)] at w
        refine ih (k + 1) (by omega) (fun l hl => ?_)
        by_cases e : l = k
        · subst e
          omega
        · exact ek l (by omega)
      · exact behind k (by omega) ek
  exact go (min n m) 0 (by omega) (fun l hl => by omega)
set_option maxHeartbeats 1000000 in
theorem wI_likenessOf (ht : t = 3 ∨ t = 4) (hne : ¬ (o1 = o ∧ k1 = 8)) (hm1 : m1 ≤ 260) (hn : n ≤ 20) (hm : m ≤ 20) (han : a + n ≤ m1) (hbm : b + m ≤ m1) (hx : ∀ i, i < n → x i < klen t) (hy : ∀ j, j < m → y j < klen t) (gx : ∀ i, i < n → G o1 k1 (a + i) = zI (x i)) (gy : ∀ j, j < m → G o1 k1 (b + j) = zI (y j))
    (hp : ∀ G', Ag (W8 o 8) G G' → post (zI (lkn t x y n m)) G') : wp_X1_likenessOf post o o1 k1 m1 t (zI a) (zI n) (zI b) (zI m) G := by
  unfold wp_X1_likenessOf
  rw [zI_max (by omega)]
  rintro _ rfl
  refine br_c (fun q => ?_) (fun q => ?_)
  · rw [zl0, zI_eq (by omega)] at q
    have := hp G (Ag.rf G)
    unfold lkn at this
    rw [if_pos (by omega)] at this
    exact this
  · refine wI_farOf ht hne hm1 hn hm han hbm hx hy gx gy (fun G' ag => ⟨q, ?_⟩)
    rw [zl0, zI_eq (by omega)] at q
    have := hp G' ag
    unfold lkn at this
    rw [if_neg (by omega)] at this
    have hle := edR_le t x y n m
    rw [zl50, zI_mul, zI_add, zl1, zI_sub, zI_div (by omega), zl100, zI_sub]
    have e : ((max n m : Nat) : Int) = max (n : Int) (m : Int) := by omega
    rw [e] at this
    exact this
end
