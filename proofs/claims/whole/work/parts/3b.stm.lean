/-! ===== the steps, in the reference ===== -/
theorem gs_gs (G : GH) (o k : Nat) (f f' : Nat → Int32) : gs (gs G o k f) o k f' = gs G o k f' := by
  funext o2 k2
  unfold gs
  split <;> rfl
theorem gs_self (G : GH) (o k : Nat) : gs G o k (G o k) = G := by
  funext o2 k2
  unfold gs
  split
  · rename_i h
    rw [h.1, h.2]
  · rfl
theorem mee_1 {a k : Nat} : mee a (2 ^ k) ↔ a.testBit k = true := by
  constructor
  · rintro ⟨i, x, y⟩
    rw [Nat.testBit_two_pow, decide_eq_true_eq] at y
    subst y
    exact x
  · intro h
    exact ⟨k, h, Nat.testBit_two_pow_self⟩
theorem rc_lt10 {n : Nat} {R : RR} (hV : VR n R) {a : Nat} (ha : a < 1024) (t : Nat) : rc (nei R) 10 a t < 1024 := rc_lt (nei_lt hV) ha t
theorem bdf_wd {f : Nat → Nat} {n s : Nat} (hs : s < 1024) (hu : uni f s n < 1024) : s ||| bdf (uni f s n) s = wd f n s := by
  apply Nat.eq_of_testBit_eq
  intro i
  unfold wd
  rw [Nat.testBit_or, Nat.testBit_or, bdf_tb (by omega)]
  cases s.testBit i <;> simp
theorem fsn_s {f : Nat → Nat} {n a k t : Nat} : fsn f n a (2 ^ k) (t + 1 + 1) = if (rc f n a t).testBit k = false ∧ (rc f n a (t + 1)).testBit k = true then ((t + 1 : Nat) : Int) else fsn f n a (2 ^ k) (t + 1) := by
  split
  · rename_i h
    refine fsn_at (t := t + 1) (mee_1.mpr h.2) (fun t' ht' z => ?_) _ (by omega)
    have := rc_le (show t' ≤ t by omega) (mee_1.mp z)
    rw [h.1] at this
    cases this
  · rename_i h
    rcases fsn_cs (f := f) (n := n) (a := a) (b := 2 ^ k) (t + 1) with ⟨x, y⟩ | ⟨t0, x1, x2, x3, x4⟩
    · rw [x]
      refine fsn_no _ (fun t' ht' z => ?_)
      by_cases w : t' = t + 1
      · subst w
        refine h ⟨?_, mee_1.mp z⟩
        rw [Bool.eq_false_iff]
        exact fun q => y t (by omega) (mee_1.mpr q)
      · exact y t' (by omega) z
    · rw [x2]
      exact fsn_at x3 x4 _ (by omega)
section
variable {R : RR} {G : GH} {n : Nat} {post : Int32 → GH → Prop}
set_option maxHeartbeats 1000000 in
theorem wM_layStepsFrom {a : Nat} (hV : VR n R) (hM : MR R (G 24 1)) (ha : a < 1024) (hp : ∀ g : Nat → Int32, (∀ k, k < 10 → g k = zI (fsn (nei R) 10 a (2 ^ k) 10)) → post (zI (rc (nei R) 10 a 9)) (gs G 24 21 g)) : wp_X8_layStepsFrom post (zI a) G := by
  have hMg : ∀ g : Nat → Int32, MR R (gs G 24 21 g 24 1) := fun g => by rw [gs_ne (by decide)]; exact hM
  have hg : ∀ g : Nat → Int32, gs G 24 21 g 24 21 = g := fun g => gs_eq _ _ _ _
  unfold wp_X8_layStepsFrom
  -- the turns
  have turns : ∀ f t : Nat, t + f = 9 → ∀ g : Nat → Int32, (∀ k, k < 10 → g k = zI (fsn (nei R) 10 a (2 ^ k) (t + 1))) → lp_X8_layStepsFrom_37 post (zI (rc (nei R) 10 a t)) (zI ((t + 1 : Nat) : Int)) (gs G 24 21 g) := by
    intro f
    induction f with
    | zero =>
      intro t ht g hg1
      have : t = 9 := by omega
      subst this
      intro P37 K37
      refine K37 _ _ _ ?_
      unfold lb_X8_layStepsFrom_37
      refine br_t (by rw [zl10, zI_le (by omega)]; omega) ?_
      exact hp g hg1
    | succ f ih =>
      intro t ht g hg1
      have hr := rc_lt10 hV ha t
      have hu : uni (nei R) (rc (nei R) 10 a t) 10 < 1024 := uni_lt (k := 10) (nei_lt hV)
      have hb : bdf (uni (nei R) (rc (nei R) 10 a t) 10) (rc (nei R) 10 a t) < 1024 := Nat.lt_of_le_of_lt (bdf_le _ _) hu
      intro P37 K37
      refine K37 _ _ _ ?_
      unfold lb_X8_layStepsFrom_37
      refine br_f (by rw [zl10, zI_le (by omega)]; omega) ?_
      intro P49 K49
      have in2 : ∀ e k : Nat, k + e = 10 → ∀ g1 : Nat → Int32, (∀ j, j < 10 → g1 j = zI (fsn (nei R) 10 a (2 ^ j) (if j < k then t + 1 + 1 else t + 1))) → lp_X8_layStepsFrom_97 post P37 (zI (rc (nei R) 10 a t)) (zI ((t + 1 : Nat) : Int)) (zI (bdf (uni (nei R) (rc (nei R) 10 a t) 10) (rc (nei R) 10 a t))) (zI k) (gs G 24 21 g1) := by
        intro e
        induction e with
        | zero =>
          intro k hk g1 hg2
          intro P97 K97
          refine K97 _ _ _ _ _ ?_
          unfold lb_X8_layStepsFrom_97
          refine br_t (by rw [zl10, zI_le (by omega)]; omega) ?_
          rintro _ rfl
          rw [zI_or, bdf_wd hr hu, zl1, zI_add]
          refine ih (t + 1) (by omega) g1 (fun j hj => ?_) P37 K37
          rw [hg2 j hj, if_pos (by omega)]
        | succ e ih2 =>
          intro k hk g1 hg2
          intro P97 K97
          refine K97 _ _ _ _ _ ?_
          unfold lb_X8_layStepsFrom_97
          refine br_f (by rw [zl10, zI_le (by omega)]; omega) ?_
          rw [wM_has (by omega) (by omega), zl1, zI_add]
          have hbit : (bdf (uni (nei R) (rc (nei R) 10 a t) 10) (rc (nei R) 10 a t)).testBit k = true ↔ (rc (nei R) 10 a t).testBit k = false ∧ (rc (nei R) 10 a (t + 1)).testBit k = true := by
            show _ ↔ _ ∧ (wd (nei R) 10 (rc (nei R) 10 a t)).testBit k = true
            rw [bdf_tb (by omega)]
            unfold wd
            rw [Nat.testBit_or]
            cases (rc (nei R) 10 a t).testBit k <;> simp
          by_cases z : (bdf (uni (nei R) (rc (nei R) 10 a t) 10) (rc (nei R) 10 a t)).testBit k = true
          · refine br_bt z ⟨zI_in (by omega), ?_⟩
            rintro _ rfl
            rw [gs_gs, hg, zI_clN (by omega)]
            refine ih2 (k + 1) (by omega) _ (fun j hj => ?_) P97 K97
            unfold upd
            by_cases w : j = k
            · subst w
              rw [if_pos rfl, if_pos (by omega), fsn_s, if_pos (hbit.mp z)]
            · rw [if_neg w, hg2 j hj]
              by_cases w2 : j < k
              · rw [if_pos w2, if_pos (by omega)]
              · rw [if_neg w2, if_neg (by omega)]
          · refine br_bf (by simpa using z) ?_
            refine ih2 (k + 1) (by omega) g1 (fun j hj => ?_) P97 K97
            rw [hg2 j hj]
            by_cases w : j = k
            · subst w
              rw [if_neg (by omega), if_pos (by omega), fsn_s, if_neg (fun q => z (hbit.mpr q))]
            · by_cases w2 : j < k
              · rw [if_pos w2, if_pos (by omega)]
              · rw [if_neg w2, if_neg (by omega)]
      have in1 : ∀ e k : Nat, k + e = 10 → P49 (zI (rc (nei R) 10 a t)) (zI ((t + 1 : Nat) : Int)) (zI (uni (nei R) (rc (nei R) 10 a t) k)) (zI k) (gs G 24 21 g) := by
        intro e
        induction e with
        | zero =>
          intro k hk
          have : k = 10 := by omega
          subst this
          refine K49 _ _ _ _ _ ?_
          unfold lb_X8_layStepsFrom_49
          refine br_t (by rw [zl10, zI_le (by omega)]; omega) ?_
          rintro _ rfl
          rw [zI_difX (by omega)]
          exact in2 10 0 (by omega) g (fun j hj => by rw [if_neg (by omega)]; exact hg1 j hj)
        | succ e ih2 =>
          intro k hk
          have hn : R (8 + k) < 1024 := hV.nb (by omega)
          refine K49 _ _ _ _ _ ?_
          unfold lb_X8_layStepsFrom_49
          refine br_f (by rw [zl10, zI_le (by omega)]; omega) ?_
          rw [wM_has (by omega) (by omega), zl1, zI_add]
          have := ih2 (k + 1) (by omega)
          unfold uni at this
          by_cases z : (rc (nei R) 10 a t).testBit k = true
          · refine br_bt z ⟨by rw [zl8, zI_add]; exact zI_in (by omega), ?_⟩
            rintro _ rfl
            rw [zl8, zI_add, zI_cl (by omega), show ((8 : Int) + (k : Int)).toNat = 8 + k by omega, (hMg g).at (by omega), zI_or]
            rw [if_pos z] at this
            exact this
          · refine br_bf (by simpa using z) ?_
            rw [if_neg z, Nat.or_zero] at this
            exact this
      exact in1 10 0 (by omega)
  intro P4 K4
  have ini : ∀ f k : Nat, k + f = 10 → ∀ g : Nat → Int32, (∀ j, j < k → g j = zI (fsn (nei R) 10 a (2 ^ j) 1)) → P4 (zI a) (zI a) (zI k) (gs G 24 21 g) := by
    intro f
    induction f with
    | zero =>
      intro k hk g hg1
      refine K4 _ _ _ _ ?_
      unfold lb_X8_layStepsFrom_4
      refine br_t (by rw [zl10, zI_le (by omega)]; omega) ?_
      exact turns 9 0 (by omega) g (fun j hj => hg1 j (by omega))
    | succ f ih =>
      intro k hk g hg1
      refine K4 _ _ _ _ ?_
      unfold lb_X8_layStepsFrom_4 j_X8_layStepsFrom_28
      refine br_f (by rw [zl10, zI_le (by omega)]; omega) ?_
      rw [wM_has (by omega) (by omega), zl1, zI_add]
      have nx : ∀ v : Int, v = fsn (nei R) 10 a (2 ^ k) 1 → P4 (zI a) (zI a) (zI ((k : Int) + 1)) (gs (gs G 24 21 g) 24 21 (upd (gs G 24 21 g 24 21) (zI k).toNatClampNeg (zI v))) := by
        intro v hv
        rw [gs_gs, hg, zI_clN (by omega)]
        refine ih (k + 1) (by omega) _ (fun j hj => ?_)
        unfold upd
        by_cases w : j = k
        · subst w
          rw [if_pos rfl, hv]
        · rw [if_neg w]
          exact hg1 j (by omega)
      by_cases z : a.testBit k = true
      · refine br_bt z ⟨zI_in (by omega), ?_⟩
        rintro _ rfl
        refine nx 0 ?_
        rw [fsn_at (t := 0) (mee_1.mpr z) (fun t' ht' => by omega) 1 (by omega)]
        rfl
      · refine br_bf (by simpa using z) ⟨zI_in (by omega), ?_⟩
        rintro _ rfl
        refine nx (-1) ?_
        rw [fsn_no 1 (fun t ht q => ?_)]
        have : t = 0 := by omega
        subst this
        exact z (mee_1.mp q)
  have := ini 10 0 (by omega) (G 24 21) (fun j hj => by omega)
  rw [gs_self] at this
  exact this
set_option maxHeartbeats 1000000 in
theorem wM_stepsOf {m m2 : Nat} (hV : VR n R) (hn : n ≤ 13) (hM : MR R (G 24 1)) (hm : m < R 1) (hm2 : m2 < R 1) (hp : ∀ g : Nat → Int32, post (zI (stp R (qq R m 11) (qq R m2 11))) (gs G 24 21 g)) : wp_X8_stepsOf post (zI m) (zI m2) G := by
  have hm13 : m < 13 := Nat.lt_of_lt_of_le hm (Nat.le_trans hV.mk hn)
  have hm213 : m2 < 13 := Nat.lt_of_lt_of_le hm2 (Nat.le_trans hV.mk hn)
  have ha := hV.gd hm
  have hb := hV.gd hm2
  have hr := rc_lt10 hV ha 9
  unfold wp_X8_stepsOf
  refine wM_of1 hM m 11 rfl rfl hm13 (by omega) ?_
  refine wM_layStepsFrom hV hM ha (fun g hg => ?_)
  have hMg : MR R (gs G 24 21 g 24 1) := by rw [gs_ne (by decide)]; exact hM
  have hgg : gs G 24 21 g 24 21 = g := gs_eq _ _ _ _
  have e1 : (-1 : Int32) = zI (-1) := rfl
  intro P18 K18
  have main : ∀ f k : Nat, k + f = 10 → ∀ v : Int, -1 ≤ v → v ≤ 9 → (v = -1 → ∀ j, j < k → (qq R m2 11).testBit j = true → (rc (nei R) 10 (qq R m 11) 9).testBit j = true → False) → (v ≠ -1 → (∃ j, j < k ∧ (qq R m2 11).testBit j = true ∧ fsn (nei R) 10 (qq R m 11) (2 ^ j) 10 = v) ∧ ∀ j, j < k → (qq R m2 11).testBit j = true → (rc (nei R) 10 (qq R m 11) 9).testBit j = true → v ≤ fsn (nei R) 10 (qq R m 11) (2 ^ j) 10) → P18 (zI m2) (zI (rc (nei R) 10 (qq R m 11) 9)) (zI v) (zI k) (gs G 24 21 g) := by
    intro f
    induction f with
    | zero =>
      intro k hk v v1 v2 h1 h2
      refine K18 _ _ _ _ _ ?_
      unfold lb_X8_stepsOf_18
      refine br_t (by rw [zl10, zI_le (by omega)]; omega) ?_
      have e : stp R (qq R m 11) (qq R m2 11) = v := by
        by_cases q : v = -1
        · subst q
          refine fsn_no 10 (fun t ht z => ?_)
          obtain ⟨i, x, y⟩ := z
          have hi := tb_lt (k := 10) hb y
          exact h1 rfl i (by omega) y (rc_le (by omega) x)
        · obtain ⟨⟨j, x1, x2, x3⟩, x4⟩ := h2 q
          rcases fsn_cs (f := nei R) (n := 10) (a := qq R m 11) (b := 2 ^ j) 10 with ⟨y1, y2⟩ | ⟨t, y1, y2, y3, y4⟩
          · omega
          · have : v = (t : Int) := by omega
            rw [this]
            refine fsn_at ⟨j, mee_1.mp y3, x2⟩ (fun t' ht' z => ?_) 10 y1
            obtain ⟨i, z1, z2⟩ := z
            have hi := tb_lt (k := 10) hb z2
            have := x4 i (by omega) z2 (rc_le (by omega) z1)
            rcases fsn_cs (f := nei R) (n := 10) (a := qq R m 11) (b := 2 ^ i) 10 with ⟨w1, w2⟩ | ⟨s, w1, w2, w3, w4⟩
            · exact w2 t' (by omega) (mee_1.mpr z1)
            · by_cases u : t' < s
              · exact w4 t' u (mee_1.mpr z1)
              · omega
      rw [← e]
      exact hp g
    | succ f ih =>
      intro k hk v v1 v2 h1 h2
      have hfr := fsn_rg (nei R) 10 (qq R m 11) (2 ^ k) 10
      refine K18 _ _ _ _ _ ?_
      unfold lb_X8_stepsOf_18 j_X8_stepsOf_70
      refine br_f (by rw [zl10, zI_le (by omega)]; omega) ?_
      refine wM_of1 hMg m2 11 rfl rfl hm213 (by omega) ?_
      rw [wM_has (by omega) (by omega), zl1, zI_add]
      have same : ¬ ((qq R m2 11).testBit k = true ∧ (rc (nei R) 10 (qq R m 11) 9).testBit k = true ∧ (v = -1 ∨ fsn (nei R) 10 (qq R m 11) (2 ^ k) 10 < v)) → P18 (zI m2) (zI (rc (nei R) 10 (qq R m 11) 9)) (zI v) (zI ((k : Int) + 1)) (gs G 24 21 g) := by
        intro hx
        refine ih (k + 1) (by omega) v v1 v2 (fun q j hj x y => ?_) (fun q => ⟨?_, fun j hj x y => ?_⟩)
        · by_cases w : j = k
          · subst w; exact hx ⟨x, y, Or.inl q⟩
          · exact h1 q j (by omega) x y
        · obtain ⟨⟨j, x1, x2, x3⟩, _⟩ := h2 q
          exact ⟨j, by omega, x2, x3⟩
        · by_cases w : j = k
          · subst w
            by_cases u : fsn (nei R) 10 (qq R m 11) (2 ^ j) 10 < v
            · exact absurd ⟨x, y, Or.inr u⟩ hx
            · omega
          · exact (h2 q).2 j (by omega) x y
      by_cases z : (qq R m2 11).testBit k = true
      · refine br_bt z ?_
        rw [wM_has (by omega) (by omega)]
        by_cases z2 : (rc (nei R) 10 (qq R m 11) 9).testBit k = true
        · refine br_bt z2 ?_
          have hne : fsn (nei R) 10 (qq R m 11) (2 ^ k) 10 ≠ -1 := by
            intro q
            rcases fsn_cs (f := nei R) (n := 10) (a := qq R m 11) (b := 2 ^ k) 10 with ⟨y1, y2⟩ | ⟨t, y1, y2, y3, y4⟩
            · exact y2 9 (by omega) (mee_1.mpr z2)
            · omega
          have take : (v = -1 ∨ fsn (nei R) 10 (qq R m 11) (2 ^ k) 10 < v) → P18 (zI m2) (zI (rc (nei R) 10 (qq R m 11) 9)) (zI (fsn (nei R) 10 (qq R m 11) (2 ^ k) 10)) (zI ((k : Int) + 1)) (gs G 24 21 g) := by
            intro hx
            refine ih (k + 1) (by omega) _ (by omega) (by omega) (fun q => absurd q hne) (fun _ => ⟨⟨k, by omega, z, rfl⟩, fun j hj x y => ?_⟩)
            by_cases w : j = k
            · subst w; omega
            · by_cases u : v = -1
              · exact (h1 u j (by omega) x y).elim
              · have := (h2 u).2 j (by omega) x y
                omega
          refine br_c (fun q => ⟨zI_in (by omega), ?_⟩) (fun q => ⟨zI_in (by omega), ?_⟩)
          · rw [zI_neg, zI_eq (by omega)] at q
            rintro _ rfl
            rw [hgg, zI_clN (by omega), hg k (by omega)]
            exact take (Or.inl q)
          · rw [hgg, zI_clN (by omega), hg k (by omega), zI_le (by omega)]
            refine br_c (fun q2 => same (fun w => ?_)) (fun q2 => ⟨zI_in (by omega), ?_⟩)
            · rw [zI_neg, zI_eq (by omega)] at q
              omega
            · rintro _ rfl
              exact take (Or.inr (by omega))
        · refine br_bf (by simpa using z2) ?_
          exact same (fun w => z2 w.2.1)
      · refine br_bf (by simpa using z) ?_
        exact same (fun w => z w.1)
  exact main 10 0 (by omega) (-1) (by omega) (by omega) (fun _ j hj => by omega) (fun q => absurd rfl q)
end
