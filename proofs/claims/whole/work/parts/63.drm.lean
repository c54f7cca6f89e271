/-! ===== a mark dropped, in the reference ===== -/
section
variable {R : RR} {G : GH} {n m : Nat}
theorem wM_of1G {post : Int32 → GH → Prop} {x y : Int32} (m w : Nat) (hx : x = zI m) (hy : y = zI w) (hm : m < 13) (hw : w < 51) (hp : post (G 24 1 (18 + 51 * m + w)) G) : wp_X8_of1 post x y G := by
  subst hx hy
  unfold wp_X8_of1
  rw [zl18, zl51, zI_mul, zI_add, zI_add, show ((18 : Int) + 51 * (m : Int) + (w : Int)) = ((18 + 51 * m + w : Nat) : Int) by omega]
  refine ⟨zI_in (by omega), ?_⟩
  rw [zI_clN (by omega)]
  exact hp
theorem dcp_M {m s : Nat} (hm : m < 13) (hs : s < 8192) : (zI (s : Int) &&& zI ((2 ^ m - 1 : Nat) : Int)) ||| ((zI (s : Int) >>> ((1 : Int32) &&& 31)) &&& (zI ((2 ^ m - 1 : Nat) : Int) ^^^ (-1 : Int32))) = zI (dcp m s : Int) := by
  have hpm : 2 ^ m ≤ 8192 := pow_le13 (by omega)
  have e : zI (s : Int) >>> ((1 : Int32) &&& 31) = zI ((s / 2 : Nat) : Int) := zI_shr (s := s) (k := 1) (by omega) (by omega)
  rw [e, zI_and, zI_difX (by omega), zI_or]
  rfl
set_option maxHeartbeats 2000000 in
theorem wM_dropL {post : Int32 → GH → Prop} (hV : VR n R) (hn : n ≤ 13) (hM : MR R (G 24 1)) (hm : m < R 1) (hp : ∀ G', Ag (fun x c _ => x = 24 ∧ c = 1) G G' → MR (drR R m) (G' 24 1) → post (zI ((R 1 - 1 : Nat) : Int)) G') : lp_X8_drop_25 post (zI m) (zI m) G := by
  have h13 := Nat.le_trans hV.mk hn
  have hpm : 2 ^ m ≤ 8192 := pow_le13 (by omega)
  have hp1 : 1 ≤ 2 ^ m := Nat.one_le_two_pow
  -- the consents
  have cons : ∀ f k : Nat, k + f = R 1 - 1 → ∀ G', Ag (fun x c _ => x = 24 ∧ c = 1) G G' → (∀ j, j < 681 → G' 24 1 j = if j = 1 then zI ((R 1 - 1 : Nat) : Int) else if 18 + 51 * m ≤ j ∧ j < 18 + 51 * (R 1 - 1) then (if (j - 18) % 51 = 50 ∧ (j - 18) / 51 < k then zI (dcp m (R (j + 51))) else zI (R (j + 51))) else (if 18 ≤ j ∧ j < 18 + 51 * (R 1 - 1) ∧ (j - 18) % 51 = 50 ∧ (j - 18) / 51 < k then zI (dcp m (R j)) else zI (R j))) → lp_X8_drop_87 post (zI ((2 ^ m - 1 : Nat) : Int)) (zI k) G' := by
    intro f
    induction f with
    | zero =>
      intro k hk G' ag hr
      have r1 : G' 24 1 1 = zI ((R 1 - 1 : Nat) : Int) := by rw [hr 1 (by omega), if_pos rfl]
      intro P K
      refine K _ _ _ ?_
      unfold lb_X8_drop_87 wp_X8_marks
      rw [r1]
      refine br_t (by rw [zI_le (by omega)]; omega) ?_
      rw [r1]
      refine hp G' ag (fun j hj => ?_)
      rw [hr j hj]
      unfold drR shx
      by_cases w1 : j = 1
      · rw [if_pos w1, if_pos w1]
      · rw [if_neg w1, if_neg w1]
        by_cases w2 : j < 18
        · rw [if_neg (by omega), if_neg (by omega), if_pos w2]
        · rw [if_neg w2]
          by_cases w3 : 18 + 51 * (R 1 - 1) ≤ j
          · rw [if_neg (by omega), if_neg (by omega), if_pos w3]
          · rw [if_neg w3]
            by_cases w4 : 18 + 51 * m ≤ j
            · rw [if_pos (show 18 + 51 * m ≤ j ∧ j < 18 + 51 * (R 1 - 1) by omega), if_neg (show ¬ (j - 18) / 51 < m by omega)]
              by_cases w5 : (j - 18) % 51 = 50
              · rw [if_pos (show (j - 18) % 51 = 50 ∧ (j - 18) / 51 < k by omega), if_pos w5, show 18 + 51 * ((j - 18) / 51 + 1) + 50 = j + 51 by omega]
              · rw [if_neg (show ¬ ((j - 18) % 51 = 50 ∧ (j - 18) / 51 < k) by omega), if_neg w5, show 18 + 51 * ((j - 18) / 51 + 1) + (j - 18) % 51 = j + 51 by omega]
            · rw [if_neg (show ¬ (18 + 51 * m ≤ j ∧ j < 18 + 51 * (R 1 - 1)) by omega), if_pos (show (j - 18) / 51 < m by omega)]
              by_cases w5 : (j - 18) % 51 = 50
              · rw [if_pos (show 18 ≤ j ∧ j < 18 + 51 * (R 1 - 1) ∧ (j - 18) % 51 = 50 ∧ (j - 18) / 51 < k by omega), if_pos w5, show 18 + 51 * ((j - 18) / 51) + 50 = j by omega]
              · rw [if_neg (show ¬ (18 ≤ j ∧ j < 18 + 51 * (R 1 - 1) ∧ (j - 18) % 51 = 50 ∧ (j - 18) / 51 < k) by omega), if_neg w5, show 18 + 51 * ((j - 18) / 51) + (j - 18) % 51 = j by omega]
    | succ f ih =>
      intro k hk G' ag hr
      have r1 : G' 24 1 1 = zI ((R 1 - 1 : Nat) : Int) := by rw [hr 1 (by omega), if_pos rfl]
      have hk1 : k + 1 < R 1 := by omega
      have hcn := hV.cn (shx_lt (m := m) hk1)
      have rk : G' 24 1 (18 + 51 * k + 50) = zI (qq R (shx m k) 50) := by
        rw [hr _ (by omega), if_neg (by omega)]
        unfold shx
        by_cases w : k < m
        · rw [if_neg (show ¬ (18 + 51 * m ≤ 18 + 51 * k + 50 ∧ 18 + 51 * k + 50 < 18 + 51 * (R 1 - 1)) by omega), if_neg (show ¬ (18 ≤ 18 + 51 * k + 50 ∧ 18 + 51 * k + 50 < 18 + 51 * (R 1 - 1) ∧ (18 + 51 * k + 50 - 18) % 51 = 50 ∧ (18 + 51 * k + 50 - 18) / 51 < k) by omega), if_pos w]
          rfl
        · rw [if_pos (show 18 + 51 * m ≤ 18 + 51 * k + 50 ∧ 18 + 51 * k + 50 < 18 + 51 * (R 1 - 1) by omega), if_neg (show ¬ ((18 + 51 * k + 50 - 18) % 51 = 50 ∧ (18 + 51 * k + 50 - 18) / 51 < k) by omega), if_neg w]
          unfold qq
          rw [show 18 + 51 * k + 50 + 51 = 18 + 51 * (k + 1) + 50 by omega]
      intro P K
      refine K _ _ _ ?_
      unfold lb_X8_drop_87
      show wp_X8_marks _ G'
      unfold wp_X8_marks
      rw [r1]
      refine br_f (by rw [zI_le (by omega)]; omega) ?_
      refine wM_of1G k 50 rfl rfl (by omega) (by omega) ?_
      rw [rk, dcp_M (by omega) hcn]
      refine wM_put k 50 rfl rfl (by omega) (by omega) (fun G19 e19 => ?_)
      rw [show zI (k : Int) + (1 : Int32) = zI ((k + 1 : Nat) : Int) from zI_add _ 1]
      refine ih (k + 1) (by omega) G19 (by rw [e19]; exact ag.up ⟨rfl, rfl⟩) (fun j hj => ?_) P K
      rw [e19, gs_eq]
      by_cases u : j = 18 + 51 * k + 50
      · subst u
        rw [upd_eq, if_neg (by omega)]
        unfold shx
        by_cases w : k < m
        · rw [if_pos w, if_neg (show ¬ (18 + 51 * m ≤ 18 + 51 * k + 50 ∧ 18 + 51 * k + 50 < 18 + 51 * (R 1 - 1)) by omega), if_pos (show 18 ≤ 18 + 51 * k + 50 ∧ 18 + 51 * k + 50 < 18 + 51 * (R 1 - 1) ∧ (18 + 51 * k + 50 - 18) % 51 = 50 ∧ (18 + 51 * k + 50 - 18) / 51 < k + 1 by omega)]
          rfl
        · rw [if_neg w, if_pos (show 18 + 51 * m ≤ 18 + 51 * k + 50 ∧ 18 + 51 * k + 50 < 18 + 51 * (R 1 - 1) by omega), if_pos (show (18 + 51 * k + 50 - 18) % 51 = 50 ∧ (18 + 51 * k + 50 - 18) / 51 < k + 1 by omega)]
          unfold qq
          rw [show 18 + 51 * k + 50 + 51 = 18 + 51 * (k + 1) + 50 by omega]
      · rw [upd_ne u, hr j hj]
        by_cases w1 : j = 1
        · rw [if_pos w1, if_pos w1]
        · rw [if_neg w1, if_neg w1]
          by_cases w4 : 18 + 51 * m ≤ j ∧ j < 18 + 51 * (R 1 - 1)
          · rw [if_pos w4, if_pos w4]
            by_cases w5 : (j - 18) % 51 = 50 ∧ (j - 18) / 51 < k
            · rw [if_pos w5, if_pos (show (j - 18) % 51 = 50 ∧ (j - 18) / 51 < k + 1 by omega)]
            · rw [if_neg w5, if_neg (show ¬ ((j - 18) % 51 = 50 ∧ (j - 18) / 51 < k + 1) by omega)]
          · rw [if_neg w4, if_neg w4]
            by_cases w5 : 18 ≤ j ∧ j < 18 + 51 * (R 1 - 1) ∧ (j - 18) % 51 = 50 ∧ (j - 18) / 51 < k
            · rw [if_pos w5, if_pos (show 18 ≤ j ∧ j < 18 + 51 * (R 1 - 1) ∧ (j - 18) % 51 = 50 ∧ (j - 18) / 51 < k + 1 by omega)]
            · rw [if_neg w5, if_neg (show ¬ (18 ≤ j ∧ j < 18 + 51 * (R 1 - 1) ∧ (j - 18) % 51 = 50 ∧ (j - 18) / 51 < k + 1) by omega)]
  intro P K
  have rows : ∀ f x : Nat, m ≤ x → x + f = R 1 - 1 → ∀ G', Ag (fun x c _ => x = 24 ∧ c = 1) G G' → (∀ j, j < 681 → G' 24 1 j = if 18 + 51 * m ≤ j ∧ j < 18 + 51 * x then zI (R (j + 51)) else zI (R j)) → P (zI m) (zI x) G' := by
    intro f
    induction f with
    | zero =>
      intro x hx1 hx G' ag hr
      have hxx : x = R 1 - 1 := by omega
      subst hxx
      have r1 : G' 24 1 1 = zI (R 1) := by rw [hr 1 (by omega), if_neg (by omega)]
      refine K _ _ _ ?_
      unfold lb_X8_drop_25 wp_X8_marks
      rw [r1, show zI ((R 1 - 1 : Nat) : Int) + (1 : Int32) = zI ((R 1 - 1 + 1 : Nat) : Int) from zI_add _ 1]
      refine br_t (by rw [zI_le (by omega)]; omega) ?_
      intro G10 e10 y ey
      rw [zI_bit (by omega), zl1, zI_sub, show (((2 ^ m : Nat) : Int) - 1) = ((2 ^ m - 1 : Nat) : Int) by omega] at ey
      subst ey
      refine cons (R 1 - 1) 0 (by omega) G10 (by rw [e10]; exact ag.up ⟨rfl, rfl⟩) (fun j hj => ?_)
      rw [e10, gs_eq]
      by_cases w1 : j = 1
      · rw [w1, upd_eq, if_pos rfl, r1, zl1, zI_sub]
        exact zI_cg (by omega)
      · rw [upd_ne w1, if_neg w1, hr j hj]
        by_cases w4 : 18 + 51 * m ≤ j ∧ j < 18 + 51 * (R 1 - 1)
        · rw [if_pos w4, if_pos w4, if_neg (show ¬ ((j - 18) % 51 = 50 ∧ (j - 18) / 51 < 0) by omega)]
        · rw [if_neg w4, if_neg w4, if_neg (show ¬ (18 ≤ j ∧ j < 18 + 51 * (R 1 - 1) ∧ (j - 18) % 51 = 50 ∧ (j - 18) / 51 < 0) by omega)]
    | succ f ih =>
      intro x hx1 hx G' ag hr
      have r1 : G' 24 1 1 = zI (R 1) := by rw [hr 1 (by omega), if_neg (by omega)]
      refine K _ _ _ ?_
      unfold lb_X8_drop_25 wp_X8_marks
      rw [r1, show zI (x : Int) + (1 : Int32) = zI ((x + 1 : Nat) : Int) from zI_add _ 1]
      refine br_f (by rw [zI_le (by omega)]; omega) ?_
      intro P37 K37
      have inner : ∀ g k : Nat, k + g = 51 → ∀ G2, Ag (fun x c _ => x = 24 ∧ c = 1) G G2 → (∀ j, j < 681 → G2 24 1 j = if 18 + 51 * m ≤ j ∧ j < 18 + 51 * x + k then zI (R (j + 51)) else zI (R j)) → P37 (zI m) (zI x) (zI k) G2 := by
        intro g
        induction g with
        | zero =>
          intro k hk G2 ag2 hr2
          have : k = 51 := by omega
          subst this
          refine K37 _ _ _ _ ?_
          unfold lb_X8_drop_37
          refine br_t (by rw [zl51, zI_le (by omega)]; omega) ?_
          rw [show zI (x : Int) + (1 : Int32) = zI ((x + 1 : Nat) : Int) from zI_add _ 1]
          refine ih (x + 1) (by omega) (by omega) G2 ag2 (fun j hj => ?_)
          rw [hr2 j hj, show 18 + 51 * x + 51 = 18 + 51 * (x + 1) by omega]
        | succ g ih2 =>
          intro k hk G2 ag2 hr2
          refine K37 _ _ _ _ ?_
          unfold lb_X8_drop_37
          refine br_f (by rw [zl51, zI_le (by omega)]; omega) ?_
          rw [show zI (x : Int) + (1 : Int32) = zI ((x + 1 : Nat) : Int) from zI_add _ 1]
          refine wM_of1G (x + 1) k rfl rfl (by omega) (by omega) ?_
          rw [hr2 _ (by omega), if_neg (show ¬ (18 + 51 * m ≤ 18 + 51 * (x + 1) + k ∧ 18 + 51 * (x + 1) + k < 18 + 51 * x + k) by omega)]
          refine wM_put x k rfl rfl (by omega) (by omega) (fun G24 e24 => ?_)
          rw [show zI (k : Int) + (1 : Int32) = zI ((k + 1 : Nat) : Int) from zI_add _ 1]
          refine ih2 (k + 1) (by omega) G24 (by rw [e24]; exact ag2.up ⟨rfl, rfl⟩) (fun j hj => ?_)
          rw [e24, gs_eq]
          by_cases u : j = 18 + 51 * x + k
          · rw [u, upd_eq, if_pos (by omega), show 18 + 51 * x + k + 51 = 18 + 51 * (x + 1) + k by omega]
          · rw [upd_ne u, hr2 j hj]
            by_cases w : 18 + 51 * m ≤ j ∧ j < 18 + 51 * x + k
            · rw [if_pos w, if_pos (by omega)]
            · rw [if_neg w, if_neg (by omega)]
      exact inner 51 0 (by omega) G' ag hr
  exact rows (R 1 - 1 - m) m (Nat.le_refl _) (by omega) G (Ag.rf G) (fun j hj => by rw [if_neg (by omega)]; exact hM.at hj)
end
