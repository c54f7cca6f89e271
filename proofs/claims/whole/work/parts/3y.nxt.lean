/-! ===== the next change; halves with priority ===== -/
/-- no event of a mark in a half (none: in any) lies between -/
def qui (R : RR) (hf : Option Nat) (m d N : Nat) : Prop := ¬ (d < qq R m 12 ∧ qq R m 12 < N) ∧ ∀ k, k < qq R m 13 → (hf = none ∨ hf = some (qq R m (14 + 3 * k))) → ¬ (d < qq R m (15 + 3 * k) ∧ qq R m (15 + 3 * k) < N) ∧ ¬ (d < qq R m (16 + 3 * k) + R 6 + 1 ∧ qq R m (16 + 3 * k) + R 6 + 1 < N)
section
variable {R : RR} {G : GH} {n o : Nat} {post : Int32 → GH → Prop}
theorem wI_sooner {a b d : Nat} (ha : a ≤ 20000) (hb : b ≤ 20000) (hd : d ≤ 9999) (had : d < a) (hp : ∀ c : Nat, d < c → c ≤ a → ¬ (d < b ∧ b < c) → post (zI c) G) : wp_X4_sooner post (zI a) (zI b) (zI d) G := by
  unfold wp_X4_sooner
  rw [zI_le (by omega), zI_le (by omega)]
  refine br_c (fun q => hp a had (Nat.le_refl _) (by omega)) (fun q => br_c (fun q2 => hp a had (Nat.le_refl _) (by omega)) (fun q2 => hp b (by omega) (by omega) (by omega)))
theorem qui.le {R : RR} {hf : Option Nat} {m d N N' : Nat} (h : qui R hf m d N) (hl : N' ≤ N) : qui R hf m d N' := by
  refine ⟨fun z => h.1 ⟨z.1, by omega⟩, fun k hk he => ⟨fun z => (h.2 k hk he).1 ⟨z.1, by omega⟩, fun z => (h.2 k hk he).2 ⟨z.1, by omega⟩⟩⟩
set_option maxHeartbeats 2000000 in
theorem wI_nextChange {h d s : Nat} (hV : VR n R) (hn : n ≤ 13) (hC : CR R (G o)) (hd : d ≤ 9999) (hs : s < 8192) (hh : h < 12) (hp : ∀ N : Nat, d < N → N ≤ 10000 → (∀ m, m < R 1 → s.testBit m = true → qui R (some h) m d N) → post (zI N) G) : wp_X4_nextChange post o (zI h) (zI d) (zI s) G := by
  have h13 := Nat.le_trans hV.mk hn
  have r4 := hV.r4
  have er : G o 11 4 = zI (R 6) := hC.rl (w := 4) (by decide)
  unfold wp_X4_nextChange
  intro P8 K8
  have main : ∀ f m N : Nat, m + f = R 1 → d < N → N ≤ 10000 → (∀ i, i < m → s.testBit i = true → qui R (some h) i d N) → P8 (zI h) (zI d) (zI s) (zI N) (zI m) G := by
    intro f
    induction f with
    | zero =>
      intro m N hm hN1 hN2 hq
      refine K8 _ _ _ _ _ _ ?_
      unfold lb_X4_nextChange_8
      rw [hC.mk]
      refine br_t (by rw [zI_le (by omega)]; omega) ?_
      exact hp N hN1 hN2 (fun i hi hsi => hq i (by omega) hsi)
    | succ f ih =>
      intro m N hm hN1 hN2 hq
      have hmR : m < R 1 := by omega
      have hfl := hV.fl hmR
      have huc := hV.uc hmR
      refine K8 _ _ _ _ _ _ ?_
      unfold lb_X4_nextChange_8
      rw [hC.mk]
      refine br_f (by rw [zI_le (by omega)]; omega) ?_
      rw [wI_isIn (by omega) (by omega), zl1, zI_add]
      by_cases w : s.testBit m = true
      · refine br_bt w ⟨zI_in (by omega), ?_⟩
        rw [zI_clN (by omega), hC.fl hmR]
        refine wI_sooner (by omega) (by omega) hd hN1 (fun N1 a1 a2 a3 => ?_)
        intro P44 K44
        have inner : ∀ g k N' : Nat, k + g = qq R m 13 → d < N' → N' ≤ N1 → (∀ j, j < k → ((some h : Option Nat) = none ∨ some h = some (qq R m (14 + 3 * j))) → ¬ (d < qq R m (15 + 3 * j) ∧ qq R m (15 + 3 * j) < N') ∧ ¬ (d < qq R m (16 + 3 * j) + R 6 + 1 ∧ qq R m (16 + 3 * j) + R 6 + 1 < N')) → P44 (zI h) (zI d) (zI s) (zI N') (zI m) (zI k) G := by
          intro g
          induction g with
          | zero =>
            intro k N' hk b1 b2 hqk
            refine K44 _ _ _ _ _ _ _ ?_
            unfold lb_X4_nextChange_44
            refine ⟨zI_in (by omega), ?_⟩
            rw [zI_clN (by omega), hC.uc hmR]
            refine br_t (by rw [zI_le (by omega)]; omega) ?_
            rw [zl1, zI_add]
            refine ih (m + 1) N' (by omega) b1 (by omega) (fun i hi hsi => ?_)
            by_cases u : i = m
            · subst u
              exact ⟨by omega, fun j hj he => hqk j (by omega) he⟩
            · exact (hq i (by omega) hsi).le (by omega)
          | succ g ih2 =>
            intro k N' hk b1 b2 hqk
            have hk2 : k < qq R m 13 := by omega
            have u1 := hV.us1 hmR hk2
            have u2 := hV.us2 hmR hk2
            have u0 := hV.us0 hmR hk2
            have g0 : G o 8 (36 * m + 3 * k) = zI (qq R m (14 + 3 * k)) := hC.us hmR hk2 (j := 0) (by decide)
            have g1 : G o 8 (36 * m + 3 * k + 1) = zI (qq R m (15 + 3 * k)) := by rw [hC.us hmR hk2 (j := 1) (by decide), show 14 + 3 * k + 1 = 15 + 3 * k by omega]
            have g2 : G o 8 (36 * m + 3 * k + 2) = zI (qq R m (16 + 3 * k)) := by rw [hC.us hmR hk2 (j := 2) (by decide), show 14 + 3 * k + 2 = 16 + 3 * k by omega]
            have e1 : (zI ((36 * m + 3 * k : Nat) : Int) + (1 : Int32)).toNatClampNeg = 36 * m + 3 * k + 1 := by
              rw [zI_lit, zI_add, zI_cl (by omega)]; omega
            have e2 : (zI ((36 * m + 3 * k : Nat) : Int) + (2 : Int32)).toNatClampNeg = 36 * m + 3 * k + 2 := by
              rw [zI_lit, zI_add, zI_cl (by omega)]; omega
            have ek : zI (k : Int) + (1 : Int32) = zI ((k + 1 : Nat) : Int) := zI_add _ 1
            refine K44 _ _ _ _ _ _ _ ?_
            unfold lb_X4_nextChange_44
            refine ⟨zI_in (by omega), ?_⟩
            rw [zI_clN (by omega), hC.uc hmR]
            refine br_f (by rw [zI_le (by omega)]; omega) ?_
            rw [wI_useAt]
            refine ⟨zI_in (by omega), ?_⟩
            rw [zI_clN (n := 36 * m + 3 * k) (by omega), g0, zI_eq (by omega), ek]
            refine br_c (fun q2 => ?_) (fun q2 => ?_)
            · refine ⟨by rw [zl1, zI_add]; exact zI_in (by omega), ?_⟩
              rw [e1, g1]
              refine wI_sooner (by omega) (by omega) hd b1 (fun N2 c1 c2 c3 => ?_)
              refine ⟨by rw [zl2, zI_add]; exact zI_in (by omega), ?_⟩
              rw [e2, g2, er, zl1, zI_add, zI_add, show ((qq R m (16 + 3 * k) : Int) + (R 6 : Int) + 1) = ((qq R m (16 + 3 * k) + R 6 + 1 : Nat) : Int) by omega]
              refine wI_sooner (by omega) (by omega) hd c1 (fun N3 d1 d2 d3 => ?_)
              refine ih2 (k + 1) N3 (by omega) d1 (by omega) (fun j hj he => ?_)
              by_cases u : j = k
              · subst u
                exact ⟨by omega, d3⟩
              · have := hqk j (by omega) he
                omega
            · refine ih2 (k + 1) N' (by omega) b1 b2 (fun j hj he => ?_)
              by_cases u : j = k
              · subst u
                rcases he with he | he
                · cases he
                · exfalso
                  apply q2
                  rw [← Option.some.inj he]
              · exact hqk j (by omega) he
        exact inner (qq R m 13) 0 N1 (by omega) a1 (Nat.le_refl _) (fun j hj => by omega)
      · refine br_bf (by simpa using w) ?_
        refine ih (m + 1) N (by omega) hN1 hN2 (fun i hi hsi => ?_)
        by_cases u : i = m
        · subst u
          exact absurd hsi w
        · exact hq i (by omega) hsi
  exact main (R 1) 0 10000 (by omega) (by omega) (by omega) (fun i hi => by omega)
set_option maxHeartbeats 1000000 in
theorem wI_halvesWithPriority {m d : Nat} (hV : VR n R) (hn : n ≤ 13) (hC : CR R (G o)) (hm : m < R 1) (hd : d ≤ 9999) (hp : post (zI (bset (enB R d m) (2 * R 0))) G) : wp_X4_halvesWithPriority post o (zI m) (zI d) G := by
  have h13 := Nat.le_trans hV.mk hn
  have l6 := hV.l6
  unfold wp_X4_halvesWithPriority
  intro P5 K5
  have main : ∀ f h : Nat, h + f = 2 * R 0 → P5 (zI m) (zI d) (zI (bset (enB R d m) h)) (zI h) G := by
    intro f
    induction f with
    | zero =>
      intro h hh
      have : h = 2 * R 0 := by omega
      subst this
      refine K5 _ _ _ _ _ ?_
      unfold lb_X4_halvesWithPriority_5
      rw [wI_halfCount hC]
      exact br_t (by rw [zI_le (by omega)]; omega) hp
    | succ f ih =>
      intro h hh
      have hpr := pri_rg R m h d
      have := ih (h + 1) (by omega)
      have e : bset (enB R d m) (h + 1) = bset (enB R d m) h ||| (if enB R d m h = true then 2 ^ h else 0) := rfl
      rw [e] at this
      refine K5 _ _ _ _ _ ?_
      unfold lb_X4_halvesWithPriority_5
      rw [wI_halfCount hC]
      refine br_f (by rw [zI_le (by omega)]; omega) ?_
      refine wI_priorityOf hV hn hC hm (by omega) hd ?_
      refine br_c (fun q => ?_) (fun q => ?_)
      · rw [zl1, zI_neg, zI_eq (by omega)] at q
        rw [zl1, zI_add]
        rw [if_neg (by unfold enB; rw [decide_eq_false (fun z => z q)]; decide), Nat.or_zero] at this
        exact this
      · rw [zl1, zI_neg, zI_eq (by omega)] at q
        rintro _ rfl
        rw [zI_bit (by omega), zI_or, zl1, zI_add]
        rw [if_pos (by unfold enB; exact decide_eq_true q)] at this
        exact this
  exact main (2 * R 0) 0 (by omega)
end
