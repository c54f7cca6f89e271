/-! ===== bytes fed, both sides ===== -/
def bt (v : Int32) : Nat := (v.toInt % 256).toNat
theorem bt_lt (v : Int32) : bt v < 256 := by
  unfold bt
  omega
theorem bt_nb (v : Int32) : nb v = zI (sb (bt v)) := by
  have e : nb v = zI (v.toInt.bmod 256) := by
    have := zI_nbG v.toInt
    rw [← zI_of v] at this
    exact this
  rw [e]
  apply zI_cg
  unfold sb bt
  rw [Int.bmod_def]
  split <;> split <;> omega
theorem bt_and (v : Int32) : v &&& (255 : Int32) = zI (bt v : Int) := by
  rw [← zI_nI]
  apply Int32.toBitVec_inj.mp
  apply BitVec.eq_of_toNat_eq
  show (v.toBitVec &&& (255#32)).toNat = (BitVec.ofNat 32 (bt v)).toNat
  have h1 : v.toBitVec.toNat &&& (255#32).toNat = v.toBitVec.toNat % 256 := Nat.and_two_pow_sub_one_eq_mod _ 8
  have h2 := bt_lt v
  have h3 : v.toInt = v.toBitVec.toInt := rfl
  have h4 := v.toBitVec.isLt
  rw [BitVec.toNat_and, h1, BitVec.toNat_ofNat, Nat.mod_eq_of_lt (show bt v < 2 ^ 32 from Nat.lt_trans h2 (by decide))]
  unfold bt
  rw [h3, BitVec.toInt_eq_toNat_cond]
  split <;> omega
def by4 (x : Int32) (k : Nat) : Nat := bt (x >>> (zI (24 - 8 * (k : Int)) &&& 31))
/-- k bytes of four, put behind the s bytes of a tape -/
def apB (b : Nat → Nat) (s : Nat) (x : Int32) (k : Nat) : Nat → Nat := fun j => if s ≤ j ∧ j < s + k then by4 x (j - s) else b j
section
variable {G : GH} {b : Nat → Nat} {s : Nat}
theorem apB_TB {x : Int32} {k : Nat} {f : Nat → Int32} (h : TB (apB b s x k) f) (hs : s + k < 700) : TB (apB b s x (k + 1)) (upd f (s + k) (nb (x >>> (zI (24 - 8 * (k : Int)) &&& 31)))) := by
  intro j hj
  unfold apB
  by_cases w : j = s + k
  · rw [w, upd_eq, if_pos (by omega), show s + k - s = k by omega]
    exact ⟨bt_nb _, bt_lt _⟩
  · rw [upd_ne w]
    have := h j hj
    unfold apB at this
    by_cases z : s ≤ j ∧ j < s + k
    · rw [if_pos z] at this
      rw [if_pos (by omega)]
      exact this
    · rw [if_neg z] at this
      rw [if_neg (by omega)]
      exact this
theorem wI_append {post : GH → Prop} {x : Int32} (hB : TB b (G 1 1)) (h1 : G 1 0 1 = zI s) (hs : s + 4 ≤ 700) (hp : ∀ G', Ag (fun y c j => y = 1 ∧ (c = 1 ∨ c = 0 ∧ j = 1)) G G' → TB (apB b s x 4) (G' 1 1) → G' 1 0 1 = zI ((s + 4 : Nat) : Int) → post G') : wp_X6_append post x G := by
  unfold wp_X6_append
  intro P K
  have main : ∀ f k : Nat, k + f = 4 → ∀ G', Ag (fun y c j => y = 1 ∧ (c = 1 ∨ c = 0 ∧ j = 1)) G G' → TB (apB b s x k) (G' 1 1) → G' 1 0 1 = zI ((s + k : Nat) : Int) → P x (zI (24 - 8 * (k : Int))) G' := by
    intro f
    induction f with
    | zero =>
      intro k hk G' ag hB' h1'
      have : k = 4 := by omega
      subst this
      refine K _ _ _ ?_
      unfold lb_X6_append_3
      exact br_t (by rw [zl0, zI_lt (by omega)]; omega) (hp G' ag hB' h1')
    | succ f ih =>
      intro k hk G' ag hB' h1'
      refine K _ _ _ ?_
      unfold lb_X6_append_3
      refine br_f (by rw [zl0, zI_lt (by omega)]; omega) ?_
      rw [h1', zl700, zI_le (by omega)]
      refine br_f (by omega) ⟨zI_in (by omega), ?_⟩
      rw [zI_clN (by omega)]
      intro G3 e3 G4 e4
      rw [show (-8 : Int32) = zI (-8) from rfl, zI_add, show ((24 : Int) - 8 * (k : Int) + -8) = 24 - 8 * ((k + 1 : Nat) : Int) by omega]
      have k3 : G3 1 0 1 = zI ((s + k : Nat) : Int) := by
        rw [e3, gs_ne (by decide)]
        exact h1'
      refine ih (k + 1) (by omega) G4 ?_ ?_ ?_
      · rw [e4, e3]
        exact (ag.up ⟨rfl, Or.inl rfl⟩).up ⟨rfl, Or.inr ⟨rfl, rfl⟩⟩
      · rw [e4, gs_ne (by decide), e3, gs_eq]
        exact apB_TB hB' (by omega)
      · rw [e4, gs_eq, upd_eq, k3, show zI ((s + k : Nat) : Int) + (1 : Int32) = zI ((s + (k + 1) : Nat) : Int) from zI_add _ 1]
  refine main 4 0 (by omega) G (Ag.rf G) (fun j hj => ?_) h1
  unfold apB
  rw [if_neg (by omega)]
  exact hB j hj
end
/-- the tape once five times four bytes are fed -/
def fdB (b : Nat → Nat) (s : Nat) (x1 x2 x3 x4 x5 : Int32) : Nat → Nat := apB (apB (apB (apB (apB b s x1 4) (s + 4) x2 4) (s + 8) x3 4) (s + 12) x4 4) (s + 16) x5 4
section
variable {G : GH} {b : Nat → Nat} {s : Nat} {x1 x2 x3 x4 x5 : Int32} {post : Int32 → GH → Prop}
theorem wI_feed (hB : TB b (G 1 1)) (h1 : G 1 0 1 = zI s) (hs : s ≤ 700) (hf : 680 < s → post (-1 : Int32) G) (ht : s ≤ 680 → ∀ G', Ag (fun y c j => y = 1 ∧ (c = 1 ∨ c = 0 ∧ j = 1)) G G' → TB (fdB b s x1 x2 x3 x4 x5) (G' 1 1) → G' 1 0 1 = zI ((s + 20 : Nat) : Int) → post (zI ((s + 20 : Nat) : Int)) G') : wp_X7_feed post x1 x2 x3 x4 x5 G := by
  unfold wp_X7_feed
  rw [h1, show (680 : Int32) = zI 680 from rfl, zI_le (by omega)]
  refine br_c (fun w => ?_) (fun w => hf (by omega))
  refine wI_append hB h1 (by omega) (fun G2 ag2 hB2 q2 => ?_)
  refine wI_append hB2 q2 (by omega) (fun G4 ag4 hB4 q4 => ?_)
  refine wI_append hB4 q4 (by omega) (fun G6 ag6 hB6 q6 => ?_)
  refine wI_append hB6 q6 (by omega) (fun G8 ag8 hB8 q8 => ?_)
  refine wI_append hB8 q8 (by omega) (fun G10 ag10 hB10 q10 => ?_)
  rw [q10]
  exact ht (by omega) G10 ((((ag2.tr ag4).tr ag6).tr ag8).tr ag10) hB10 q10
theorem rem4 {k : Nat} (hk : k < 20) : zI (k : Int) - zI (k : Int) / (4 : Int32) * (4 : Int32) = zI ((k % 4 : Nat) : Int) := by
  rw [zl4, zI_div (by omega), zI_mul, zI_sub]
  exact zI_cg (by omega)
set_option maxHeartbeats 1000000 in
theorem wM_feed (hB : MB b (G 24 32)) (h1 : G 24 0 32 = zI s) (hs : s ≤ 700) (hf : 680 < s → ∀ G', Ag (fun y c j => y = 24 ∧ (c = 32 ∨ c = 0 ∧ (j = 5 ∨ j = 32))) G G' → MB b (G' 24 32) → G' 24 0 32 = zI s → G' 24 0 5 = 0 → post (-1 : Int32) G') (ht : s ≤ 680 → ∀ G', Ag (fun y c j => y = 24 ∧ (c = 32 ∨ c = 0 ∧ (j = 5 ∨ j = 32))) G G' → MB (fdB b s x1 x2 x3 x4 x5) (G' 24 32) → G' 24 0 32 = zI ((s + 20 : Nat) : Int) → G' 24 0 5 = 0 → post (zI ((s + 20 : Nat) : Int)) G') : wp_X8_feed post x1 x2 x3 x4 x5 G := by
  unfold wp_X8_feed
  intro G1 e1
  have a1 : Ag (fun y c j => y = 24 ∧ (c = 32 ∨ c = 0 ∧ (j = 5 ∨ j = 32))) G G1 := by
    rw [e1]
    exact (Ag.rf G).up ⟨rfl, by omega⟩
  have k32 : G1 24 0 32 = zI s := by
    rw [e1, gs_eq, upd_ne (by decide)]
    exact h1
  have k5 : G1 24 0 5 = 0 := by rw [e1, gs_eq, upd_eq]
  have hB1 : MB b (G1 24 32) := by
    rw [e1, gs_ne (by decide)]
    exact hB
  rw [k32, zl20, zI_add, zl700, zI_le (by omega)]
  refine br_c (fun w => ?_) (fun w => hf (by omega) G1 a1 hB1 k32 k5)
  intro P K
  -- byte k of what is fed
  have fdk : ∀ j, fdB b s x1 x2 x3 x4 x5 j = if s ≤ j ∧ j < s + 20 then by4 (if j - s < 4 then x1 else if j - s < 8 then x2 else if j - s < 12 then x3 else if j - s < 16 then x4 else x5) ((j - s) % 4) else b j := by
    intro j
    unfold fdB apB
    by_cases c5 : s + 16 ≤ j ∧ j < s + 16 + 4
    · rw [if_pos c5, if_pos (by omega), if_neg (by omega), if_neg (by omega), if_neg (by omega), if_neg (by omega)]
      congr 1
      omega
    · rw [if_neg c5]
      by_cases c4 : s + 12 ≤ j ∧ j < s + 12 + 4
      · rw [if_pos c4, if_pos (by omega), if_neg (by omega), if_neg (by omega), if_neg (by omega), if_pos (by omega)]
        congr 1
        omega
      · rw [if_neg c4]
        by_cases c3 : s + 8 ≤ j ∧ j < s + 8 + 4
        · rw [if_pos c3, if_pos (by omega), if_neg (by omega), if_neg (by omega), if_pos (by omega)]
          congr 1
          omega
        · rw [if_neg c3]
          by_cases c2 : s + 4 ≤ j ∧ j < s + 4 + 4
          · rw [if_pos c2, if_pos (by omega), if_neg (by omega), if_pos (by omega)]
            congr 1
            omega
          · rw [if_neg c2]
            by_cases c1 : s ≤ j ∧ j < s + 4
            · rw [if_pos c1, if_pos (by omega), if_pos (by omega)]
              congr 1
              omega
            · rw [if_neg c1, if_neg (by omega)]
  have main : ∀ f k : Nat, k + f = 20 → ∀ G', Ag (fun y c j => y = 24 ∧ (c = 32 ∨ c = 0 ∧ (j = 5 ∨ j = 32))) G G' → (∀ j, j < 700 → G' 24 32 j = zI ((if j < s + k then fdB b s x1 x2 x3 x4 x5 j else b j : Nat) : Int)) → G' 24 0 32 = zI ((s + k : Nat) : Int) → G' 24 0 5 = 0 → P x1 x2 x3 x4 x5 (zI k) G' := by
    intro f
    induction f with
    | zero =>
      intro k hk G' ag hr q32 q5
      have : k = 20 := by omega
      subst this
      refine K _ _ _ _ _ _ _ ?_
      unfold lb_X8_feed_23
      refine br_t (by rw [zl20, zI_le (by omega)]; omega) ?_
      rw [q32]
      refine ht (by omega) G' ag (fun j hj => ?_) q32 q5
      rw [hr j hj]
      have hb := (hB j hj).2
      have e := fdk j
      refine ⟨?_, ?_⟩
      · by_cases u : j < s + 20
        · rw [if_pos u]
        · rw [if_neg u, e, if_neg (by omega)]
      · rw [e]
        split
        · exact bt_lt _
        · exact hb
    | succ f ih =>
      intro k hk G' ag hr q32 q5
      have j76 : ∀ x : Int32, x = (if k < 4 then x1 else if k < 8 then x2 else if k < 12 then x3 else if k < 16 then x4 else x5) → j_X8_feed_76 post P x1 x2 x3 x4 x5 (zI k) x G' := by
        intro x hx
        unfold j_X8_feed_76
        rw [q32]
        refine ⟨zI_in (by omega), ?_⟩
        rw [zI_clN (by omega), rem4 (by omega), show (24 : Int32) = zI 24 from rfl, zl8, zI_mul, zI_sub, bt_and]
        intro G8 e8 G9 e9
        have k8 : G8 24 0 32 = zI ((s + k : Nat) : Int) := by
          rw [e8, gs_ne (by decide)]
          exact q32
        rw [show zI (k : Int) + (1 : Int32) = zI ((k + 1 : Nat) : Int) from zI_add _ 1]
        refine ih (k + 1) (by omega) G9 ?_ (fun j hj => ?_) ?_ ?_
        · rw [e9, e8]
          exact (ag.up ⟨rfl, Or.inl rfl⟩).up ⟨rfl, by omega⟩
        · rw [e9, gs_ne (by decide), e8, gs_eq]
          by_cases u : j = s + k
          · subst u
            rw [upd_eq, if_pos (by omega), fdk, if_pos (by omega), show s + k - s = k by omega, ← hx]
            rfl
          · rw [upd_ne u, hr j hj]
            by_cases v : j < s + k
            · rw [if_pos v, if_pos (by omega)]
            · rw [if_neg v, if_neg (by omega)]
        · rw [e9, gs_eq, upd_eq, k8, show zI ((s + k : Nat) : Int) + (1 : Int32) = zI ((s + (k + 1) : Nat) : Int) from zI_add _ 1]
        · rw [e9, gs_eq, upd_ne (by decide), e8, gs_ne (by decide)]
          exact q5
      refine K _ _ _ _ _ _ _ ?_
      unfold lb_X8_feed_23
      refine br_f (by rw [zl20, zI_le (by omega)]; omega) ?_
      rw [zl4, zl8, zl12, zl16, zI_le (by omega), zI_le (by omega), zI_le (by omega), zI_le (by omega)]
      refine br_c (fun u1 => br_c (fun u2 => br_c (fun u3 => br_c (fun u4 => ?_) (fun u4 => ?_)) (fun u3 => ?_)) (fun u2 => ?_)) (fun u1 => ?_)
      · exact j76 x5 (by rw [if_neg (by omega), if_neg (by omega), if_neg (by omega), if_neg (by omega)])
      · exact j76 x4 (by rw [if_neg (by omega), if_neg (by omega), if_neg (by omega), if_pos (by omega)])
      · exact j76 x3 (by rw [if_neg (by omega), if_neg (by omega), if_pos (by omega)])
      · exact j76 x2 (by rw [if_neg (by omega), if_pos (by omega)])
      · exact j76 x1 (by rw [if_pos (by omega)])
  exact main 20 0 (by omega) G1 a1 (fun j hj => by
    rw [(hB1 j hj).1]
    by_cases u : j < s + 0
    · rw [if_pos u, fdk, if_neg (by omega)]
    · rw [if_neg u]) k32 k5
end
