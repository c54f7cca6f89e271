/-! ===== what is kept ahead of acts; a mark dropped: in the reference ===== -/
def PS (a : Nat) (Rp : Nat → RR) (f : Nat → Int32) : Prop := ∀ i j, i < a → j < 681 → f (681 * i + j) = zI (Rp i j)
def kpP (a : Nat) (Rp : Nat → RR) (R : RR) : Nat → RR := if a = 12 then (fun i => if i = 11 then R else Rp (i + 1)) else fun i => if i = a then R else Rp i
def kpA (a : Nat) : Nat := if a = 12 then 12 else a + 1
def WKp (x c j : Nat) : Prop := x = 24 ∧ (c = 4 ∨ c = 0 ∧ (j = 4 ∨ j = 7))
section
variable {R : RR} {G : GH} {n m a : Nat} {Rp : Nat → RR}
theorem wM_keep2 {post : GH → Prop} (hM : MR R (G 24 1)) (ha : a < 12) (h4 : G 24 0 4 = zI a) (hP : PS a Rp (G 24 4)) (hp : ∀ G', Ag WKp G G' → G' 24 0 7 = 0 → G' 24 0 4 = zI ((a + 1 : Nat) : Int) → PS (a + 1) (fun i => if i = a then R else Rp i) (G' 24 4) → post G') : j_X8_keep_52 post G := by
  unfold j_X8_keep_52
  intro P K
  have main : ∀ f k : Nat, k + f = 681 → ∀ G', Ag (fun x c _ => x = 24 ∧ c = 4) G G' → PS a Rp (G' 24 4) → (∀ j, j < k → G' 24 4 (681 * a + j) = zI (R j)) → P (zI k) G' := by
    intro f
    induction f with
    | zero =>
      intro k hk G' ag hP' hr
      have e0 : G' 24 0 = G 24 0 := ag.ce 24 0 (fun j z => by omega)
      refine K _ _ ?_
      unfold lb_X8_keep_54
      refine br_t (by rw [zl681, zI_le (by omega)]; omega) ?_
      intro G3 e3 G4 e4
      refine hp G4 ?_ (by rw [e4, gs_eq, upd_eq]) ?_ ?_
      · rw [e4, e3]
        exact ((ag.mo (fun x c j z => ⟨z.1, Or.inl z.2⟩)).up ⟨rfl, by omega⟩).up ⟨rfl, by omega⟩
      · rw [e4, gs_eq, upd_ne (by decide), e3, gs_eq, upd_eq, e0, h4]
        exact zI_add _ 1
      · have e44 : G4 24 4 = G' 24 4 := by rw [e4, gs_ne (by decide), e3, gs_ne (by decide)]
        rw [e44]
        intro i j hi hj
        dsimp only
        by_cases w : i = a
        · rw [if_pos w, w]
          exact hr j (by omega)
        · rw [if_neg w]
          exact hP' i j (by omega) hj
    | succ f ih =>
      intro k hk G' ag hP' hr
      have e0 : G' 24 0 = G 24 0 := ag.ce 24 0 (fun j z => by omega)
      have hM' : MR R (G' 24 1) := hM.fr ag (fun j z => by omega)
      refine K _ _ ?_
      unfold lb_X8_keep_54
      refine br_f (by rw [zl681, zI_le (by omega)]; omega) ⟨zI_in (by omega), ?_⟩
      rw [e0, h4, zl681, zI_mul, zI_add, show ((681 : Int) * (a : Int) + (k : Int)) = ((681 * a + k : Nat) : Int) by omega]
      refine ⟨zI_in (by omega), ?_⟩
      intro G5 e5
      rw [zI_clN (n := 681 * a + k) (by omega), zI_clN (n := k) (by omega), hM'.at (by omega)] at e5
      rw [show zI (k : Int) + (1 : Int32) = zI ((k + 1 : Nat) : Int) from zI_add _ 1]
      refine ih (k + 1) (by omega) G5 (by rw [e5]; exact ag.up ⟨rfl, rfl⟩) (fun i j hi hj => ?_) (fun j hj => ?_)
      · have : 681 * i + 681 ≤ 681 * a := by omega
        rw [e5, gs_eq, upd_ne (by omega)]
        exact hP' i j hi hj
      · rw [e5, gs_eq]
        by_cases w : j = k
        · rw [w, upd_eq]
        · rw [upd_ne (by omega)]
          exact hr j (by omega)
  exact main 681 0 (by omega) G (Ag.rf G) hP (fun j hj => by omega)
set_option maxHeartbeats 1000000 in
theorem wM_keep {post : GH → Prop} (hM : MR R (G 24 1)) (ha : a ≤ 12) (h4 : G 24 0 4 = zI a) (hP : PS a Rp (G 24 4)) (hp : ∀ G', Ag WKp G G' → G' 24 0 7 = 0 → G' 24 0 4 = zI (kpA a) → PS (kpA a) (kpP a Rp R) (G' 24 4) → post G') : wp_X8_keep post G := by
  unfold wp_X8_keep
  unfold kpA kpP at hp
  rw [h4, zl12, zI_eq (by omega)]
  refine br_c (fun w => ?_) (fun w => ?_)
  · have w : a = 12 := by omega
    subst w
    rw [if_pos rfl, if_pos rfl] at hp
    intro P K
    have main : ∀ f k : Nat, 681 ≤ k → k + f = 8172 → ∀ G', Ag (fun x c _ => x = 24 ∧ c = 4) G G' → (∀ j, j < 8172 → G' 24 4 j = if j + 681 < k then G 24 4 (j + 681) else G 24 4 j) → P (zI k) G' := by
      intro f
      induction f with
      | zero =>
        intro k hk1 hk G' ag hr
        have e0 : G' 24 0 = G 24 0 := ag.ce 24 0 (fun j z => by omega)
        refine K _ _ ?_
        unfold lb_X8_keep_13
        refine br_t (by rw [zl8172, zI_le (by omega)]; omega) ?_
        intro G7 e7
        have ag7 : Ag WKp G G7 := by
          rw [e7]
          exact (ag.mo (fun x c j z => ⟨z.1, Or.inl z.2⟩)).up ⟨rfl, by omega⟩
        refine wM_keep2 (a := 11) (Rp := fun i => Rp (i + 1)) (hM.fr ag7 (fun j z => by unfold WKp at z; omega)) (by omega) ?_ (fun i j hi hj => ?_) (fun G8 ag8 h7 q4 hP8 => hp G8 (ag7.tr ag8) h7 q4 hP8)
        · rw [e7, gs_eq, upd_eq, e0, h4]
          rfl
        · rw [e7, gs_ne (by decide), hr _ (by omega), if_pos (by omega), show 681 * i + j + 681 = 681 * (i + 1) + j by omega]
          exact hP (i + 1) j (by omega) hj
      | succ f ih =>
        intro k hk1 hk G' ag hr
        refine K _ _ ?_
        unfold lb_X8_keep_13
        refine br_f (by rw [zl8172, zI_le (by omega)]; omega) ⟨zI_in (by omega), ?_⟩
        rw [zl681, zI_sub, show ((k : Int) - 681) = ((k - 681 : Nat) : Int) by omega]
        refine ⟨zI_in (by omega), ?_⟩
        intro G8 e8
        rw [zI_clN (n := k - 681) (by omega), zI_clN (n := k) (by omega), hr k (by omega), if_neg (by omega)] at e8
        rw [show zI (k : Int) + (1 : Int32) = zI ((k + 1 : Nat) : Int) from zI_add _ 1]
        refine ih (k + 1) (by omega) (by omega) G8 (by rw [e8]; exact ag.up ⟨rfl, rfl⟩) (fun j hj => ?_)
        rw [e8, gs_eq]
        by_cases w : j = k - 681
        · rw [w, upd_eq, if_pos (by omega), show k - 681 + 681 = k by omega]
        · rw [upd_ne w, hr j hj]
          by_cases z : j + 681 < k
          · rw [if_pos z, if_pos (by omega)]
          · rw [if_neg z, if_neg (by omega)]
    rw [show (681 : Int32) = zI ((681 : Nat) : Int) from rfl]
    exact main 7491 681 (by omega) (by omega) G (Ag.rf G) (fun j hj => by rw [if_neg (by omega)])
  · have w : ¬ a = 12 := by omega
    rw [if_neg w, if_neg w] at hp
    exact wM_keep2 hM (by omega) h4 hP hp
theorem wM_undo {post : Int32 → GH → Prop} (ha : a ≤ 12) (h4 : G 24 0 4 = zI a) (hP : PS a Rp (G 24 4)) (hf : a = 0 → ∀ G', Ag (fun x c j => x = 24 ∧ c = 0 ∧ j = 5) G G' → G' 24 0 5 = 0 → post (-1 : Int32) G') (ht : ∀ b, a = b + 1 → ∀ G', Ag (fun x c j => x = 24 ∧ (c = 1 ∨ c = 0 ∧ (j = 4 ∨ j = 5 ∨ j = 7))) G G' → MR (Rp b) (G' 24 1) → G' 24 0 5 = 0 → G' 24 0 4 = zI b → G' 24 0 7 = 0 → post (zI b) G') : wp_X8_undo post G := by
  unfold wp_X8_undo
  intro G1 e1
  have k4 : G1 24 0 4 = zI a := by
    rw [e1, gs_eq, upd_ne (by decide)]
    exact h4
  have k5 : G1 24 0 5 = 0 := by rw [e1, gs_eq, upd_eq]
  rw [k4, zl0, zI_eq (by omega)]
  refine br_c (fun w => hf (by omega) G1 (by rw [e1]; exact (Ag.rf G).up ⟨rfl, rfl, rfl⟩) k5) (fun w => ?_)
  obtain ⟨b, rfl⟩ : ∃ b, a = b + 1 := ⟨a - 1, by omega⟩
  intro G3 e3
  have a3 : Ag (fun x c j => x = 24 ∧ (c = 1 ∨ c = 0 ∧ (j = 4 ∨ j = 5 ∨ j = 7))) G G3 := by
    rw [e3, e1]
    exact ((Ag.rf G).up ⟨rfl, by omega⟩).up ⟨rfl, by omega⟩
  have q4 : G3 24 0 4 = zI b := by
    rw [e3, gs_eq, upd_eq, zl1, zI_sub]
    exact zI_cg (by omega)
  have q5 : G3 24 0 5 = 0 := by
    rw [e3, gs_eq, upd_ne (by decide)]
    exact k5
  have hP3 : PS (b + 1) Rp (G3 24 4) := by
    rw [e3, gs_ne (by decide), e1, gs_ne (by decide)]
    exact hP
  intro P K
  have main : ∀ f k : Nat, k + f = 681 → ∀ G', Ag (fun x c _ => x = 24 ∧ c = 1) G3 G' → (∀ j, j < k → G' 24 1 j = zI (Rp b j)) → P (zI k) G' := by
    intro f
    induction f with
    | zero =>
      intro k hk G' ag hr
      have e0 : G' 24 0 = G3 24 0 := ag.ce 24 0 (fun j z => by omega)
      refine K _ _ ?_
      unfold lb_X8_undo_26
      refine br_t (by rw [zl681, zI_le (by omega)]; omega) ?_
      intro G5 e5
      have f4 : G5 24 0 4 = zI b := by
        rw [e5, gs_eq, upd_ne (by decide), e0]
        exact q4
      rw [f4]
      refine ht b rfl G5 ?_ ?_ ?_ f4 (by rw [e5, gs_eq, upd_eq])
      · rw [e5]
        exact (a3.wk ag (fun x c j z => ⟨z.1, Or.inl z.2⟩)).up ⟨rfl, by omega⟩
      · rw [e5, gs_ne (by decide)]
        intro j hj
        exact hr j (by omega)
      · rw [e5, gs_eq, upd_ne (by decide), e0]
        exact q5
    | succ f ih =>
      intro k hk G' ag hr
      have e0 : G' 24 0 = G3 24 0 := ag.ce 24 0 (fun j z => by omega)
      have e4 : G' 24 4 = G3 24 4 := ag.ce 24 4 (fun j z => by omega)
      refine K _ _ ?_
      unfold lb_X8_undo_26
      refine br_f (by rw [zl681, zI_le (by omega)]; omega) ?_
      rw [e0, q4, zl681, zI_mul, zI_add, show ((681 : Int) * (b : Int) + (k : Int)) = ((681 * b + k : Nat) : Int) by omega]
      refine ⟨zI_in (by omega), zI_in (by omega), ?_⟩
      intro G6 e6
      rw [zI_clN (n := 681 * b + k) (by omega), zI_clN (n := k) (by omega), e4, hP3 b k (by omega) (by omega)] at e6
      rw [show zI (k : Int) + (1 : Int32) = zI ((k + 1 : Nat) : Int) from zI_add _ 1]
      refine ih (k + 1) (by omega) G6 (by rw [e6]; exact ag.up ⟨rfl, rfl⟩) (fun j hj => ?_)
      rw [e6, gs_eq]
      by_cases w : j = k
      · rw [w, upd_eq]
      · rw [upd_ne w]
        exact hr j (by omega)
  exact main 681 0 (by omega) G3 (Ag.rf G3) (fun j hj => by omega)
theorem wM_image {post : GH → Prop} (hM : MR R (G 24 1)) (hp : ∀ G', Ag (fun x c j => x = 24 ∧ (c = 3 ∨ c = 0 ∧ (j = 5 ∨ j = 6))) G G' → MR R (G' 24 3) → G' 24 0 5 = 0 → G' 24 0 6 = 1 → post G') : wp_X8_image post G := by
  unfold wp_X8_image
  intro G1 e1
  have a1 : Ag (fun x c j => x = 24 ∧ (c = 3 ∨ c = 0 ∧ (j = 5 ∨ j = 6))) G G1 := by
    rw [e1]
    exact (Ag.rf G).up ⟨rfl, by omega⟩
  have k5 : G1 24 0 5 = 0 := by rw [e1, gs_eq, upd_eq]
  have hM1 : MR R (G1 24 1) := by
    rw [e1, gs_ne (by decide)]
    exact hM
  intro P K
  have main : ∀ f k : Nat, k + f = 681 → ∀ G', Ag (fun x c _ => x = 24 ∧ c = 3) G1 G' → (∀ j, j < k → G' 24 3 j = zI (R j)) → P (zI k) G' := by
    intro f
    induction f with
    | zero =>
      intro k hk G' ag hr
      refine K _ _ ?_
      unfold lb_X8_image_7
      refine br_t (by rw [zl681, zI_le (by omega)]; omega) ?_
      intro G3 e3
      refine hp G3 ?_ ?_ ?_ (by rw [e3, gs_eq, upd_eq])
      · rw [e3]
        exact (a1.wk ag (fun x c j z => ⟨z.1, Or.inl z.2⟩)).up ⟨rfl, by omega⟩
      · rw [e3, gs_ne (by decide)]
        intro j hj
        exact hr j (by omega)
      · rw [e3, gs_eq, upd_ne (by decide), ag.ce 24 0 (fun j z => by omega)]
        exact k5
    | succ f ih =>
      intro k hk G' ag hr
      have hM' : MR R (G' 24 1) := hM1.fr ag (fun j z => by omega)
      refine K _ _ ?_
      unfold lb_X8_image_7
      refine br_f (by rw [zl681, zI_le (by omega)]; omega) ⟨zI_in (by omega), zI_in (by omega), ?_⟩
      intro G4 e4
      rw [zI_clN (by omega), hM'.at (by omega)] at e4
      rw [show zI (k : Int) + (1 : Int32) = zI ((k + 1 : Nat) : Int) from zI_add _ 1]
      refine ih (k + 1) (by omega) G4 (by rw [e4]; exact ag.up ⟨rfl, rfl⟩) (fun j hj => ?_)
      rw [e4, gs_eq]
      by_cases w : j = k
      · rw [w, upd_eq]
      · rw [upd_ne w]
        exact hr j (by omega)
  exact main 681 0 (by omega) G1 (Ag.rf G1) (fun j hj => by omega)
theorem wM_back {post : Bool → GH → Prop} (hf : G 24 0 6 = 0 → ∀ G', Ag (fun x c j => x = 24 ∧ c = 0 ∧ j = 5) G G' → G' 24 0 5 = 0 → post false G') (hk : G 24 0 6 ≠ 0 → MR R (G 24 3)) (ht : G 24 0 6 ≠ 0 → ∀ G', Ag (fun x c j => x = 24 ∧ (c = 1 ∨ c = 0 ∧ (j = 4 ∨ j = 5 ∨ j = 7))) G G' → MR R (G' 24 1) → G' 24 0 5 = 0 → G' 24 0 4 = zI 0 → G' 24 0 7 = 0 → post true G') : wp_X8_back post G := by
  unfold wp_X8_back
  intro G1 e1
  have k6 : G1 24 0 6 = G 24 0 6 := by rw [e1, gs_eq, upd_ne (by decide)]
  have k5 : G1 24 0 5 = 0 := by rw [e1, gs_eq, upd_eq]
  rw [k6]
  refine br_c (fun w => hf w G1 (by rw [e1]; exact (Ag.rf G).up ⟨rfl, rfl, rfl⟩) k5) (fun w => ?_)
  have a1 : Ag (fun x c j => x = 24 ∧ (c = 1 ∨ c = 0 ∧ (j = 4 ∨ j = 5 ∨ j = 7))) G G1 := by
    rw [e1]
    exact (Ag.rf G).up ⟨rfl, by omega⟩
  have hM3 : MR R (G1 24 3) := by
    rw [e1, gs_ne (by decide)]
    exact hk w
  intro P K
  have main : ∀ f k : Nat, k + f = 681 → ∀ G', Ag (fun x c _ => x = 24 ∧ c = 1) G1 G' → (∀ j, j < k → G' 24 1 j = zI (R j)) → P (zI k) G' := by
    intro f
    induction f with
    | zero =>
      intro k hk G' ag hr
      refine K _ _ ?_
      unfold lb_X8_back_16
      refine br_t (by rw [zl681, zI_le (by omega)]; omega) ?_
      intro G4 e4 G5 e5
      refine ht w G5 ?_ ?_ ?_ ?_ (by rw [e5, gs_eq, upd_eq])
      · rw [e5, e4]
        exact ((a1.wk ag (fun x c j z => ⟨z.1, Or.inl z.2⟩)).up ⟨rfl, by omega⟩).up ⟨rfl, by omega⟩
      · rw [e5, gs_ne (by decide), e4, gs_ne (by decide)]
        intro j hj
        exact hr j (by omega)
      · rw [e5, gs_eq, upd_ne (by decide), e4, gs_eq, upd_ne (by decide), ag.ce 24 0 (fun j z => by omega)]
        exact k5
      · rw [e5, gs_eq, upd_ne (by decide), e4, gs_eq, upd_eq]
        rfl
    | succ f ih =>
      intro k hk G' ag hr
      have hM' : MR R (G' 24 3) := hM3.fr ag (fun j z => by omega)
      refine K _ _ ?_
      unfold lb_X8_back_16
      refine br_f (by rw [zl681, zI_le (by omega)]; omega) ⟨zI_in (by omega), zI_in (by omega), ?_⟩
      intro G6 e6
      rw [zI_clN (by omega), hM'.at (by omega)] at e6
      rw [show zI (k : Int) + (1 : Int32) = zI ((k + 1 : Nat) : Int) from zI_add _ 1]
      refine ih (k + 1) (by omega) G6 (by rw [e6]; exact ag.up ⟨rfl, rfl⟩) (fun j hj => ?_)
      rw [e6, gs_eq]
      by_cases w : j = k
      · rw [w, upd_eq]
      · rw [upd_ne w]
        exact hr j (by omega)
  exact main 681 0 (by omega) G1 (Ag.rf G1) (fun j hj => by omega)
end
