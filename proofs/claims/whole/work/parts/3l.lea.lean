/-! ===== what the class learns: names, goods; a copy ===== -/
section
variable {R : RR} {G : GH} {n o o1 : Nat} {post : GH → Prop}
set_option maxHeartbeats 1000000 in
theorem wI_compareGoods {m : Nat} (hV : VR n R) (hn : n ≤ 13) (hC : CR R (G o1)) (hm : m < R 1) (ho : o1 ≠ o) (hp : ∀ G', Ag (fun x c j => x = o ∧ c = 5 ∧ ∃ i, i < R 1 ∧ (j = 13 * m + i ∨ j = 13 * i + m)) G G' → (∀ i, i < R 1 → G' o 5 (13 * m + i) = zI (apS R m i) ∧ G' o 5 (13 * i + m) = zI (apS R m i)) → post G') : wp_X1_compareGoods post o o1 (zI m) G := by
  have h13 := Nat.le_trans hV.mk hn
  unfold wp_X1_compareGoods
  intro P2 K2
  have keep : ∀ G', Ag (fun x c j => x = o ∧ c = 5 ∧ ∃ i, i < R 1 ∧ (j = 13 * m + i ∨ j = 13 * i + m)) G G' → CR R (G' o1) := fun G' ag => by rw [ag.ob o1 (fun b j w => ho w.1)]; exact hC
  have main : ∀ f k : Nat, k + f = R 1 → ∀ G', Ag (fun x c j => x = o ∧ c = 5 ∧ ∃ i, i < R 1 ∧ (j = 13 * m + i ∨ j = 13 * i + m)) G G' → (∀ i, i < k → G' o 5 (13 * m + i) = zI (apS R m i) ∧ G' o 5 (13 * i + m) = zI (apS R m i)) → P2 (zI m) (zI k) G' := by
    intro f
    induction f with
    | zero =>
      intro k hk G' ag h
      refine K2 _ _ _ ?_
      unfold lb_X1_compareGoods_2
      rw [(keep G' ag).mk]
      refine br_t (by rw [zI_le (by omega)]; omega) ?_
      exact hp G' ag (fun i hi => h i (by omega))
    | succ f ih =>
      intro k hk G' ag h
      have hC2 := keep G' ag
      refine K2 _ _ _ ?_
      unfold lb_X1_compareGoods_2
      rw [hC2.mk]
      refine br_f (by rw [zI_le (by omega)]; omega) ⟨zI_in (by omega), zI_in (by omega), ?_⟩
      rw [zI_clN (by omega), zI_clN (by omega), hC2.gd hm, hC2.gd (show k < R 1 by omega)]
      refine wI_stepsApart hV hC2 (hV.gd hm) (hV.gd (by omega)) ?_
      refine wI_setPair (by omega) (by omega) (fun G3 ag3 e1 e2 => ?_)
      rw [zl1, zI_add]
      refine ih (k + 1) (by omega) G3 (ag.tr (ag3.mo (fun x c j w => ⟨w.1, w.2.1, k, by omega, w.2.2⟩))) (fun i hi => ?_)
      by_cases w : i = k
      · subst w
        exact ⟨e1, e2⟩
      · have hh := h i (by omega)
        constructor
        · by_cases u : 13 * m + i = 13 * k + m
          · have : m = i := by omega
            have : m = k := by omega
            omega
          · rw [ag3 o 5 _ (by omega)]
            exact hh.1
        · by_cases u : 13 * i + m = 13 * m + k
          · have : i = m := by omega
            omega
          · rw [ag3 o 5 _ (by omega)]
            exact hh.2
  exact main (R 1) 0 (by omega) G (Ag.rf G) (fun i hi => by omega)
set_option maxHeartbeats 1000000 in
theorem wI_learnGoods (hV : VR n R) (hn : n ≤ 13) (hC : CR R (G o1)) (ho : o1 ≠ o) (hp : ∀ G', Ag (W8 o 5) G G' → KG R (G' o) → post G') : wp_X1_learnGoods post o o1 G := by
  have h13 := Nat.le_trans hV.mk hn
  unfold wp_X1_learnGoods
  intro P2 K2
  have main : ∀ f k : Nat, k + f = R 1 → ∀ G', Ag (W8 o 5) G G' → (∀ a b, a < R 1 → b < R 1 → a < k ∨ b < k → G' o 5 (13 * a + b) = zI (apS R a b)) → P2 (zI k) G' := by
    intro f
    induction f with
    | zero =>
      intro k hk G' ag h
      have hC2 : CR R (G' o1) := by rw [ag.ob o1 (fun b j w => ho w.1)]; exact hC
      refine K2 _ _ ?_
      unfold lb_X1_learnGoods_2
      rw [hC2.mk]
      refine br_t (by rw [zI_le (by omega)]; omega) ?_
      exact hp G' ag (fun a b ha hb => h a b ha hb (by omega))
    | succ f ih =>
      intro k hk G' ag h
      have hC2 : CR R (G' o1) := by rw [ag.ob o1 (fun b j w => ho w.1)]; exact hC
      refine K2 _ _ ?_
      unfold lb_X1_learnGoods_2
      rw [hC2.mk]
      refine br_f (by rw [zI_le (by omega)]; omega) ?_
      refine wI_compareGoods hV hn hC2 (by omega) ho (fun G3 ag3 e => ?_)
      rw [zl1, zI_add]
      refine ih (k + 1) (by omega) G3 (ag.tr (ag3.mo (fun x c j w => ⟨w.1, w.2.1⟩))) (fun a b ha hb hab => ?_)
      by_cases w : a = k
      · subst w
        exact (e b hb).1
      · by_cases w2 : b = k
        · subst w2
          rw [apS_sym hV ha hb]
          exact (e a ha).2
        · rw [ag3 o 5 _ (fun z => by
            obtain ⟨_, _, i, hi, z⟩ := z
            omega)]
          exact h a b ha hb (by omega)
  exact main (R 1) 0 (by omega) G (Ag.rf G) (fun a b _ _ h => by omega)
theorem KN_lk {R : RR} {n a b : Nat} (hV : VR n R) (ha : a < R 1) (hb : b < R 1) : lkL R a b = lkL R b a ∧ lkS R a b = lkS R b a := ⟨lkL_sym hV ha hb, lkS_sym R a b⟩
set_option maxHeartbeats 1000000 in
theorem wI_learnNames (hV : VR n R) (hn : n ≤ 13) (hC : CR R (G o1)) (ho : o1 ≠ o) (hp : ∀ G', Ag (fun x c _ => x = o ∧ (1 ≤ c ∧ c ≤ 4 ∨ c = 8)) G G' → KN R (G' o) → post G') : wp_X1_learnNames post o o1 G := by
  have h13 := Nat.le_trans hV.mk hn
  have keep : ∀ G', Ag (fun x c _ => x = o ∧ (1 ≤ c ∧ c ≤ 4 ∨ c = 8)) G G' → CR R (G' o1) := fun G' ag => by rw [ag.ob o1 (fun b j w => ho w.1)]; exact hC
  unfold wp_X1_learnNames
  intro P2 K2
  have main : ∀ f k : Nat, k + f = R 1 → ∀ G', Ag (fun x c _ => x = o ∧ (1 ≤ c ∧ c ≤ 4 ∨ c = 8)) G G' → (∀ m, m < k → HS (G' o) 1 2 m (snd R m)) → (∀ a b, a < k → b < k → a ≠ b → G' o 3 (13 * a + b) = zI (lkL R a b) ∧ G' o 4 (13 * a + b) = zI (lkS R a b)) → P2 (zI k) G' := by
    intro f
    induction f with
    | zero =>
      intro k hk G' ag h1 h2
      refine K2 _ _ ?_
      unfold lb_X1_learnNames_2
      rw [(keep G' ag).mk]
      refine br_t (by rw [zI_le (by omega)]; omega) ?_
      exact hp G' ag ⟨fun m hm => h1 m (by omega), fun a b ha hb hab => h2 a b (by omega) (by omega) hab⟩
    | succ f ih =>
      intro k hk G' ag h1 h2
      refine K2 _ _ ?_
      unfold lb_X1_learnNames_2
      rw [(keep G' ag).mk]
      refine br_f (by rw [zI_le (by omega)]; omega) ?_
      refine wI_hear hV hn (keep G' ag) (by omega) ho (fun G3 ag3 e3 => ?_)
      intro P18 K18
      have inner : ∀ g b : Nat, b + g = k → ∀ G'', Ag (fun x c _ => x = o ∧ (1 ≤ c ∧ c ≤ 4 ∨ c = 8)) G G'' → (∀ m, m < k + 1 → HS (G'' o) 1 2 m (snd R m)) → (∀ x y, x < k + 1 → y < k + 1 → x ≠ y → (x < k ∧ y < k ∨ x = k ∧ y < b ∨ y = k ∧ x < b) → G'' o 3 (13 * x + y) = zI (lkL R x y) ∧ G'' o 4 (13 * x + y) = zI (lkS R x y)) → P18 (zI k) (zI b) G'' := by
        intro g
        induction g with
        | zero =>
          intro b hb G'' ag2 hs2 ht2
          refine K18 _ _ _ ?_
          unfold lb_X1_learnNames_18
          refine br_t (by rw [zI_le (by omega)]; omega) ?_
          rw [zl1, zI_add]
          exact ih (k + 1) (by omega) G'' ag2 hs2 (fun x y hx hy hxy => ht2 x y hx hy hxy (by omega))
        | succ g ih2 =>
          intro b hb G'' ag2 hs2 ht2
          refine K18 _ _ _ ?_
          unfold lb_X1_learnNames_18
          refine br_f (by rw [zI_le (by omega)]; omega) ?_
          refine wI_compareNames hV hn (keep G'' ag2) (by omega) (by omega) ho (hs2 k (by omega)) (hs2 b (by omega)) (fun G4 ag4 e1 e2 => ?_)
          rw [zl1, zI_add]
          have c1 : G4 o 1 = G'' o 1 := ag4.ce o 1 (fun j w => by unfold WN at w; omega)
          have c2 : G4 o 2 = G'' o 2 := ag4.ce o 2 (fun j w => by unfold WN at w; omega)
          refine ih2 (b + 1) (by omega) G4 (ag2.tr (ag4.mo (fun x c j w => by unfold WN at w; omega))) (fun m hm => ⟨by rw [c2]; exact (hs2 m hm).1, fun j hj => by rw [c1]; exact (hs2 m hm).2 j hj⟩) (fun x y hx hy hxy hh => ?_)
          by_cases w : x = k ∧ y = b
          · rw [w.1, w.2]
            exact ⟨e1.1, e2.1⟩
          · by_cases w2 : x = b ∧ y = k
            · rw [w2.1, w2.2, ← (KN_lk hV (show k < R 1 by omega) (show b < R 1 by omega)).1, ← (KN_lk hV (show k < R 1 by omega) (show b < R 1 by omega)).2]
              exact ⟨e1.2, e2.2⟩
            · rw [ag4 o 3 _ (by unfold WN; omega), ag4 o 4 _ (by unfold WN; omega)]
              exact ht2 x y hx hy hxy (by omega)
      refine inner k 0 (by omega) G3 (ag.tr (ag3.mo (fun x c j w => by unfold WS at w; omega))) (fun m hm => ?_) (fun x y hx hy hxy hh => ?_)
      · by_cases w : m = k
        · subst w; exact e3
        · have hl := snd_len R m
          refine ⟨by rw [ag3 o 2 m (by unfold WS; omega)]; exact (h1 m (by omega)).1, fun j hj => ?_⟩
          rw [ag3 o 1 _ (by unfold WS; omega)]
          exact (h1 m (by omega)).2 j hj
      · rw [ag3 o 3 _ (by unfold WS; omega), ag3 o 4 _ (by unfold WS; omega)]
        exact h2 x y (by omega) (by omega) hxy
  exact main (R 1) 0 (by omega) G (Ag.rf G) (fun m hm => by omega) (fun a b ha => by omega)
/-- another name for a mark: only the near are compared anew -/
def WR (R : RR) (o m : Nat) (x c j : Nat) : Prop := x = o ∧ (c = 1 ∧ 20 * m ≤ j ∧ j < 20 * m + 20 ∨ c = 2 ∧ j = m ∨ (c = 3 ∨ c = 4) ∧ (∃ i, i < R 1 ∧ (j = 13 * m + i ∨ j = 13 * i + m)) ∨ 6 ≤ c ∧ c ≤ 8)
set_option maxHeartbeats 1000000 in
theorem wI_rename {m : Nat} (hV : VR n R) (hn : n ≤ 13) (hC : CR R (G o1)) (hm : m < R 1) (ho : o1 ≠ o) (hS : ∀ i, i < R 1 → i ≠ m → HS (G o) 1 2 i (snd R i)) (hT : ∀ a b, a < R 1 → b < R 1 → a ≠ b → a ≠ m → b ≠ m → G o 3 (13 * a + b) = zI (lkL R a b) ∧ G o 4 (13 * a + b) = zI (lkS R a b)) (hG : KG R (G o))
    (hp : ∀ G', Ag (WR R o m) G G' → KNn R (G' o) → KJ R (G' o) → post G') : wp_X1_rename post o o1 (zI m) G := by
  have h13 := Nat.le_trans hV.mk hn
  have keep : ∀ G', Ag (WR R o m) G G' → CR R (G' o1) := fun G' ag => by rw [ag.ob o1 (fun b j w => ho w.1)]; exact hC
  have kg : ∀ G', Ag (WR R o m) G G' → KG R (G' o) := fun G' ag a b ha hb => by rw [ag o 5 _ (by unfold WR; omega)]; exact hG a b ha hb
  unfold wp_X1_rename
  refine wI_hear hV hn hC hm ho (fun G1 ag1 e1 => ?_)
  have ag1' : Ag (WR R o m) G G1 := ag1.mo (fun x c j w => by unfold WS at w; unfold WR; omega)
  have s1 : ∀ i, i < R 1 → HS (G1 o) 1 2 i (snd R i) := fun i hi => by
    by_cases w : i = m
    · subst w; exact e1
    · have hl := snd_len R i
      refine ⟨by rw [ag1 o 2 i (by unfold WS; omega)]; exact (hS i hi w).1, fun j hj => ?_⟩
      rw [ag1 o 1 _ (by unfold WS; omega)]
      exact (hS i hi w).2 j hj
  intro P8 K8
  have main : ∀ f k : Nat, k + f = R 1 → ∀ G', Ag (WR R o m) G G' → (∀ i, i < R 1 → HS (G' o) 1 2 i (snd R i)) → (∀ i, i < k → i ≠ m → nrB R m i = true → (G' o 3 (13 * m + i) = zI (lkL R m i) ∧ G' o 4 (13 * m + i) = zI (lkS R m i)) ∧ G' o 3 (13 * i + m) = zI (lkL R m i) ∧ G' o 4 (13 * i + m) = zI (lkS R m i)) → P8 (zI m) (zI k) G' := by
    intro f
    induction f with
    | zero =>
      intro k hk G' ag hs ht
      refine K8 _ _ _ ?_
      unfold lb_X1_rename_8
      rw [(keep G' ag).mk]
      refine br_t (by rw [zI_le (by omega)]; omega) ?_
      have hN : KNn R (G' o) := by
        refine ⟨hs, fun a b ha hb hab hnr => ?_⟩
        by_cases w : a = m
        · subst w
          exact (ht b (by omega) (fun z => hab z.symm) hnr).1
        · by_cases w2 : b = m
          · subst w2
            have := (ht a (by omega) w (by rw [nrB_sym hV hb ha]; exact hnr)).2
            rw [lkL_sym hV ha hb, lkS_sym R a b]
            exact this
          · rw [ag o 3 _ (fun z => by
              unfold WR at z
              obtain ⟨_, z⟩ := z
              rcases z with z | z | ⟨_, i, hi, z⟩ | z <;> omega), ag o 4 _ (fun z => by
              unfold WR at z
              obtain ⟨_, z⟩ := z
              rcases z with z | z | ⟨_, i, hi, z⟩ | z <;> omega)]
            exact hT a b ha hb hab w w2
      refine wI_judge hV hn (keep G' ag) ho hN (kg G' ag) (fun G3 ag3 e3 => ?_)
      refine hp G3 (ag.tr (ag3.mo (fun x c j w => by unfold WR; omega))) ⟨fun i hi => ?_, fun a b ha hb hab hnr => ?_⟩ e3
      · have c1 : G3 o 1 = G' o 1 := ag3.ce o 1 (fun j w => by omega)
        have c2 : G3 o 2 = G' o 2 := ag3.ce o 2 (fun j w => by omega)
        exact ⟨by rw [c2]; exact (hs i hi).1, fun j hj => by rw [c1]; exact (hs i hi).2 j hj⟩
      · rw [ag3 o 3 _ (by omega), ag3 o 4 _ (by omega)]
        exact hN.2 a b ha hb hab hnr
    | succ f ih =>
      intro k hk G' ag hs ht
      refine K8 _ _ _ ?_
      unfold lb_X1_rename_8
      rw [(keep G' ag).mk]
      refine br_f (by rw [zI_le (by omega)]; omega) ?_
      rw [zl1, zI_add]
      have skip : (k = m ∨ nrB R m k = false) → P8 (zI m) (zI ((k : Int) + 1)) G' := by
        intro hx
        refine ih (k + 1) (by omega) G' ag hs (fun i hi hne hnr => ?_)
        by_cases w : i = k
        · subst w
          rcases hx with hx | hx
          · exact absurd hx hne
          · rw [hx] at hnr
            cases hnr
        · exact ht i (by omega) hne hnr
      refine br_c (fun q => ?_) (fun q => ?_)
      · rw [zI_eq (by omega)] at q
        exact skip (Or.inl (by omega))
      · rw [zI_eq (by omega)] at q
        refine wI_isNear hV (keep G' ag) (by omega) (by omega) (kg G' ag m k hm (by omega)) ?_
        by_cases z : nrB R m k = true
        · refine br_bt z ?_
          refine wI_compareNames hV hn (keep G' ag) hm (by omega) ho (hs m hm) (hs k (by omega)) (fun G4 ag4 e1 e2 => ?_)
          have c1 : G4 o 1 = G' o 1 := ag4.ce o 1 (fun j w => by unfold WN at w; omega)
          have c2 : G4 o 2 = G' o 2 := ag4.ce o 2 (fun j w => by unfold WN at w; omega)
          refine ih (k + 1) (by omega) G4 (ag.tr (ag4.mo (fun x c j w => ?_))) (fun i hi => ⟨by rw [c2]; exact (hs i hi).1, fun j hj => by rw [c1]; exact (hs i hi).2 j hj⟩) (fun i hi hne hnr => ?_)
          · unfold WN at w
            unfold WR
            refine ⟨w.1, ?_⟩
            rcases w.2 with w | w
            · exact Or.inr (Or.inr (Or.inr (by omega)))
            · exact Or.inr (Or.inr (Or.inl ⟨w.1, k, by omega, w.2⟩))
          · by_cases w : i = k
            · subst w
              exact ⟨⟨e1.1, e2.1⟩, e1.2, e2.2⟩
            · rw [ag4 o 3 _ (by unfold WN; omega), ag4 o 4 _ (by unfold WN; omega), ag4 o 3 _ (by unfold WN; omega), ag4 o 4 _ (by unfold WN; omega)]
              exact ht i (by omega) hne hnr
        · refine br_bf (by simpa using z) ?_
          exact skip (Or.inr (by simpa using z))
  exact main (R 1) 0 (by omega) G1 ag1' s1 (fun i hi => by omega)
end
