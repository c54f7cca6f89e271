/-! ===== likeness of names and nearness of goods ===== -/
def xl (R : RR) (m i : Nat) : Nat := ltr R m i - 97
def xs (R : RR) (m i : Nat) : Nat := (snd R m).getD i 0
def lkL (R : RR) (a b : Nat) : Int := lkn 3 (xl R a) (xl R b) (qq R a 0) (qq R b 0)
def lkS (R : RR) (a b : Nat) : Int := lkn 4 (xs R a) (xs R b) (snd R a).length (snd R b).length
theorem edR_lm (t : Nat) (x y : Nat → Nat) : ∀ i j, edR t x y i j ≤ 2 * max i j
  | 0, j => by
    show 2 * j ≤ _
    omega
  | i + 1, 0 => by
    rw [edR_0]
    omega
  | i + 1, j + 1 => by
    have h1 := edR_lm t x y i j
    have h2 := cgt_le t (x i) (y j)
    rw [edR_s]
    omega
theorem lkn_100 (t : Nat) (x y : Nat → Nat) (n m : Nat) : 0 ≤ lkn t x y n m ∧ lkn t x y n m ≤ 100 := by
  unfold lkn
  split
  · omega
  · have h := edR_lm t x y n m
    have h0 : (0 : Int) ≤ (50 * (edR t x y n m : Int) + (max n m : Nat) - 1) / ((max n m : Nat) : Int) := Int.ediv_nonneg (by omega) (by omega)
    have h1 : (50 * (edR t x y n m : Int) + (max n m : Nat) - 1) / ((max n m : Nat) : Int) < 101 := by
      refine Int.ediv_lt_of_lt_mul (by omega) ?_
      omega
    omega
theorem xs_lt {R : RR} {m i : Nat} (h : i < (snd R m).length) : xs R m i < 10 := by
  unfold xs
  rw [List.getD_eq_getElem?_getD, List.getElem?_eq_getElem h]
  exact snd_lt (List.getElem_mem h)
theorem xl_lt {R : RR} {n m i : Nat} (hV : VR n R) (hm : m < R 1) (h : i < qq R m 0) : xl R m i < 26 := by
  have := ltr_lt hV hm h
  unfold xl
  omega
theorem lkL_sym {R : RR} {n a b : Nat} (hV : VR n R) (ha : a < R 1) (hb : b < R 1) : lkL R a b = lkL R b a := lkn_sym (Or.inl rfl) (fun _ h => xl_lt hV ha h) (fun _ h => xl_lt hV hb h)
theorem lkS_sym (R : RR) (a b : Nat) : lkS R a b = lkS R b a := lkn_sym (Or.inr rfl) (fun _ h => xs_lt h) (fun _ h => xs_lt h)
def nmS (R : RR) (a b : Nat) : Int := ((R 7 : Int) * lkS R a b + (100 - (R 7 : Int)) * lkL R a b) / 100
theorem nm_num {n : Nat} {R : RR} (hV : VR n R) (a b : Nat) : 0 ≤ (R 7 : Int) * lkS R a b + (100 - (R 7 : Int)) * lkL R a b ∧ (R 7 : Int) * lkS R a b + (100 - (R 7 : Int)) * lkL R a b ≤ 10000 := by
  have h5 := hV.r5
  have h1 : 0 ≤ lkS R a b ∧ lkS R a b ≤ 100 := lkn_100 _ _ _ _ _
  have h2 : 0 ≤ lkL R a b ∧ lkL R a b ≤ 100 := lkn_100 _ _ _ _ _
  have p1 : (0 : Int) ≤ (R 7 : Int) * lkS R a b := Int.mul_nonneg (by omega) h1.1
  have p2 : (0 : Int) ≤ (100 - (R 7 : Int)) * lkL R a b := Int.mul_nonneg (by omega) h2.1
  have p3 : (R 7 : Int) * lkS R a b ≤ (R 7 : Int) * 100 := Int.mul_le_mul_of_nonneg_left h1.2 (by omega)
  have p4 : (100 - (R 7 : Int)) * lkL R a b ≤ (100 - (R 7 : Int)) * 100 := Int.mul_le_mul_of_nonneg_left h2.2 (by omega)
  omega
theorem nmS_rg {n : Nat} {R : RR} (hV : VR n R) (a b : Nat) : 0 ≤ nmS R a b ∧ nmS R a b ≤ 100 := by
  have := nm_num hV a b
  unfold nmS
  omega
theorem nmS_sym {R : RR} {n a b : Nat} (hV : VR n R) (ha : a < R 1) (hb : b < R 1) : nmS R a b = nmS R b a := by
  unfold nmS
  rw [lkL_sym hV ha hb, lkS_sym]
def apS (R : RR) (a b : Nat) : Int := stp R (qq R a 11) (qq R b 11)
theorem apS_sym {R : RR} {n a b : Nat} (hV : VR n R) (ha : a < R 1) (hb : b < R 1) : apS R a b = apS R b a := stp_sym hV (hV.gd ha) (hV.gd hb)
def nrB (R : RR) (a b : Nat) : Bool := decide (apS R a b ≠ -1 ∧ apS R a b ≤ (R 5 : Int))
theorem nrB_sym {R : RR} {n a b : Nat} (hV : VR n R) (ha : a < R 1) (hb : b < R 1) : nrB R a b = nrB R b a := by
  unfold nrB
  rw [apS_sym hV ha hb]
/-- the cells of a likeness: names of two compared; goods compared -/
def WN (o a b : Nat) (x c j : Nat) : Prop := x = o ∧ (c = 8 ∨ (c = 3 ∨ c = 4) ∧ (j = 13 * a + b ∨ j = 13 * b + a))
section
variable {R : RR} {G : GH} {n o o1 a b : Nat} {post : GH → Prop}
theorem wI_setPair {k : Nat} {v : Int32} (ha : a < 13) (hb : b < 13) (hp : ∀ G', Ag (fun x c j => x = o ∧ c = k ∧ (j = 13 * a + b ∨ j = 13 * b + a)) G G' → G' o k (13 * a + b) = v → G' o k (13 * b + a) = v → post G') : wp_X1_setPair post o k 169 (zI a) (zI b) v G := by
  have p1 : ∀ q : Int32 → GH → Prop, ∀ H, q (zI ((13 * a + b : Nat) : Int)) H → wp_X1_pair q (zI a) (zI b) H := by
    intro q H h
    unfold wp_X1_pair
    rw [zl13, zI_mul, zI_add, show (a : Int) * 13 + (b : Int) = ((13 * a + b : Nat) : Int) by omega]
    exact h
  have p2 : ∀ q : Int32 → GH → Prop, ∀ H, q (zI ((13 * b + a : Nat) : Int)) H → wp_X1_pair q (zI b) (zI a) H := by
    intro q H h
    unfold wp_X1_pair
    rw [zl13, zI_mul, zI_add, show (b : Int) * 13 + (a : Int) = ((13 * b + a : Nat) : Int) by omega]
    exact h
  unfold wp_X1_setPair
  refine p1 _ _ ⟨zI_in (by omega), ?_⟩
  rintro _ rfl
  refine p2 _ _ ⟨zI_in (by omega), ?_⟩
  rintro _ rfl
  rw [zI_clN (by omega), zI_clN (by omega)]
  refine hp _ (((Ag.rf G).up ⟨rfl, rfl, Or.inl rfl⟩).up ⟨rfl, rfl, Or.inr rfl⟩) ?_ ?_
  · rw [gs_eq, gs_eq]
    unfold upd
    by_cases q : 13 * a + b = 13 * b + a
    · rw [if_pos q]
    · rw [if_neg q, if_pos rfl]
  · rw [gs_eq]
    unfold upd
    rw [if_pos rfl]
set_option maxHeartbeats 1000000 in
theorem wI_compareNames (hV : VR n R) (hn : n ≤ 13) (hC : CR R (G o1)) (ha : a < R 1) (hb : b < R 1) (ho : o1 ≠ o) (hA : HS (G o) 1 2 a (snd R a)) (hB : HS (G o) 1 2 b (snd R b))
    (hp : ∀ G', Ag (WN o a b) G G' → (G' o 3 (13 * a + b) = zI (lkL R a b) ∧ G' o 3 (13 * b + a) = zI (lkL R a b)) → (G' o 4 (13 * a + b) = zI (lkS R a b) ∧ G' o 4 (13 * b + a) = zI (lkS R a b)) → post G') : wp_X1_compareNames post o o1 (zI a) (zI b) G := by
  have ha13 : a < 13 := Nat.lt_of_lt_of_le ha (Nat.le_trans hV.mk hn)
  have hb13 : b < 13 := Nat.lt_of_lt_of_le hb (Nat.le_trans hV.mk hn)
  have la := hV.ln ha
  have lb := hV.ln hb
  have sa := snd_len R a
  have sb := snd_len R b
  unfold wp_X1_compareNames
  refine ⟨zI_in (by omega), zI_in (by omega), ?_⟩
  rw [zI_clN (by omega), zI_clN (by omega), hC.ln ha, hC.ln hb, zl10, zI_mul, zI_mul, show ((a : Int) * 10) = ((10 * a : Nat) : Int) by omega, show ((b : Int) * 10) = ((10 * b : Nat) : Int) by omega]
  have gl : ∀ m, m < R 1 → ∀ i, i < qq R m 0 → G o1 6 (10 * m + i) = zI (xl R m i) := by
    intro m hm i hi
    have := ltr_lt hV hm hi
    rw [hC.lt hm hi]
    unfold xl
    exact zI_cg (by omega)
  refine wI_likenessOf (x := xl R a) (y := xl R b) (Or.inl rfl) (fun z => ho z.1) (by omega) (by omega) (by omega) (by omega) (by omega) (fun i hi => xl_lt hV ha hi) (fun i hi => xl_lt hV hb hi) (gl a ha) (gl b hb) (fun G1 ag1 => ?_)
  refine wI_setPair ha13 hb13 (fun G2 ag2 e1 e2 => ?_)
  have ag12 : Ag (WN o a b) G G2 := (ag1.mo (fun x c j z => ⟨z.1, Or.inl z.2⟩)).tr (ag2.mo (fun x c j z => ⟨z.1, Or.inr ⟨Or.inl z.2.1, z.2.2⟩⟩))
  have c1 : G2 o 1 = G o 1 := ag12.ce o 1 (fun j z => by rcases z.2 with h | h <;> omega)
  have c2 : G2 o 2 = G o 2 := ag12.ce o 2 (fun j z => by rcases z.2 with h | h <;> omega)
  refine ⟨zI_in (by omega), zI_in (by omega), ?_⟩
  rw [c2, hA.1, hB.1, zl20, zI_mul, zI_mul, show ((a : Int) * 20) = ((20 * a : Nat) : Int) by omega, show ((b : Int) * 20) = ((20 * b : Nat) : Int) by omega]
  refine wI_likenessOf (x := xs R a) (y := xs R b) (Or.inr rfl) (fun z => by omega) (by omega) (by omega) (by omega) (by omega) (by omega) (fun i hi => xs_lt hi) (fun i hi => xs_lt hi) (fun i hi => by rw [c1]; exact hA.2 i hi) (fun i hi => by rw [c1]; exact hB.2 i hi) (fun G3 ag3 => ?_)
  refine wI_setPair ha13 hb13 (fun G4 ag4 e3 e4 => ?_)
  have ag24 : Ag (fun x c j => x = o ∧ (c = 8 ∨ c = 4 ∧ (j = 13 * a + b ∨ j = 13 * b + a))) G2 G4 := (ag3.mo (fun x c j z => ⟨z.1, Or.inl z.2⟩)).tr (ag4.mo (fun x c j z => ⟨z.1, Or.inr z.2⟩))
  have c3 : G4 o 3 = G2 o 3 := ag24.ce o 3 (fun j z => by rcases z.2 with h | h <;> omega)
  refine hp G4 (ag12.tr (ag24.mo (fun x c j z => ⟨z.1, ?_⟩))) ⟨?_, ?_⟩ ⟨e3, e4⟩
  · rcases z.2 with h | h
    · exact Or.inl h
    · exact Or.inr ⟨Or.inr h.1, h.2⟩
  · rw [c3]; exact e1
  · rw [c3]; exact e2
end
section
variable {R : RR} {G : GH} {n o o1 a b : Nat} {post : Int32 → GH → Prop}
theorem wI_ofNames (hV : VR n R) (hC : CR R (G o1)) (ha : a < 13) (hb : b < 13) (h3 : G o 3 (13 * a + b) = zI (lkL R a b)) (h4 : G o 4 (13 * a + b) = zI (lkS R a b)) (hp : post (zI (nmS R a b)) G) : wp_X1_ofNames post o o1 (zI a) (zI b) G := by
  have hN := nm_num hV a b
  unfold wp_X1_ofNames wp_X1_pair
  rintro _ rfl
  rw [zl13, zI_mul, zI_add]
  refine ⟨zI_in (by omega), zI_in (by omega), ?_⟩
  have e5 : G o1 11 5 = zI (R 7) := hC.rl (w := 5) (by decide)
  rw [zI_cl (by omega), show ((a : Int) * 13 + (b : Int)).toNat = 13 * a + b by omega, h3, h4, e5, zl100, zI_mul, zI_sub, zI_mul, zI_add, zI_div (by omega)]
  exact hp
theorem wI_isNear {postb : Bool → GH → Prop} (hV : VR n R) (hC : CR R (G o1)) (ha : a < 13) (hb : b < 13) (h5 : G o 5 (13 * a + b) = zI (apS R a b)) (hp : postb (nrB R a b) G) : wp_X1_isNear postb o o1 (zI a) (zI b) G := by
  have hr := stp_rg R (qq R a 11) (qq R b 11)
  have hr : -1 ≤ apS R a b ∧ apS R a b ≤ 9 := hr
  have h3 := hV.r3
  unfold wp_X1_isNear wp_X1_pair
  rw [zl13, zI_mul, zI_add]
  refine ⟨zI_in (by omega), ?_⟩
  have e3 : G o1 11 3 = zI (R 5) := hC.rl (w := 3) (by decide)
  rw [zI_cl (by omega), show ((a : Int) * 13 + (b : Int)).toNat = 13 * a + b by omega, h5]
  rintro _ rfl
  rw [e3, zl1, zI_neg, zI_eq (by omega), zI_lt (by omega)]
  unfold nrB at hp
  refine br_c (fun q => ?_) (fun q => br_c (fun q1 => ?_) (fun q1 => ?_))
  · rw [decide_eq_false (by omega)] at hp
    exact hp
  · rw [decide_eq_false (by omega)] at hp
    exact hp
  · rw [decide_eq_true (by omega)] at hp
    exact hp
/-! the same in the reference -/
set_option maxHeartbeats 1000000 in
theorem wM_byLetters (hV : VR n R) (hn : n ≤ 13) (hM : MR R (G 24 1)) (ha : a < R 1) (hb : b < R 1) (hp : ∀ G', Ag (fun x c _ => x = 24 ∧ (c = 11 ∨ c = 12 ∨ c = 13)) G G' → post (zI (lkL R a b)) G') : wp_X8_byLetters post (zI a) (zI b) G := by
  have ha13 : a < 13 := Nat.lt_of_lt_of_le ha (Nat.le_trans hV.mk hn)
  have hb13 : b < 13 := Nat.lt_of_lt_of_le hb (Nat.le_trans hV.mk hn)
  have la := hV.ln ha
  have lb := hV.ln hb
  have hM2 : ∀ G', Ag (fun x c _ => x = 24 ∧ (c = 11 ∨ c = 12 ∨ c = 13)) G G' → MR R (G' 24 1) := fun G' ag => by
    rw [ag.ce 24 1 (fun j w => by omega)]
    exact hM
  unfold wp_X8_byLetters
  intro P2 K2
  have main : ∀ f k : Nat, k + f = 10 → ∀ G', Ag (fun x c _ => x = 24 ∧ (c = 11 ∨ c = 12 ∨ c = 13)) G G' → (∀ i, i < k → G' 24 11 i = zI (ltr R a i)) → (∀ i, i < k → G' 24 12 i = zI (ltr R b i)) → P2 (zI a) (zI b) (zI k) G' := by
    intro f
    induction f with
    | zero =>
      intro k hk G' ag h1 h2
      refine K2 _ _ _ _ ?_
      unfold lb_X8_byLetters_2
      refine br_t (by rw [zl10, zI_le (by omega)]; omega) ?_
      refine wM_of1 (hM2 G' ag) a 0 rfl rfl ha13 (by omega) ?_
      refine wM_of1 (hM2 G' ag) b 0 rfl rfl hb13 (by omega) ?_
      refine wM_likenessOf (hd := false) (x := xl R a) (y := xl R b) (by omega) (by omega) (fun i hi => xl_lt hV ha hi) (fun i hi => xl_lt hV hb hi) (fun i hi => ?_) (fun i hi => ?_) (fun G2 ag2 => hp G2 (ag.tr (ag2.mo (fun x c j z => ⟨z.1, Or.inr (Or.inr z.2)⟩))))
      · have := ltr_lt hV ha hi
        rw [h1 i (by omega)]
        refine zI_cg ?_
        show _ = ((xl R a i + 97 : Nat) : Int)
        unfold xl
        omega
      · have := ltr_lt hV hb hi
        rw [h2 i (by omega)]
        refine zI_cg ?_
        show _ = ((xl R b i + 97 : Nat) : Int)
        unfold xl
        omega
    | succ f ih =>
      intro k hk G' ag h1 h2
      refine K2 _ _ _ _ ?_
      unfold lb_X8_byLetters_2
      refine br_f (by rw [zl10, zI_le (by omega)]; omega) ?_
      refine wM_letterAt hV hn (hM2 G' ag) ha k rfl rfl (by omega) ?_
      refine ⟨zI_in (by omega), ?_⟩
      rintro _ rfl
      have ag1 : Ag (fun x c _ => x = 24 ∧ (c = 11 ∨ c = 12 ∨ c = 13)) G (gs G' 24 11 (upd (G' 24 11) (zI k).toNatClampNeg (zI (ltr R a k)))) := ag.up ⟨rfl, Or.inl rfl⟩
      refine wM_letterAt hV hn (hM2 _ ag1) hb k rfl rfl (by omega) ?_
      refine ⟨zI_in (by omega), ?_⟩
      rintro _ rfl
      rw [zl1, zI_add]
      refine ih (k + 1) (by omega) _ (ag1.up ⟨rfl, Or.inr (Or.inl rfl)⟩) (fun i hi => ?_) (fun i hi => ?_)
      · rw [gs_ne (by omega), gs_eq, zI_clN (by omega)]
        unfold upd
        by_cases w : i = k
        · rw [if_pos w, w]
        · rw [if_neg w]
          exact h1 i (by omega)
      · rw [gs_eq, gs_ne (by omega), zI_clN (by omega)]
        unfold upd
        by_cases w : i = k
        · rw [if_pos w, w]
        · rw [if_neg w]
          exact h2 i (by omega)
  exact main 10 0 (by omega) G (Ag.rf G) (fun i hi => by omega) (fun i hi => by omega)
set_option maxHeartbeats 1000000 in
theorem wM_bySounds (ha13 : a < 13) (hb13 : b < 13) (hA : HS (G 24) 9 10 a (snd R a)) (hB : HS (G 24) 9 10 b (snd R b)) (hp : ∀ G', Ag (fun x c _ => x = 24 ∧ (c = 11 ∨ c = 12 ∨ c = 13)) G G' → post (zI (lkS R a b)) G') : wp_X8_bySounds post (zI a) (zI b) G := by
  have sa := snd_len R a
  have sb := snd_len R b
  have c9 : ∀ G', Ag (fun x c _ => x = 24 ∧ (c = 11 ∨ c = 12 ∨ c = 13)) G G' → G' 24 9 = G 24 9 := fun G' ag => ag.ce 24 9 (fun j w => by omega)
  have c10 : ∀ G', Ag (fun x c _ => x = 24 ∧ (c = 11 ∨ c = 12 ∨ c = 13)) G G' → G' 24 10 = G 24 10 := fun G' ag => ag.ce 24 10 (fun j w => by omega)
  unfold wp_X8_bySounds
  intro P2 K2
  have main : ∀ f k : Nat, k + f = 20 → ∀ G', Ag (fun x c _ => x = 24 ∧ (c = 11 ∨ c = 12 ∨ c = 13)) G G' → (∀ i, i < k → G' 24 11 i = G 24 9 (20 * a + i)) → (∀ i, i < k → G' 24 12 i = G 24 9 (20 * b + i)) → P2 (zI a) (zI b) (zI k) G' := by
    intro f
    induction f with
    | zero =>
      intro k hk G' ag h1 h2
      refine K2 _ _ _ _ ?_
      unfold lb_X8_bySounds_2
      refine br_t (by rw [zl20, zI_le (by omega)]; omega) ?_
      refine ⟨zI_in (by omega), zI_in (by omega), ?_⟩
      rw [zI_clN (by omega), zI_clN (by omega), c10 G' ag, hA.1, hB.1]
      refine wM_likenessOf (hd := true) (x := xs R a) (y := xs R b) (by omega) (by omega) (fun i hi => xs_lt hi) (fun i hi => xs_lt hi) (fun i hi => ?_) (fun i hi => ?_) (fun G2 ag2 => hp G2 (ag.tr (ag2.mo (fun x c j z => ⟨z.1, Or.inr (Or.inr z.2)⟩))))
      · rw [h1 i (by omega)]
        exact hA.2 i hi
      · rw [h2 i (by omega)]
        exact hB.2 i hi
    | succ f ih =>
      intro k hk G' ag h1 h2
      refine K2 _ _ _ _ ?_
      unfold lb_X8_bySounds_2
      refine br_f (by rw [zl20, zI_le (by omega)]; omega) ?_
      rw [zl20, zI_mul, zI_mul, zI_add, zI_add]
      refine ⟨zI_in (by omega), zI_in (by omega), ?_⟩
      rintro _ rfl
      refine ⟨zI_in (by omega), zI_in (by omega), ?_⟩
      rintro _ rfl
      rw [zl1, zI_add, zI_clN (by omega), zI_cl (by omega), show ((20 : Int) * (a : Int) + (k : Int)).toNat = 20 * a + k by omega, zI_cl (by omega), show ((20 : Int) * (b : Int) + (k : Int)).toNat = 20 * b + k by omega]
      refine ih (k + 1) (by omega) _ ((ag.up ⟨rfl, Or.inl rfl⟩).up ⟨rfl, Or.inr (Or.inl rfl)⟩) (fun i hi => ?_) (fun i hi => ?_)
      · rw [gs_ne (by decide), gs_eq]
        unfold upd
        by_cases w : i = k
        · rw [if_pos w, w, c9 G' ag]
        · rw [if_neg w]
          exact h1 i (by omega)
      · rw [gs_eq, gs_ne (by omega), gs_ne (by omega)]
        unfold upd
        by_cases w : i = k
        · rw [if_pos w, w, c9 G' ag]
        · rw [if_neg w]
          exact h2 i (by omega)
  exact main 20 0 (by omega) G (Ag.rf G) (fun i hi => by omega) (fun i hi => by omega)
end
