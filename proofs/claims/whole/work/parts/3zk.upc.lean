/-! ===== the register changed: in the class ===== -/
theorem gs_o (G : GH) (o k k2 : Nat) (f : Nat → Int32) : gs G o k f o k2 = if k2 = k then f else G o k2 := by
  unfold gs
  simp
theorem Ag.wk {W W' : Nat → Nat → Nat → Prop} {G G' G'' : GH} (h1 : Ag W G G') (h2 : Ag W' G' G'') (hw : ∀ a b j, W' a b j → W a b j) : Ag W G G'' := h1.tr (h2.mo hw)
theorem upd_eq (f : Nat → Int32) (j : Nat) (v : Int32) : upd f j v j = v := by
  unfold upd
  rw [if_pos rfl]
theorem upd_ne {f : Nat → Int32} {j i : Nat} {v : Int32} (h : i ≠ j) : upd f j v i = f i := by
  unfold upd
  rw [if_neg h]
section
variable {R : RR} {G : GH} {n o : Nat} {b : Nat → Nat}
set_option maxHeartbeats 2000000 in
theorem wI_addMark {post : Int32 → GH → Prop} {s len d : Nat} (hV : VR n R) (h13 : R 1 < 13) (hC : CR R (G o)) (ho : o ≠ 1) (hB : TB b (G 1 1)) (hl : 1 ≤ len ∧ len ≤ 10) (hs : s + len ≤ 700) (hg : ∀ k, k < len → 97 ≤ b (s + k) ∧ b (s + k) ≤ 122) (hp : ∀ G', Ag (fun x _ _ => x = o) G G' → CR (mkR R (fun k => b (s + k)) len d 0) (G' o) → post (zI (R 1)) G') : wp_X4_addMark post o 1 1 700 (zI s) (zI len) (zI d) G := by
  unfold wp_X4_addMark
  intro y ey
  rw [hC.mk] at ey
  subst ey
  refine ⟨zI_in (by omega), ?_⟩
  intro G2 e2
  refine ⟨zI_in (by omega), ?_⟩
  intro G3 e3
  refine ⟨zI_in (by omega), ?_⟩
  intro G4 e4
  refine ⟨zI_in (by omega), ?_⟩
  intro G5 e5
  refine ⟨zI_in (by omega), ?_⟩
  intro G6 e6
  have cm : (zI (R 1 : Int)).toNatClampNeg = R 1 := zI_clN (by omega)
  rw [cm] at e2 e3 e4 e5 e6
  have ag6 : Ag (fun x _ _ => x = o) G G6 := by
    rw [e6, e5, e4, e3, e2]
    exact (((((Ag.rf G).up rfl).up rfl).up rfl).up rfl).up rfl
  have k3 : G6 o 3 = upd (G o 3) (R 1) (zI d) := by simp [e6, e5, e4, e3, e2, gs_o]
  have k4 : G6 o 4 = upd (G o 4) (R 1) 0 := by simp [e6, e5, e4, e3, e2, gs_o]
  have k5 : G6 o 5 = upd (G o 5) (R 1) (zI len) := by simp [e6, e5, e4, e3, e2, gs_o]
  have k7 : G6 o 7 = upd (G o 7) (R 1) 0 := by simp [e6, e5, e4, e3, e2, gs_o]
  have k9 : G6 o 9 = upd (G o 9) (R 1) 0 := by simp [e6, e5, e4, e3, e2, gs_o]
  have k0 : ∀ c, c ≠ 3 → c ≠ 4 → c ≠ 5 → c ≠ 7 → c ≠ 9 → G6 o c = G o c := by
    intro c h3 h4 h5 h7 h9
    simp [e6, e5, e4, e3, e2, gs_o, h3, h4, h5, h7, h9]
  clear e6 e5 e4 e3 e2
  intro P K
  have main : ∀ f k : Nat, k + f = len → ∀ G', Ag (fun x _ _ => x = o) G G' → (∀ c, c ≠ 6 → G' o c = G6 o c) → (∀ j, j < 10 * R 1 → G' o 6 j = G o 6 j) → (∀ i, i < k → G' o 6 (10 * R 1 + i) = zI ((b (s + i) : Int) - 97)) → P (zI s) (zI len) (zI (R 1)) (zI k) G' := by
    intro f
    induction f with
    | zero =>
      intro k hk G' ag hc h6 hi
      refine K _ _ _ _ _ ?_
      unfold lb_X4_addMark_50
      refine br_t (by rw [zI_le (by omega)]; omega) ?_
      intro G8 e8
      have ag8 : Ag (fun x _ _ => x = o) G G8 := by
        rw [e8]
        exact ag.up rfl
      have q0 : G8 o 0 = upd (G o 0) 1 (zI ((R 1 : Int) + 1)) := by
        rw [e8, gs_eq, hc 0 (by decide), k0 0 (by decide) (by decide) (by decide) (by decide) (by decide), hC.mk, zl1, zI_add]
      have qc : ∀ c, c ≠ 0 → G8 o c = G' o c := by
        intro c h
        rw [e8, gs_ne (by omega)]
      refine hp G8 ag8 ⟨?_, ?_, ?_, ?_, ?_⟩
      · rw [q0, upd_ne (by decide), mkR_lo (by decide) (by decide)]
        exact hC.ld
      · rw [q0, upd_eq, mkR_1]
        rfl
      · intro c h
        rw [qc 10 (by decide), hc 10 (by decide), k0 10 (by decide) (by decide) (by decide) (by decide) (by decide), mkR_lo (by omega) (by omega)]
        exact hC.nb h
      · intro w h
        rw [qc 11 (by decide), hc 11 (by decide), k0 11 (by decide) (by decide) (by decide) (by decide) (by decide), mkR_lo (by omega) (by omega)]
        exact hC.rl h
      · intro m hm
        rw [mkR_1] at hm
        rw [qc 3 (by decide), qc 4 (by decide), qc 5 (by decide), qc 6 (by decide), qc 7 (by decide), qc 8 (by decide), qc 9 (by decide), hc 3 (by decide), hc 4 (by decide), hc 5 (by decide), hc 7 (by decide), hc 8 (by decide), hc 9 (by decide), k3, k4, k5, k7, k9, k0 8 (by decide) (by decide) (by decide) (by decide) (by decide)]
        by_cases w : m = R 1
        · subst w
          rw [upd_eq, upd_eq, upd_eq, upd_eq, upd_eq, mkR_n0, mkR_n11 hl.2, mkR_n12 hl.2, mkR_z hl.2 (by decide) (by decide), mkR_z hl.2 (by decide) (by decide)]
          refine ⟨rfl, rfl, rfl, rfl, rfl, fun i hi2 => ?_, fun i j hi2 => by omega⟩
          rw [mkR_nk hi2]
          exact hi i (by omega)
        · have hm2 : m < R 1 := by omega
          have hln := hV.ln hm2
          have huc := hV.uc hm2
          rw [upd_ne w, upd_ne w, upd_ne w, upd_ne w, upd_ne w, mkR_old hm2 (by decide), mkR_old hm2 (by decide), mkR_old hm2 (by decide), mkR_old hm2 (by decide), mkR_old hm2 (by decide)]
          refine ⟨hC.fl hm2, hC.gd hm2, hC.ln hm2, hC.uc hm2, hC.cn hm2, fun i hi2 => ?_, fun i j hi2 hj => ?_⟩
          · rw [mkR_old hm2 (by omega), h6 _ (by omega)]
            exact hC.lt hm2 hi2
          · rw [mkR_old hm2 (by omega)]
            exact hC.us hm2 hi2 hj
    | succ f ih =>
      intro k hk G' ag hc h6 hi
      have hgk := hg k (by omega)
      refine K _ _ _ _ _ ?_
      unfold lb_X4_addMark_50
      refine br_f (by rw [zI_le (by omega)]; omega) ?_
      rw [zI_add, zl10, zI_mul, zI_add]
      refine ⟨zI_in (by omega), zI_in (by omega), ?_⟩
      have eB : G' 1 1 = G 1 1 := by
        rw [ag.ob 1 (fun _ _ w => ho w.symm)]
      have hsb : sb (b (s + k)) = (b (s + k) : Int) := by
        unfold sb
        rw [if_pos (by omega)]
      rw [show ((s : Int) + (k : Int)) = ((s + k : Nat) : Int) by omega, show ((R 1 : Int) * 10 + (k : Int)) = ((10 * R 1 + k : Nat) : Int) by omega, zI_clN (n := s + k) (by omega), zI_clN (n := 10 * R 1 + k) (by omega), eB, hB.g (by omega), hsb, zl97, zI_sub, zI_nb (by omega), zl1, zI_add]
      intro G9 e9
      have q6 : G9 o 6 = upd (G' o 6) (10 * R 1 + k) (zI ((b (s + k) : Int) - 97)) := by rw [e9, gs_eq]
      have qc : ∀ c, c ≠ 6 → G9 o c = G' o c := fun c h => by rw [e9, gs_ne (by omega)]
      refine ih (k + 1) (by omega) G9 (by rw [e9]; exact ag.up rfl) (fun c h => by rw [qc c h]; exact hc c h) (fun j hj => ?_) (fun i hi2 => ?_)
      · rw [q6, upd_ne (by omega)]
        exact h6 j hj
      · rw [q6]
        by_cases w : i = k
        · subst w
          rw [upd_eq]
        · rw [upd_ne (by omega)]
          exact hi i (by omega)
  exact main len 0 (by omega) G6 ag6 (fun _ _ => rfl) (fun j hj => by rw [k0 6 (by decide) (by decide) (by decide) (by decide) (by decide)]) (fun i hi => by omega)
/-- the classes of the newest mark are set -/
theorem CR.cls {g : Nat → Nat} {len d s s' : Nat} {A A' : Nat → Nat → Int32} (hV : VR n R) (hl : len ≤ 10) (h : CR (mkR R g len d s) A) (h4 : A' 4 = upd (A 4) (R 1) (zI s')) (hc : ∀ c, c ≠ 4 → A' c = A c) : CR (mkR R g len d s') A' := by
  refine ⟨?_, ?_, ?_, ?_, ?_⟩
  · rw [hc 0 (by decide), h.ld, mkR_lo (by decide) (by decide), mkR_lo (by decide) (by decide)]
  · rw [hc 0 (by decide), h.mk, mkR_1, mkR_1]
  · intro c hc2
    rw [hc 10 (by decide), h.nb hc2, mkR_lo (by omega) (by omega), mkR_lo (by omega) (by omega)]
  · intro w hw
    rw [hc 11 (by decide), h.rl hw, mkR_lo (by omega) (by omega), mkR_lo (by omega) (by omega)]
  · intro m hm
    rw [mkR_1] at hm
    have hm' : m < mkR R g len d s 1 := by
      rw [mkR_1]
      exact hm
    rw [hc 3 (by decide), hc 5 (by decide), hc 6 (by decide), hc 7 (by decide), hc 8 (by decide), hc 9 (by decide), h4, h.fl hm', h.ln hm', h.uc hm', h.cn hm']
    by_cases w : m = R 1
    · subst w
      rw [upd_eq, mkR_n0, mkR_n0, mkR_n11 hl, mkR_n12 hl, mkR_n12 hl, mkR_z hl (by decide) (by decide), mkR_z hl (by decide) (by decide), mkR_z hl (by decide) (by decide), mkR_z hl (by decide) (by decide)]
      refine ⟨rfl, rfl, rfl, rfl, rfl, fun i hi2 => ?_, fun i j hi2 => by omega⟩
      rw [h.lt hm' (by rw [mkR_n0]; exact hi2), mkR_nk hi2, mkR_nk hi2]
    · have hm2 : m < R 1 := by omega
      have hln := hV.ln hm2
      have huc := hV.uc hm2
      rw [upd_ne w, h.gd hm', mkR_old hm2 (by decide), mkR_old hm2 (by decide), mkR_old hm2 (by decide), mkR_old hm2 (by decide), mkR_old hm2 (by decide), mkR_old hm2 (by decide), mkR_old hm2 (by decide), mkR_old hm2 (by decide), mkR_old hm2 (by decide), mkR_old hm2 (by decide)]
      refine ⟨rfl, rfl, rfl, rfl, rfl, fun i hi2 => ?_, fun i j hi2 hj => ?_⟩
      · rw [h.lt hm' (by rw [mkR_old hm2 (by omega)]; exact hi2), mkR_old hm2 (by omega), mkR_old hm2 (by omega)]
      · rw [h.us hm' (by rw [mkR_old hm2 (by omega)]; exact hi2) hj, mkR_old hm2 (by omega), mkR_old hm2 (by omega)]
theorem wI_addUse {post : Int32 → GH → Prop} {m h f t : Nat} (hV : VR n R) (hn : n ≤ 13) (hC : CR R (G o)) (hm : m < R 1) (hu : qq R m 13 < 12) (hp : ∀ G', Ag (fun x _ _ => x = o) G G' → CR (usR R m h f t) (G' o) → post (zI (qq R m 13)) G') : wp_X4_addUse post o (zI m) (zI h) (zI f) (zI t) G := by
  have h13 := Nat.le_trans hV.mk hn
  unfold wp_X4_addUse
  refine ⟨zI_in (by omega), ?_⟩
  have cm : (zI (m : Int)).toNatClampNeg = m := zI_clN (by omega)
  rw [cm]
  intro y ey
  rw [hC.uc hm] at ey
  subst ey
  rw [wI_useAt]
  refine ⟨zI_in (by omega), ?_⟩
  intro G4 e4
  rw [zl1, zI_add]
  refine ⟨zI_in (by omega), ?_⟩
  intro G5 e5
  rw [zl2, zI_add]
  refine ⟨zI_in (by omega), ?_⟩
  intro G6 e6
  refine ⟨zI_in (by omega), zI_in (by omega), ?_⟩
  intro G7 e7
  rw [zI_clN (by omega)] at e4
  rw [show (((36 * m + 3 * qq R m 13 : Nat) : Int) + 1) = ((36 * m + 3 * qq R m 13 + 1 : Nat) : Int) by omega, zI_clN (by omega)] at e5
  rw [show (((36 * m + 3 * qq R m 13 : Nat) : Int) + 2) = ((36 * m + 3 * qq R m 13 + 2 : Nat) : Int) by omega, zI_clN (by omega)] at e6
  have k8 : G7 o 8 = upd (upd (upd (G o 8) (36 * m + 3 * qq R m 13) (zI h)) (36 * m + 3 * qq R m 13 + 1) (zI f)) (36 * m + 3 * qq R m 13 + 2) (zI t) := by simp [e7, e6, e5, e4, gs_o]
  have k7' : G6 o 7 = G o 7 := by simp [e6, e5, e4, gs_o]
  have k7 : G7 o 7 = upd (G o 7) m (zI ((qq R m 13 : Int) + 1)) := by
    rw [e7, gs_eq, k7', hC.uc hm, zI_add]
  have kc : ∀ c, c ≠ 7 → c ≠ 8 → G7 o c = G o c := fun c h7 h8 => by simp [e7, e6, e5, e4, gs_o, h7, h8]
  have ag : Ag (fun x _ _ => x = o) G G7 := by
    rw [e7, e6, e5, e4]
    exact ((((Ag.rf G).up rfl).up rfl).up rfl).up rfl
  refine hp G7 ag ⟨?_, ?_, ?_, ?_, ?_⟩
  · rw [kc 0 (by decide) (by decide), usR_lo (by omega)]
    exact hC.ld
  · rw [kc 0 (by decide) (by decide), usR_lo (by omega)]
    exact hC.mk
  · intro c hc
    rw [kc 10 (by decide) (by decide), usR_lo (by omega)]
    exact hC.nb hc
  · intro w hw
    rw [kc 11 (by decide) (by decide), usR_lo (by omega)]
    exact hC.rl hw
  · intro m' hm'
    rw [usR_lo (by omega)] at hm'
    have hln := hV.ln hm'
    have huc := hV.uc hm'
    rw [kc 3 (by decide) (by decide), kc 4 (by decide) (by decide), kc 5 (by decide) (by decide), kc 6 (by decide) (by decide), kc 9 (by decide) (by decide), k7, k8, usR_q (w := 0) (by omega) hu (by omega), usR_q (w := 11) (by omega) hu (by omega), usR_q (w := 12) (by omega) hu (by omega), usR_q (w := 50) (by omega) hu (by omega)]
    refine ⟨hC.fl hm', hC.gd hm', hC.ln hm', ?_, hC.cn hm', fun k hk => ?_, fun k j hk hj => ?_⟩
    · by_cases z : m' = m
      · subst z
        rw [upd_eq, usR_13]
        rfl
      · rw [upd_ne z, usR_q (by omega) hu (Or.inl z)]
        exact hC.uc hm'
    · rw [usR_q (by omega) hu (by omega)]
      exact hC.lt hm' hk
    · by_cases z : m' = m
      · subst z
        rw [usR_13] at hk
        by_cases u : k = qq R m' 13
        · subst u
          obtain ⟨x0, x1, x2⟩ := usR_k (R := R) (m := m') (h := h) (f := f) (t := t)
          have hj3 : j = 0 ∨ j = 1 ∨ j = 2 := by omega
          rcases hj3 with rfl | rfl | rfl
          · rw [upd_ne (by omega), upd_ne (by omega), Nat.add_zero, Nat.add_zero, upd_eq, x0]
          · rw [upd_ne (by omega), upd_eq, show 14 + 3 * qq R m' 13 + 1 = 15 + 3 * qq R m' 13 by omega, x1]
          · rw [upd_eq, show 14 + 3 * qq R m' 13 + 2 = 16 + 3 * qq R m' 13 by omega, x2]
        · rw [upd_ne (by omega), upd_ne (by omega), upd_ne (by omega), usR_q (by omega) hu (by omega)]
          exact hC.us hm' (by omega) hj
      · rw [usR_q (by omega) hu (Or.inl z)] at hk
        rw [upd_ne (by omega), upd_ne (by omega), upd_ne (by omega), usR_q (by omega) hu (Or.inl z)]
        exact hC.us hm' hk hj
theorem wI_setCouple {post : Bool → GH → Prop} {k N s t a c : Nat} {x : Int32} (y : Bool) (hx : x = bI y) (hN : N ≤ 13) (ha : a < N) (hb : c < N) (hab : a ≠ c) (gs0 : G o k a = zI s) (gt0 : G o k c = zI t) (hs : s < 8192) (ht : t < 8192) (hp : ∀ G', G' = gs G o k (upd (upd (G o k) a (zI (cpl y s c))) c (zI (cpl y t a))) → post (s.testBit c) G') : wp_X7_setCouple post o k N (zI a) (zI c) x G := by
  subst hx
  have b1 : 2 ^ a < 4294967296 := Nat.lt_of_lt_of_le (Nat.pow_lt_pow_right (a := 2) (by decide) (show a < 32 by omega)) (by decide)
  have b2 : 2 ^ c < 4294967296 := Nat.lt_of_lt_of_le (Nat.pow_lt_pow_right (a := 2) (by decide) (show c < 32 by omega)) (by decide)
  unfold wp_X7_setCouple
  refine ⟨zI_in (by omega), ?_⟩
  rw [zI_clN (n := a) (by omega), gs0, wI_isIn (by omega) (by omega)]
  cases y
  · refine br_t rfl ⟨zI_in (by omega), zI_in (by omega), ?_⟩
    intro G4 e4
    refine ⟨zI_in (by omega), zI_in (by omega), ?_⟩
    intro G5 e5
    rw [gs0, zI_bit (by omega), zI_difX b2] at e4
    have q : G4 o k c = zI t := by
      rw [e4, gs_eq, upd_ne (by omega)]
      exact gt0
    rw [zI_clN (n := c) (by omega), q, zI_bit (by omega), zI_difX b1] at e5
    refine hp G5 ?_
    rw [e5, e4, gs_gs, gs_eq]
    rfl
  · refine br_f (by decide) ⟨zI_in (by omega), zI_in (by omega), ?_⟩
    intro G4 e4
    refine ⟨zI_in (by omega), zI_in (by omega), ?_⟩
    intro G5 e5
    rw [gs0, zI_bit (by omega), zI_or] at e4
    have q : G4 o k c = zI t := by
      rw [e4, gs_eq, upd_ne (by omega)]
      exact gt0
    rw [zI_clN (n := c) (by omega), q, zI_bit (by omega), zI_or] at e5
    refine hp G5 ?_
    rw [e5, e4, gs_gs, gs_eq]
    rfl
theorem wI_setN {post : Bool → GH → Prop} {a c : Nat} {x : Int32} (y : Bool) (hx : x = bI y) (hV : VR n R) (hC : CR R (G o)) (ha : a < 10) (hc : c < 10) (hac : a ≠ c) (hp : ∀ G', Ag (fun x c _ => x = o ∧ c = 10) G G' → CR (jnR y R a c) (G' o) → post ((R (8 + a)).testBit c) G') : wp_X7_setCouple post o 10 10 (zI a) (zI c) x G := by
  have h1 := hV.nb ha
  have h2 := hV.nb hc
  refine wI_setCouple y hx (by omega) ha hc hac (hC.nb ha) (hC.nb hc) (by omega) (by omega) (fun G' e => ?_)
  have kc : ∀ k, k ≠ 10 → G' o k = G o k := fun k hk => by rw [e, gs_ne (by omega)]
  have hq : ∀ m w, qq (jnR y R a c) m w = qq R m w := fun m w => jnR_ne (by omega) ha hc
  refine hp G' ?_ ⟨?_, ?_, ?_, ?_, ?_⟩
  · intro x k j hw
    rw [e]
    unfold gs
    rw [if_neg hw]
  · rw [kc 0 (by decide), jnR_ne (by omega) ha hc]
    exact hC.ld
  · rw [kc 0 (by decide), jnR_ne (by omega) ha hc]
    exact hC.mk
  · intro d hd
    rw [e, gs_eq]
    unfold jnR
    by_cases w : d = c
    · subst w
      rw [upd_eq, if_neg (by omega), if_pos rfl]
    · rw [upd_ne w]
      by_cases z : d = a
      · subst z
        rw [upd_eq, if_pos rfl]
      · rw [upd_ne z, if_neg (by omega), if_neg (by omega)]
        exact hC.nb hd
  · intro w hw
    rw [kc 11 (by decide), jnR_ne (by omega) ha hc]
    exact hC.rl hw
  · simp only [hq]
    rw [kc 3 (by decide), kc 4 (by decide), kc 5 (by decide), kc 6 (by decide), kc 7 (by decide), kc 8 (by decide), kc 9 (by decide), jnR_ne (by omega) ha hc]
    exact hC.2.2.2.2
theorem wI_setC {post : Bool → GH → Prop} {a c : Nat} {x : Int32} (y : Bool) (hx : x = bI y) (hV : VR n R) (hn : n ≤ 13) (hC : CR R (G o)) (ha : a < R 1) (hc : c < R 1) (hac : a ≠ c) (hp : ∀ G', Ag (fun x c _ => x = o ∧ c = 9) G G' → CR (cnR y R a c) (G' o) → post ((qq R a 50).testBit c) G') : wp_X7_setCouple post o 9 13 (zI a) (zI c) x G := by
  have h13 := Nat.le_trans hV.mk hn
  refine wI_setCouple y hx (by omega) (by omega) (by omega) hac (hC.cn ha) (hC.cn hc) (hV.cn ha) (hV.cn hc) (fun G' e => ?_)
  have kc : ∀ k, k ≠ 9 → G' o k = G o k := fun k hk => by rw [e, gs_ne (by omega)]
  refine hp G' ?_ ⟨?_, ?_, ?_, ?_, ?_⟩
  · intro x k j hw
    rw [e]
    unfold gs
    rw [if_neg hw]
  · rw [kc 0 (by decide), cnR_lo (by omega)]
    exact hC.ld
  · rw [kc 0 (by decide), cnR_lo (by omega)]
    exact hC.mk
  · intro d hd
    rw [kc 10 (by decide), cnR_lo (by omega)]
    exact hC.nb hd
  · intro w hw
    rw [kc 11 (by decide), cnR_lo (by omega)]
    exact hC.rl hw
  · intro m hm
    rw [cnR_lo (by omega)] at hm
    have hln := hV.ln hm
    have huc := hV.uc hm
    rw [kc 3 (by decide), kc 4 (by decide), kc 5 (by decide), kc 6 (by decide), kc 7 (by decide), kc 8 (by decide), cnR_q (by omega), cnR_q (by omega), cnR_q (by omega), cnR_q (by omega)]
    refine ⟨hC.fl hm, hC.gd hm, hC.ln hm, hC.uc hm, ?_, fun k hk => ?_, fun k j hk hj => ?_⟩
    · rw [e, gs_eq, cnR_50]
      by_cases w : m = c
      · subst w
        rw [upd_eq, if_neg (by omega), if_pos rfl]
      · rw [upd_ne w]
        by_cases z : m = a
        · subst z
          rw [upd_eq, if_pos rfl]
        · rw [upd_ne z, if_neg z, if_neg w]
          exact hC.cn hm
    · rw [cnR_q (by omega)]
      exact hC.lt hm hk
    · rw [cnR_q (by omega)]
      exact hC.us hm hk hj
theorem CR.ru {A A' : Nat → Nat → Int32} {k v : Nat} (hC : CR R A) (hk : k < 6) (h11 : A' 11 = upd (A 11) k (zI v)) (hc : ∀ c, c ≠ 11 → A' c = A c) : CR (ruR R k v) A' := by
  have hq : ∀ m w, qq (ruR R k v) m w = qq R m w := fun m w => ruR_q hk
  refine ⟨?_, ?_, ?_, ?_, ?_⟩
  · rw [hc 0 (by decide), ruR_ne (by omega)]
    exact hC.ld
  · rw [hc 0 (by decide), ruR_ne (by omega)]
    exact hC.mk
  · intro c h
    rw [hc 10 (by decide), ruR_ne (by omega)]
    exact hC.nb h
  · intro w hw
    rw [h11]
    by_cases z : w = k
    · subst z
      rw [upd_eq]
      unfold ruR
      rw [if_pos rfl]
    · rw [upd_ne z, ruR_ne (by omega)]
      exact hC.rl hw
  · simp only [hq]
    rw [hc 3 (by decide), hc 4 (by decide), hc 5 (by decide), hc 6 (by decide), hc 7 (by decide), hc 8 (by decide), hc 9 (by decide), ruR_ne (by omega)]
    exact hC.2.2.2.2
end
/-! a register that is empty: lands, no mark, no neighbours, the first rules -/
def emR (v : Nat) : RR := fun i => if i = 0 then v else if i = 2 then 60 else if i = 3 then 5 else if i = 4 then 2 else if i = 6 then 30 else if i = 7 then 50 else 0
theorem emR_V {v : Nat} (hv : 1 ≤ v ∧ v ≤ 6) : VR 12 (emR v) := by
  refine ⟨hv, by show (0 : Nat) ≤ 12; omega, ?_, ?_, ?_, ?_⟩
  · have : ∀ w : Fin 6, emR 1 (2 + w.val) ≤ mst w.val := by decide
    intro w hw
    have := this ⟨w, hw⟩
    unfold emR at this ⊢
    rw [if_neg (by omega)] at this ⊢
    exact this
  · intro c hc
    have h0 : emR v (8 + c) = 0 := by
      unfold emR
      rw [if_neg (by omega), if_neg (by omega), if_neg (by omega), if_neg (by omega), if_neg (by omega), if_neg (by omega)]
    rw [h0]
    omega
  · intro c d hc hd
    have h0 : ∀ c, emR v (8 + c) = 0 := by
      intro c
      unfold emR
      rw [if_neg (by omega), if_neg (by omega), if_neg (by omega), if_neg (by omega), if_neg (by omega), if_neg (by omega)]
    rw [h0, h0, Nat.zero_testBit, Nat.zero_testBit]
  · intro m hm
    have hm : m < 0 := hm
    omega
section
variable {G : GH} {o : Nat}
theorem wI_fill {post : GH → Prop} (hp : ∀ G', (∀ x c, ¬ (x = o ∧ c = 10) → G' x c = G x c) → (∀ j, j < 10 → G' o 10 j = 0) → post G') : wp_J7_fill_53178 post o 10 10 (0 : Int32) G := by
  unfold wp_J7_fill_53178
  intro y ey
  have ey : y = zI 10 := ey
  subst ey
  intro P K
  have main : ∀ f k : Nat, k + f = 10 → ∀ G', (∀ x c, ¬ (x = o ∧ c = 10) → G' x c = G x c) → (∀ j, j < k → G' o 10 j = 0) → P (0 : Int32) (zI k) (zI 10) G' := by
    intro f
    induction f with
    | zero =>
      intro k hk G' h1 h2
      refine K _ _ _ _ ?_
      unfold lb_J7_fill_53178_5
      refine br_t (by rw [zI_le (by omega)]; omega) ?_
      exact hp G' h1 (fun j hj => h2 j (by omega))
    | succ f ih =>
      intro k hk G' h1 h2
      refine K _ _ _ _ ?_
      unfold lb_J7_fill_53178_5
      refine br_f (by rw [zI_le (by omega)]; omega) ⟨zI_in (by omega), ?_⟩
      intro G3 e3
      rw [zI_clN (by omega)] at e3
      rw [zl1, zI_add]
      refine ih (k + 1) (by omega) G3 (fun x c h => ?_) (fun j hj => ?_)
      · rw [e3, gs_ne h]
        exact h1 x c h
      · rw [e3, gs_eq]
        by_cases w : j = k
        · subst w
          rw [upd_eq]
        · rw [upd_ne w]
          exact h2 j (by omega)
  exact main 10 0 (by omega) G (fun _ _ _ => rfl) (fun j hj => by omega)
theorem wI_clear {post : GH → Prop} (hp : ∀ G', Ag (fun x _ _ => x = o) G G' → CR (emR 1) (G' o) → post G') : wp_X4_clear post o G := by
  unfold wp_X4_clear
  intro G1 e1 G2 e2
  refine wI_fill (fun G3 h1 h2 => ?_)
  refine ⟨by decide, ?_⟩
  intro G5 e5
  have k0 : G5 o 0 = upd (upd (G o 0) 0 1) 1 0 := by
    rw [e5, gs_ne (by omega), h1 o 0 (by omega), e2, gs_eq, e1, gs_eq]
  have k10 : ∀ j, j < 10 → G5 o 10 j = 0 := fun j hj => by
    rw [e5, gs_ne (by omega)]
    exact h2 j hj
  have k11 : ∀ w, w < 6 → G5 o 11 w = (sTb 0).getD w 0 := by
    intro w hw
    rw [e5, gs_eq]
    show va_cpy (fun j => (sTb 0).getD j 0) (G3 o 11) 0 0 6 w = _
    unfold va_cpy
    simp
    omega
  have ag : Ag (fun x _ _ => x = o) G G5 := by
    intro x c j hw
    rw [e5, gs_ne (fun z => hw z.1), h1 x c (fun z => hw z.1), e2, gs_ne (fun z => hw z.1), e1, gs_ne (fun z => hw z.1)]
  refine hp G5 ag ⟨?_, ?_, ?_, ?_, ?_⟩
  · rw [k0, upd_ne (by decide), upd_eq]
    rfl
  · rw [k0, upd_eq]
    rfl
  · intro c hc
    rw [k10 c hc]
    have h0 : emR 1 (8 + c) = 0 := by
      unfold emR
      rw [if_neg (by omega), if_neg (by omega), if_neg (by omega), if_neg (by omega), if_neg (by omega), if_neg (by omega)]
    rw [h0]
    rfl
  · intro w hw
    rw [k11 w hw]
    exact (by decide : ∀ w : Fin 6, (sTb 0).getD w.val 0 = zI (emR 1 (2 + w.val))) ⟨w, hw⟩
  · intro m hm
    have hm : m < 0 := hm
    omega
end
