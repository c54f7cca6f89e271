/-! ===== one mark more, one fewer, a name taken: in the reference ===== -/
def gaR (R : RR) : RR := fun i => if i = 1 then R 1 - 1 else R i
/-- the same but for the rows of one mark behind the last -/
def eqT (R R' : RR) : Prop := ∀ i, (i < 18 + 51 * R 1 ∨ 18 + 51 * R 1 + 51 ≤ i) → R' i = R i
section
variable {R R' : RR} {n : Nat}
theorem eqT.lo (h : eqT R R') {i : Nat} (hi : i < 18) : R' i = R i := h i (Or.inl (by omega))
theorem eqT.q (h : eqT R R') {m w : Nat} (hm : m < R 1) (hw : w < 51) : qq R' m w = qq R m w := h _ (Or.inl (by omega))
theorem eqT.rf (R : RR) : eqT R R := fun _ _ => rfl
theorem eqT.tr {R'' : RR} (h : eqT R R') (h' : eqT R' R'') : eqT R R'' := by
  intro i hi
  have e1 := h.lo (i := 1) (by omega)
  rw [h' i (by rw [e1]; exact hi), h i hi]
theorem eqT.mk (h : eqT R R') (g : Nat → Nat) (len d s : Nat) : mkR R' g len d s = mkR R g len d s := by
  have e1 := h.lo (i := 1) (by omega)
  funext i
  unfold mkR
  rw [e1]
  by_cases w1 : i = 1
  · rw [if_pos w1, if_pos w1]
  · rw [if_neg w1, if_neg w1]
    by_cases w2 : i < 18 + 51 * R 1
    · rw [if_pos w2, if_pos w2, h i (Or.inl w2)]
    · rw [if_neg w2, if_neg w2]
      by_cases w3 : i < 18 + 51 * R 1 + 51
      · rw [if_pos w3, if_pos w3]
      · rw [if_neg w3, if_neg w3, h i (Or.inr (by omega))]
theorem eqT.ga {g : Nat → Nat} {len d s : Nat} (hl : len ≤ 10) (x : Nat) : eqT R (gaR (flR (mkR R g len d s) (R 1) x)) := by
  intro i hi
  unfold gaR
  by_cases w : i = 1
  · rw [if_pos w, flR_lo (by omega), mkR_1, w]
    omega
  · rw [if_neg w]
    unfold flR
    rw [if_neg (by omega)]
    unfold mkR
    rw [if_neg w]
    by_cases w2 : i < 18 + 51 * R 1
    · rw [if_pos w2]
    · rw [if_neg w2, if_neg (by omega), if_neg (by omega), if_neg (by omega), if_neg (by omega), if_neg (by omega)]
theorem eqT.ga0 {g : Nat → Nat} {len d s : Nat} (hl : len ≤ 10) : eqT R (gaR (mkR R g len d s)) := by
  have := eqT.ga (R := R) (g := g) (len := len) (d := d) (s := s) hl (qq (mkR R g len d s) (R 1) 12)
  rw [flR_self] at this
  exact this
theorem eqT.V (h : eqT R R') (hV : VR n R) : VR n R' := by
  have e1 := h.lo (i := 1) (by omega)
  refine ⟨?_, ?_, ?_, ?_, ?_, ?_⟩
  · rw [h.lo (by omega)]
    exact hV.1
  · rw [e1]
    exact hV.2.1
  · intro w hw
    rw [h.lo (by omega)]
    exact hV.rl hw
  · intro x hx
    rw [h.lo (by omega)]
    exact hV.nb hx
  · intro x e hx he
    rw [h.lo (by omega), h.lo (by omega)]
    exact hV.ns hx he
  · intro x hx
    rw [e1] at hx
    have h0 := hV.2.2.2.2.2 x hx
    have hln := hV.ln hx
    have huc := hV.uc hx
    rw [h.q hx (w := 0) (by omega), h.q hx (w := 11) (by omega), h.q hx (w := 12) (by omega), h.q hx (w := 13) (by omega), h.q hx (w := 50) (by omega)]
    refine ⟨h0.1, fun k hk => ?_, h0.2.2.1, h0.2.2.2.1, h0.2.2.2.2.1, fun k hk => ?_, h0.2.2.2.2.2.2⟩
    · rw [h.q hx (by omega)]
      exact h0.2.1 k hk
    · rw [h.q hx (by omega), h.q hx (by omega), h.q hx (by omega)]
      exact h0.2.2.2.2.2.1 k hk
theorem eqT.C {A : Nat → Nat → Int32} (h : eqT R R') (hV : VR n R) (hC : CR R A) : CR R' A := by
  have e1 := h.lo (i := 1) (by omega)
  refine ⟨?_, ?_, ?_, ?_, ?_⟩
  · rw [h.lo (by omega)]
    exact hC.ld
  · rw [e1]
    exact hC.mk
  · intro c hc
    rw [h.lo (by omega)]
    exact hC.nb hc
  · intro w hw
    rw [h.lo (by omega)]
    exact hC.rl hw
  · intro x hx
    rw [e1] at hx
    have hln := hV.ln hx
    have huc := hV.uc hx
    rw [h.q hx (w := 0) (by omega), h.q hx (w := 11) (by omega), h.q hx (w := 12) (by omega), h.q hx (w := 13) (by omega), h.q hx (w := 50) (by omega)]
    refine ⟨hC.fl hx, hC.gd hx, hC.ln hx, hC.uc hx, hC.cn hx, fun k hk => ?_, fun k j hk hj => ?_⟩
    · rw [h.q hx (by omega)]
      exact hC.lt hx hk
    · rw [h.q hx (by omega)]
      exact hC.us hx hk hj
theorem eqT.A (h : eqT R R') (hV : VR n R) : eqA R R' := ⟨(h.lo (by omega)).symm, fun i h1 h2 => (h.lo h2).symm, fun m hm => ⟨⟨hV.ln hm, fun w hw => (h.q hm (by omega)).symm⟩, (h.q hm (by omega)).symm⟩⟩
end
section
variable {R : RR} {G : GH} {n : Nat} {b : Nat → Nat}
def WTN (x c j : Nat) : Prop := x = 24 ∧ (c = 30 ∨ c = 0 ∧ (j = 30 ∨ j = 32))
theorem wM_takesName {post : Bool → GH → Prop} (hB : MB b (G 24 32)) (hn : n ≤ 700) (hp : ∀ G', Ag WTN G G' → G' 24 0 32 = zI 0 → G' 24 0 30 = zI n → (nmB b n = true → ∀ k, k < n → G' 24 30 k = zI (b k)) → post (nmB b n) G') : wp_X8_takesName post (zI n) G := by
  unfold wp_X8_takesName
  intro G1 e1 G2 e2
  have a2 : Ag WTN G G2 := by
    rw [e2, e1]
    exact ((Ag.rf G).up ⟨rfl, by omega⟩).up ⟨rfl, by omega⟩
  have f32 : G2 24 0 32 = zI 0 := by
    rw [e2, gs_eq, upd_ne (by decide), e1, gs_eq, upd_eq]
    rfl
  have f30 : G2 24 0 30 = zI n := by rw [e2, gs_eq, upd_eq]
  have hB2 : ∀ {G'}, Ag WTN G G' → MB b (G' 24 32) := fun {G'} ag => by
    rw [ag.ce 24 32 (fun j w => by unfold WTN at w; omega)]
    exact hB
  rw [zl1, zl10, wM_within (by omega)]
  by_cases w : 1 ≤ n ∧ n ≤ 10
  · refine br_bt (decide_eq_true (by omega)) ?_
    intro P K
    have main : ∀ f k : Nat, k + f = n → (∀ i, i < k → sml (b i) = true) → ∀ G', Ag WTN G G' → G' 24 0 32 = zI 0 → G' 24 0 30 = zI n → (∀ i, i < k → G' 24 30 i = zI (b i)) → P (zI n) (zI k) G' := by
      intro f
      induction f with
      | zero =>
        intro k hk hi G' ag q32 q30 hr
        refine K _ _ _ ?_
        unfold lb_X8_takesName_24
        refine br_t (by rw [zI_le (by omega)]; omega) ?_
        have ht : nmB b n = true := decide_eq_true ⟨by omega, by omega, fun i hi2 => hi i (by omega)⟩
        have := hp G' ag q32 q30 (fun _ i hi2 => hr i (by omega))
        rw [ht] at this
        exact this
      | succ f ih =>
        intro k hk hi G' ag q32 q30 hr
        have hb := hB2 ag k (by omega)
        refine K _ _ _ ?_
        unfold lb_X8_takesName_24
        refine br_f (by rw [zI_le (by omega)]; omega) ⟨zI_in (by omega), ?_⟩
        rw [zI_clN (by omega), hb.1, zl97, zl122, wM_within (by omega)]
        by_cases z : sml (b k) = true
        · have z2 : 97 ≤ b k ∧ b k ≤ 122 := of_decide_eq_true z
          refine br_bt (decide_eq_true (by omega)) ⟨zI_in (by omega), zI_in (by omega), ?_⟩
          intro G10 e10
          rw [hb.1] at e10
          rw [show zI (k : Int) + (1 : Int32) = zI ((k + 1 : Nat) : Int) from zI_add _ 1]
          refine ih (k + 1) (by omega) (fun i hi2 => ?_) G10 (by rw [e10]; exact ag.up ⟨rfl, Or.inl rfl⟩) (by rw [e10, gs_ne (by decide)]; exact q32) (by rw [e10, gs_ne (by decide)]; exact q30) (fun i hi2 => ?_)
          · by_cases u : i = k
            · rw [u]
              exact z
            · exact hi i (by omega)
          · rw [e10, gs_eq]
            by_cases u : i = k
            · rw [u, upd_eq]
            · rw [upd_ne u]
              exact hr i (by omega)
        · have z2 : ¬ (97 ≤ b k ∧ b k ≤ 122) := fun y => z (decide_eq_true y)
          refine br_bf (decide_eq_false (by omega)) ?_
          have hf : nmB b n = false := decide_eq_false (fun y => z (y.2.2 k (by omega)))
          have := hp G' ag q32 q30 (fun y => by rw [hf] at y; cases y)
          rw [hf] at this
          exact this
    exact main n 0 (by omega) (fun i hi => by omega) G2 a2 f32 f30 (fun i hi => by omega)
  · refine br_bf (decide_eq_false (by omega)) ?_
    have hf : nmB b n = false := decide_eq_false (fun y => w ⟨y.1, y.2.1⟩)
    have := hp G2 a2 f32 f30 (fun y => by rw [hf] at y; cases y)
    rw [hf] at this
    exact this
def WAd (x c j : Nat) : Prop := x = 24 ∧ (c = 1 ∨ c = 0 ∧ j = 7)
set_option maxHeartbeats 1000000 in
theorem wM_adds {post : Int32 → GH → Prop} {g : Nat → Nat} {len d s : Nat} (hm : R 1 < 13) (hl : 1 ≤ len ∧ len ≤ 10) (hM : MR R (G 24 1)) (h30 : G 24 0 30 = zI len) (hg : ∀ k, k < len → G 24 30 k = zI (g k)) (hp : ∀ G', Ag WAd G G' → MR (mkR R g len d s) (G' 24 1) → G' 24 0 7 = 0 → post (zI (R 1)) G') : wp_X8_adds post (zI s) (zI d) G := by
  unfold wp_X8_adds
  rw [wM_marks hM]
  have k30 : ∀ {G'}, Ag WAd G G' → G' 24 0 30 = zI len := fun {G'} ag => by
    rw [ag 24 0 30 (fun w => by unfold WAd at w; omega)]
    exact h30
  have kg : ∀ {G'}, Ag WAd G G' → ∀ k, k < len → G' 24 30 k = zI (g k) := fun {G'} ag k hk => by
    rw [ag 24 30 k (fun w => by unfold WAd at w; omega)]
    exact hg k hk
  -- the letters
  have lets : ∀ f k : Nat, k + f = len → ∀ G', Ag WAd G G' → (∀ j, j < 681 → G' 24 1 j = if j < 18 + 51 * R 1 then zI (R j) else if j = 18 + 51 * R 1 then zI len else if j < 18 + 51 * R 1 + 1 + k then zI (g (j - (18 + 51 * R 1 + 1))) else if j < 18 + 51 * R 1 + 51 then 0 else zI (R j)) → lp_X8_adds_42 post (zI s) (zI d) (zI (R 1)) (zI k) G' := by
    intro f
    induction f with
    | zero =>
      intro k hk G' ag hr
      have : k = len := by omega
      subst this
      intro P K
      refine K _ _ _ _ _ ?_
      unfold lb_X8_adds_42
      rw [k30 ag]
      refine br_t (by rw [zI_le (by omega)]; omega) ?_
      refine wM_put (R 1) 11 rfl rfl (by omega) (by omega) (fun G7 e7 => wM_put (R 1) 12 rfl rfl (by omega) (by omega) (fun G9 e9 => ?_))
      intro G11 e11 G12 e12
      have r9 : G9 24 1 = upd (upd (G' 24 1) (18 + 51 * R 1 + 11) (zI s)) (18 + 51 * R 1 + 12) (zI d) := by rw [e9, gs_eq, e7, gs_eq]
      have r1 : G9 24 1 1 = zI (R 1) := by
        rw [r9, upd_ne (by omega), upd_ne (by omega), hr 1 (by omega), if_pos (by omega)]
      have r12 : G12 24 1 = upd (upd (upd (G' 24 1) (18 + 51 * R 1 + 11) (zI s)) (18 + 51 * R 1 + 12) (zI d)) 1 (zI ((R 1 + 1 : Nat) : Int)) := by
        rw [e12, gs_ne (by decide), e11, gs_eq, r1, r9, show zI (R 1 : Int) + (1 : Int32) = zI ((R 1 + 1 : Nat) : Int) from zI_add _ 1]
      refine hp G12 ?_ ?_ (by rw [e12, gs_eq, upd_eq])
      · rw [e12, e11, e9, e7]
        exact (((ag.up ⟨rfl, Or.inl rfl⟩).up ⟨rfl, Or.inl rfl⟩).up ⟨rfl, Or.inl rfl⟩).up ⟨rfl, Or.inr ⟨rfl, rfl⟩⟩
      · intro j hj
        rw [r12]
        unfold mkR
        by_cases w1 : j = 1
        · subst w1
          rw [upd_eq, if_pos rfl]
        · rw [upd_ne w1, if_neg w1]
          by_cases w3 : j = 18 + 51 * R 1 + 12
          · subst w3
            rw [upd_eq, if_neg (by omega), if_neg (by omega), if_neg (by omega), if_neg (by omega), if_pos rfl]
          · rw [upd_ne w3]
            by_cases w2 : j = 18 + 51 * R 1 + 11
            · subst w2
              rw [upd_eq, if_neg (by omega), if_neg (by omega), if_neg (by omega), if_pos rfl]
            · rw [upd_ne w2, hr j hj]
              by_cases w5 : j < 18 + 51 * R 1
              · rw [if_pos w5, if_pos w5]
              · rw [if_neg w5, if_neg w5]
                by_cases w4 : j = 18 + 51 * R 1
                · rw [if_pos w4, if_pos w4]
                · rw [if_neg w4, if_neg w4]
                  by_cases w6 : j < 18 + 51 * R 1 + 1 + k
                  · rw [if_pos w6, if_pos w6]
                  · rw [if_neg w6, if_neg w6, if_neg w2, if_neg w3]
                    by_cases w7 : j < 18 + 51 * R 1 + 51
                    · rw [if_pos w7, if_pos w7]
                      rfl
                    · rw [if_neg w7, if_neg w7]
    | succ f ih =>
      intro k hk G' ag hr
      intro P K
      refine K _ _ _ _ _ ?_
      unfold lb_X8_adds_42
      rw [k30 ag]
      refine br_f (by rw [zI_le (by omega)]; omega) ⟨zI_in (by omega), ?_⟩
      rw [zI_clN (by omega), kg ag k (by omega)]
      refine wM_put (R 1) (1 + k) rfl (zI_add 1 k) (by omega) (by omega) (fun G13 e13 => ?_)
      rw [show zI (k : Int) + (1 : Int32) = zI ((k + 1 : Nat) : Int) from zI_add _ 1]
      refine ih (k + 1) (by omega) G13 (by rw [e13]; exact ag.up ⟨rfl, Or.inl rfl⟩) (fun j hj => ?_) P K
      rw [e13, gs_eq]
      by_cases u : j = 18 + 51 * R 1 + (1 + k)
      · subst u
        rw [upd_eq, if_neg (by omega), if_neg (by omega), if_pos (by omega)]
        congr 3
        omega
      · rw [upd_ne u, hr j hj]
        by_cases w5 : j < 18 + 51 * R 1
        · rw [if_pos w5, if_pos w5]
        · rw [if_neg w5, if_neg w5]
          by_cases w4 : j = 18 + 51 * R 1
          · rw [if_pos w4, if_pos w4]
          · rw [if_neg w4, if_neg w4]
            by_cases w6 : j < 18 + 51 * R 1 + 1 + k
            · rw [if_pos w6, if_pos (by omega)]
            · rw [if_neg w6, if_neg (show ¬ j < 18 + 51 * R 1 + 1 + (k + 1) by omega)]
  intro P K
  have zero : ∀ f k : Nat, k + f = 51 → ∀ G', Ag WAd G G' → (∀ j, j < 681 → G' 24 1 j = if 18 + 51 * R 1 ≤ j ∧ j < 18 + 51 * R 1 + k then 0 else zI (R j)) → P (zI s) (zI d) (zI (R 1)) (zI k) G' := by
    intro f
    induction f with
    | zero =>
      intro k hk G' ag hr
      have : k = 51 := by omega
      subst this
      refine K _ _ _ _ _ ?_
      unfold lb_X8_adds_8
      refine br_t (by rw [zl51, zI_le (by omega)]; omega) ?_
      rw [k30 ag]
      refine wM_put (R 1) 0 rfl rfl (by omega) (by omega) (fun G4 e4 => ?_)
      refine lets len 0 (by omega) G4 (by rw [e4]; exact ag.up ⟨rfl, Or.inl rfl⟩) (fun j hj => ?_)
      rw [e4, gs_eq]
      by_cases w4 : j = 18 + 51 * R 1
      · subst w4
        rw [show 18 + 51 * R 1 + 0 = 18 + 51 * R 1 from rfl, upd_eq, if_neg (by omega), if_pos rfl]
      · rw [upd_ne (by omega), hr j hj]
        by_cases w5 : j < 18 + 51 * R 1
        · rw [if_pos w5, if_neg (by omega)]
        · rw [if_neg w5, if_neg w4, if_neg (show ¬ j < 18 + 51 * R 1 + 1 + 0 by omega)]
          by_cases w7 : j < 18 + 51 * R 1 + 51
          · rw [if_pos w7, if_pos (show 18 + 51 * R 1 ≤ j ∧ j < 18 + 51 * R 1 + 51 by omega)]
          · rw [if_neg w7, if_neg (show ¬ (18 + 51 * R 1 ≤ j ∧ j < 18 + 51 * R 1 + 51) by omega)]
    | succ f ih =>
      intro k hk G' ag hr
      refine K _ _ _ _ _ ?_
      unfold lb_X8_adds_8
      refine br_f (by rw [zl51, zI_le (by omega)]; omega) ?_
      refine wM_put (R 1) k rfl rfl (by omega) (by omega) (fun G15 e15 => ?_)
      rw [show zI (k : Int) + (1 : Int32) = zI ((k + 1 : Nat) : Int) from zI_add _ 1]
      refine ih (k + 1) (by omega) G15 (by rw [e15]; exact ag.up ⟨rfl, Or.inl rfl⟩) (fun j hj => ?_)
      rw [e15, gs_eq]
      by_cases u : j = 18 + 51 * R 1 + k
      · subst u
        rw [upd_eq, if_pos (by omega)]
      · rw [upd_ne u, hr j hj]
        by_cases w : 18 + 51 * R 1 ≤ j ∧ j < 18 + 51 * R 1 + k
        · rw [if_pos w, if_pos (by omega)]
        · rw [if_neg w, if_neg (by omega)]
  exact zero 51 0 (by omega) G (Ag.rf G) (fun j hj => by rw [if_neg (by omega)]; exact hM.at hj)
theorem wM_goesAway {post : GH → Prop} (hM : MR R (G 24 1)) (h1 : 1 ≤ R 1 ∧ R 1 ≤ 13) (hp : ∀ G', Ag WAd G G' → MR (gaR R) (G' 24 1) → G' 24 0 7 = 0 → post G') : wp_X8_goesAway post G := by
  unfold wp_X8_goesAway
  intro G1 e1 G2 e2
  refine hp G2 ?_ ?_ (by rw [e2, gs_eq, upd_eq])
  · rw [e2, e1]
    exact ((Ag.rf G).up ⟨rfl, Or.inl rfl⟩).up ⟨rfl, Or.inr ⟨rfl, rfl⟩⟩
  · intro j hj
    rw [e2, gs_ne (by decide), e1, gs_eq]
    unfold gaR
    by_cases w : j = 1
    · subst w
      rw [upd_eq, if_pos rfl, hM.at (by omega), zl1, zI_sub]
      exact zI_cg (by omega)
    · rw [upd_ne w, if_neg w]
      exact hM.at hj
end
