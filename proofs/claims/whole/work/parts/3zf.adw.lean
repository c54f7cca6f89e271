/-! ===== advance ===== -/
theorem gs_u (G : GH) (o k : Nat) (f : Nat → Int32) (j : Nat) (v : Int32) : gs (gs G o k f) o k (upd (gs G o k f o k) j v) = gs G o k (upd f j v) := by
  rw [gs_gs, gs_eq]
theorem run_s (q : Nat → Bool) {n p : Nat} (hp : p < n) (hq : q p = true) : run q n n p = run q n n (p + 1) := by
  have h1 := run_mo q n n (n + 1) p (by omega) (by omega)
  rw [h1]
  show (if p < n ∧ q p = true then run q n n (p + 1) else p) = _
  rw [if_pos ⟨hp, hq⟩]
theorem run_e (q : Nat → Bool) {n p : Nat} (h : ¬ (p < n ∧ q p = true)) : run q n n p = p := by
  cases n with
  | zero => rfl
  | succ n =>
    show (if _ then _ else _) = _
    rw [if_neg h]
section
variable {G : GH} {b : Nat → Nat} {n p : Nat} {post : GH → Prop}
set_option maxHeartbeats 2000000 in
theorem wI_advance (hB : TB b (G 1 1)) (hn : n ≤ 700) (h5 : G 1 0 5 = zI p) (h6 : G 1 0 6 = zI n) (hpn : p ≤ n) (hp : ∀ f : Nat → Int32, f 3 = zI (tkS b n p) → f 5 = zI (tkE b n p) → f 2 = zI (tkK b n p) → (tkK b n p = 2 → f 4 = zI (vlN 100000 b (tkS b n p) (tkE b n p - tkS b n p))) → (∀ j, j < 2 ∨ 5 < j → f j = G 1 0 j) → post (gs G 1 0 f)) : wp_X6_advance post G := by
  have hB2 : ∀ f : Nat → Int32, TB b (gs G 1 0 f 1 1) := fun f => by rw [gs_ne (by decide)]; exact hB
  have e0 : ∀ f : Nat → Int32, gs G 1 0 f 1 0 = f := fun f => gs_eq _ _ _ _
  -- the figures
  have figs : ∀ t k : Nat, ∀ f : Nat → Int32, n ≤ tkS b n p + k + t → tkS b n p + k ≤ n → f 3 = zI (tkS b n p) → f 5 = zI ((tkS b n p + k : Nat) : Int) → f 6 = zI n → f 2 = zI (tkK b n p) → f 4 = zI (vlN 100000 b (tkS b n p) k) → (∀ j, j < 2 ∨ 5 < j → f j = G 1 0 j) → run (fun i => fig (b i)) n n (tkS b n p + k) = tkE b n p → lp_X6_advance_158 post (gs G 1 0 f) := by
    intro t
    induction t with
    | zero =>
      intro k f hk hk2 f3 f5 f6 f2 f4 fo hr
      intro P K
      refine K _ ?_
      unfold lb_X6_advance_158
      rw [e0, f6, f5]
      refine br_t (by rw [zI_le (by omega)]; omega) ?_
      rw [run_e _ (by omega)] at hr
      exact hp f f3 (by rw [f5, hr]) f2 (fun _ => by rw [f4, ← hr, Nat.add_sub_cancel_left]) fo
    | succ t ih =>
      intro k f hk hk2 f3 f5 f6 f2 f4 fo hr
      intro P K
      refine K _ ?_
      unfold lb_X6_advance_158
      rw [e0, f6, f5]
      by_cases w : tkS b n p + k < n
      · refine br_f (by rw [zI_le (by omega)]; omega) ⟨zI_in (by omega), ?_⟩
        rw [zI_clN (by omega), (hB2 f).g (by omega)]
        have hx := (hB (tkS b n p + k) (by omega)).2
        refine wI_isFigure hx ?_
        by_cases z : fig (b (tkS b n p + k)) = true
        · refine br_bt z ?_
          rw [e0, f5]
          refine ⟨zI_in (by omega), ?_⟩
          rintro _ rfl _ rfl
          have hz : 48 ≤ b (tkS b n p + k) ∧ b (tkS b n p + k) ≤ 57 := by
            unfold fig at z
            exact of_decide_eq_true z
          have hv := vlN_le 100000 b (tkS b n p) k
          have hsb : sb (b (tkS b n p + k)) = (b (tkS b n p + k) : Int) := by
            unfold sb
            rw [if_pos (by omega)]
          rw [zI_clN (by omega), (hB2 f).g (by omega), hsb, f4, zl10, zI_mul, zI_add, zl48, zI_sub, show (100000 : Int32) = zI 100000 from rfl, zI_min (by omega)]
          simp only [gs_gs, gs_eq]
          refine ih (k + 1) _ (by omega) (by omega) ?_ ?_ ?_ ?_ ?_ (fun j hj => ?_) ?_ P K
          · unfold upd
            rw [if_neg (by decide), if_neg (by decide)]
            exact f3
          · unfold upd
            rw [if_pos rfl, if_neg (by decide), f5, zl1, zI_add]
            exact zI_cg (by omega)
          · unfold upd
            rw [if_neg (by decide), if_neg (by decide)]
            exact f6
          · unfold upd
            rw [if_neg (by decide), if_neg (by decide)]
            exact f2
          · unfold upd
            rw [if_neg (by decide), if_pos rfl]
            show _ = zI ((min 100000 (10 * vlN 100000 b (tkS b n p) k + (b (tkS b n p + k) - 48)) : Nat) : Int)
            exact zI_cg (by omega)
          · unfold upd
            rw [if_neg (by omega), if_neg (by omega)]
            exact fo j hj
          · rw [← hr]
            exact (run_s (fun i => fig (b i)) w z).symm
        · refine br_bf (by simpa using z) ?_
          rw [run_e (fun i => fig (b i)) (fun q => z q.2)] at hr
          exact hp f f3 (by rw [f5, hr]) f2 (fun _ => by rw [f4, ← hr, Nat.add_sub_cancel_left]) fo
      · refine br_t (by rw [zI_le (by omega)]; omega) ?_
        rw [run_e _ (by omega)] at hr
        exact hp f f3 (by rw [f5, hr]) f2 (fun _ => by rw [f4, ← hr, Nat.add_sub_cancel_left]) fo
  have hs : tkS b n p ≤ n := run_le _ n n p hpn
  -- the small letters
  have smls : ∀ t q : Nat, ∀ f : Nat → Int32, n ≤ q + t → q ≤ n → f 3 = zI (tkS b n p) → f 5 = zI (q : Int) → f 6 = zI n → f 2 = zI (tkK b n p) → tkK b n p = 1 → (∀ j, j < 2 ∨ 5 < j → f j = G 1 0 j) → run (fun i => sml (b i)) n n q = tkE b n p → lp_X6_advance_99 post (gs G 1 0 f) := by
    intro t
    induction t with
    | zero =>
      intro q f hq hq2 f3 f5 f6 f2 hk fo hr
      intro P K
      refine K _ ?_
      unfold lb_X6_advance_99
      rw [e0, f6, f5]
      refine br_t (by rw [zI_le (by omega)]; omega) ?_
      rw [run_e _ (by omega)] at hr
      exact hp f f3 (by rw [f5, hr]) f2 (fun w => by omega) fo
    | succ t ih =>
      intro q f hq hq2 f3 f5 f6 f2 hk fo hr
      intro P K
      refine K _ ?_
      unfold lb_X6_advance_99
      rw [e0, f6, f5]
      by_cases w : q < n
      · refine br_f (by rw [zI_le (by omega)]; omega) ⟨zI_in (by omega), ?_⟩
        rw [zI_clN (by omega), (hB2 f).g (by omega)]
        have hx := (hB q (by omega)).2
        refine wI_isSmall hx ?_
        by_cases z : sml (b q) = true
        · refine br_bt z ?_
          rintro _ rfl
          simp only [gs_gs, gs_eq]
          refine ih (q + 1) _ (by omega) (by omega) ?_ ?_ ?_ ?_ hk (fun j hj => ?_) ?_ P K
          · unfold upd
            rw [if_neg (by decide)]
            exact f3
          · unfold upd
            rw [if_pos rfl, f5, zl1, zI_add]
            exact zI_cg (by omega)
          · unfold upd
            rw [if_neg (by decide)]
            exact f6
          · unfold upd
            rw [if_neg (by decide)]
            exact f2
          · unfold upd
            rw [if_neg (by omega)]
            exact fo j hj
          · rw [← hr]
            exact (run_s (fun i => sml (b i)) w z).symm
        · refine br_bf (by simpa using z) ?_
          rw [run_e (fun i => sml (b i)) (fun q => z q.2)] at hr
          exact hp f f3 (by rw [f5, hr]) f2 (fun w => by omega) fo
      · refine br_t (by rw [zI_le (by omega)]; omega) ?_
        rw [run_e _ (by omega)] at hr
        exact hp f f3 (by rw [f5, hr]) f2 (fun w => by omega) fo
  -- the token's kind
  have j47 : ∀ f : Nat → Int32, f 3 = zI (tkS b n p) → f 6 = zI n → (∀ j, j < 2 ∨ 5 < j → f j = G 1 0 j) → j_X6_advance_47 post (gs G 1 0 f) := by
    intro f f3 f6 fo
    unfold j_X6_advance_47
    rintro _ rfl _ rfl
    simp only [gs_gs, gs_eq]
    have g3 : upd (upd f 5 (f 3)) 4 (0 : Int32) 3 = zI (tkS b n p) := by
      unfold upd
      rw [if_neg (by decide), if_neg (by decide)]
      exact f3
    have g5 : upd (upd f 5 (f 3)) 4 (0 : Int32) 5 = zI (tkS b n p) := by
      unfold upd
      rw [if_neg (by decide), if_pos rfl]
      exact f3
    have g4 : upd (upd f 5 (f 3)) 4 (0 : Int32) 4 = zI 0 := by
      unfold upd
      rw [if_pos rfl]
      rfl
    have g6 : upd (upd f 5 (f 3)) 4 (0 : Int32) 6 = zI n := by
      unfold upd
      rw [if_neg (by decide), if_neg (by decide)]
      exact f6
    have go : ∀ j, j < 2 ∨ 5 < j → upd (upd f 5 (f 3)) 4 (0 : Int32) j = G 1 0 j := by
      intro j hj
      unfold upd
      rw [if_neg (by omega), if_neg (by omega)]
      exact fo j hj
    generalize upd (upd f 5 (f 3)) 4 (0 : Int32) = f4 at g3 g4 g5 g6 go ⊢
    have u2 : ∀ v : Int32, upd f4 2 v 2 = v ∧ upd f4 2 v 3 = f4 3 ∧ upd f4 2 v 4 = f4 4 ∧ upd f4 2 v 5 = f4 5 ∧ upd f4 2 v 6 = f4 6 ∧ ∀ j, j < 2 ∨ 5 < j → upd f4 2 v j = f4 j := by
      intro v
      refine ⟨by unfold upd; rw [if_pos rfl], by unfold upd; rw [if_neg (by decide)], by unfold upd; rw [if_neg (by decide)], by unfold upd; rw [if_neg (by decide)], by unfold upd; rw [if_neg (by decide)], fun j hj => by unfold upd; rw [if_neg (by omega)]⟩
    rw [g3, g6]
    refine br_c (fun q => ?_) (fun q => ?_)
    · rw [zI_lt (by omega)] at q
      have hn2 : ¬ n ≤ tkS b n p := by omega
      refine ⟨zI_in (by omega), ?_⟩
      rw [zI_clN (by omega), (hB2 f4).g (by omega)]
      have hx := (hB (tkS b n p) (by omega)).2
      refine wI_isSmall hx ?_
      by_cases z : sml (b (tkS b n p)) = true
      · refine br_bt z ?_
        rintro _ rfl
        simp only [gs_gs, gs_eq]
        obtain ⟨a1, a2, a3, a4, a5, a6⟩ := u2 1
        have hk : tkK b n p = 1 := by
          unfold tkK
          rw [if_neg hn2, if_pos z]
        have he : tkE b n p = run (fun i => sml (b i)) n n (tkS b n p) := by
          unfold tkE
          rw [if_neg hn2, if_pos z]
        exact smls n (tkS b n p) _ (by omega) (by omega) (by rw [a2, g3]) (by rw [a4, g5]) (by rw [a5, g6]) (by rw [a1, hk]; rfl) hk (fun j hj => by rw [a6 j hj, go j hj]) he.symm
      · refine br_bf (by simpa using z) ?_
        rw [e0, g3]
        refine ⟨zI_in (by omega), ?_⟩
        rw [zI_clN (by omega), (hB2 f4).g (by omega)]
        refine wI_isFigure hx ?_
        by_cases y : fig (b (tkS b n p)) = true
        · refine br_bt y ?_
          rintro _ rfl
          simp only [gs_gs, gs_eq]
          obtain ⟨a1, a2, a3, a4, a5, a6⟩ := u2 2
          have hk : tkK b n p = 2 := by
            unfold tkK
            rw [if_neg hn2, if_neg z, if_pos y]
          have he : tkE b n p = run (fun i => fig (b i)) n n (tkS b n p) := by
            unfold tkE
            rw [if_neg hn2, if_neg z, if_pos y]
          exact figs n 0 _ (by omega) (by omega) (by rw [a2, g3]) (by rw [a4, g5]; rfl) (by rw [a5, g6]) (by rw [a1, hk]; rfl) (by rw [a3, g4]; rfl) (fun j hj => by rw [a6 j hj, go j hj]) he.symm
        · refine br_bf (by simpa using y) ?_
          rintro _ rfl _ rfl
          simp only [gs_gs, gs_eq]
          obtain ⟨a1, a2, a3, a4, a5, a6⟩ := u2 3
          have hk : tkK b n p = 3 := by
            unfold tkK
            rw [if_neg hn2, if_neg z, if_neg y]
          have he : tkE b n p = tkS b n p + 1 := by
            unfold tkE
            rw [if_neg hn2, if_neg z, if_neg y]
          rw [a4, g5, zl1, zI_add]
          generalize hf5 : upd f4 2 (3 : Int32) = f5 at a1 a2 a3 a4 a5 a6 ⊢
          refine hp _ ?_ ?_ ?_ (fun w => by omega) (fun j hj => ?_)
          · unfold upd
            rw [if_neg (by decide), a2, g3]
          · unfold upd
            rw [if_pos rfl, he]
            exact zI_cg (by omega)
          · unfold upd
            rw [if_neg (by decide), a1, hk]
            rfl
          · unfold upd
            rw [if_neg (by omega), a6 j hj, go j hj]
    · rw [zI_lt (by omega)] at q
      rintro _ rfl
      obtain ⟨a1, a2, a3, a4, a5, a6⟩ := u2 0
      have hn2 : n ≤ tkS b n p := by omega
      have hk : tkK b n p = 0 := by
        unfold tkK
        rw [if_pos hn2]
      have he : tkE b n p = tkS b n p := by
        unfold tkE
        rw [if_pos hn2]
      exact hp _ (by rw [a2, g3]) (by rw [a4, g5, he]) (by rw [a1, hk]; rfl) (fun w => by omega) (fun j hj => by rw [a6 j hj, go j hj])
  -- the blanks
  have blks : ∀ t q : Nat, ∀ f : Nat → Int32, n ≤ q + t → q ≤ n → f 3 = zI (q : Int) → f 6 = zI n → (∀ j, j < 2 ∨ 5 < j → f j = G 1 0 j) → run (fun i => blk (b i)) n n q = tkS b n p → lp_X6_advance_8 post (gs G 1 0 f) := by
    intro t
    induction t with
    | zero =>
      intro q f hq hq2 f3 f6 fo hr
      intro P K
      refine K _ ?_
      unfold lb_X6_advance_8
      rw [e0, f6, f3]
      refine br_t (by rw [zI_le (by omega)]; omega) ?_
      rw [run_e _ (by omega)] at hr
      exact j47 f (by rw [f3, hr]) f6 fo
    | succ t ih =>
      intro q f hq hq2 f3 f6 fo hr
      intro P K
      refine K _ ?_
      unfold lb_X6_advance_8
      rw [e0, f6, f3]
      by_cases w : q < n
      · refine br_f (by rw [zI_le (by omega)]; omega) ⟨zI_in (by omega), ?_⟩
        rw [zI_clN (by omega), (hB2 f).g (by omega)]
        have hx := (hB q (by omega)).2
        refine wI_isBlank hx ?_
        by_cases z : blk (b q) = true
        · refine br_bt z ?_
          rintro _ rfl
          simp only [gs_gs, gs_eq]
          refine ih (q + 1) _ (by omega) (by omega) ?_ ?_ (fun j hj => ?_) ?_ P K
          · unfold upd
            rw [if_pos rfl, f3, zl1, zI_add]
            exact zI_cg (by omega)
          · unfold upd
            rw [if_neg (by decide)]
            exact f6
          · unfold upd
            rw [if_neg (by omega)]
            exact fo j hj
          · rw [← hr]
            exact (run_s (fun i => blk (b i)) w z).symm
        · refine br_bf (by simpa using z) ?_
          rw [run_e (fun i => blk (b i)) (fun q => z q.2)] at hr
          exact j47 f (by rw [f3, hr]) f6 fo
      · refine br_t (by rw [zI_le (by omega)]; omega) ?_
        rw [run_e _ (by omega)] at hr
        exact j47 f (by rw [f3, hr]) f6 fo
  unfold wp_X6_advance
  rintro _ rfl
  rw [h5]
  refine blks n p _ (by omega) hpn ?_ ?_ (fun j hj => ?_) rfl
  · unfold upd
    rw [if_pos rfl]
  · unfold upd
    rw [if_neg (by decide)]
    exact h6
  · unfold upd
    rw [if_neg (by omega)]
end
