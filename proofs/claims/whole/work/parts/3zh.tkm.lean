/-! ===== the token at hand, in the reference ===== -/
def MB (b : Nat → Nat) (f : Nat → Int32) : Prop := ∀ j, j < 700 → f j = zI (b j) ∧ b j < 256
def bv (b : Nat → Nat) (n q : Nat) : Int := if q < n then (b q : Int) else -1
def MT (b : Nat → Nat) (n p : Nat) (A : Nat → Nat → Int32) : Prop := MB b (A 32) ∧ (n ≤ 700 ∧ p ≤ n) ∧ A 0 33 = zI n ∧ A 0 34 = zI (tkE b n p) ∧ A 0 35 = zI (tkK b n p) ∧ A 0 36 = zI (tkS b n p) ∧ A 0 37 = zI (tkE b n p)
section
variable {G : GH} {b : Nat → Nat} {n p : Nat}
theorem wM_byteAt {post : Int32 → GH → Prop} {q : Nat} (hB : MB b (G 24 32)) (h33 : G 24 0 33 = zI n) (hn : n ≤ 700) (hq : q ≤ 700) (hp : post (zI (bv b n q)) G) : wp_X8_byteAt post (zI q) G := by
  unfold wp_X8_byteAt
  unfold bv at hp
  rw [h33, zI_le (by omega)]
  refine br_c (fun w => ?_) (fun w => ⟨zI_in (by omega), ?_⟩)
  · rw [if_neg (by omega)] at hp
    exact hp
  · rw [if_pos (by omega)] at hp
    rw [zI_clN (by omega), (hB q (by omega)).1]
    exact hp
theorem bv_rg {q : Nat} (hB : MB b (G 24 32)) (hn : n ≤ 700) : -1 ≤ bv b n q ∧ bv b n q ≤ 255 ∧ (bv b n q = -1 ↔ n ≤ q) := by
  unfold bv
  split
  · rename_i w
    have := (hB q (by omega)).2
    omega
  · omega
theorem wM_isSmall {post : Bool → GH → Prop} {q : Nat} (hb : q < n → b q < 256) (hp : post (decide (q < n) && sml (b q)) G) : wp_X8_isSmall post (zI (bv b n q)) G := by
  unfold wp_X8_isSmall
  have hr : -1 ≤ bv b n q ∧ bv b n q ≤ 255 ∧ ((97 ≤ bv b n q ∧ bv b n q ≤ 122) ↔ (q < n ∧ 97 ≤ b q ∧ b q ≤ 122)) := by
    unfold bv
    split
    · rename_i w
      have := hb w
      omega
    · omega
  have e : (decide (q < n) && sml (b q)) = decide (q < n ∧ 97 ≤ b q ∧ b q ≤ 122) := by
    unfold sml
    simp only [Bool.decide_and]
  rw [e] at hp
  rw [zl97, zl122, zI_lt (by omega), zI_lt (by omega)]
  refine br_c (fun q => ?_) (fun q => br_c (fun q1 => ?_) (fun q1 => ?_))
  · rw [decide_eq_false (by omega)] at hp
    exact hp
  · rw [decide_eq_false (by omega)] at hp
    exact hp
  · rw [decide_eq_true (by omega)] at hp
    exact hp
theorem wM_isFigure {post : Bool → GH → Prop} {q : Nat} (hb : q < n → b q < 256) (hp : post (decide (q < n) && fig (b q)) G) : wp_X8_isFigure post (zI (bv b n q)) G := by
  unfold wp_X8_isFigure
  have hr : -1 ≤ bv b n q ∧ bv b n q ≤ 255 ∧ ((48 ≤ bv b n q ∧ bv b n q ≤ 57) ↔ (q < n ∧ 48 ≤ b q ∧ b q ≤ 57)) := by
    unfold bv
    split
    · rename_i w
      have := hb w
      omega
    · omega
  have e : (decide (q < n) && fig (b q)) = decide (q < n ∧ 48 ≤ b q ∧ b q ≤ 57) := by
    unfold fig
    simp only [Bool.decide_and]
  rw [e] at hp
  rw [zl48, zl57, zI_lt (by omega), zI_lt (by omega)]
  refine br_c (fun q => ?_) (fun q => br_c (fun q1 => ?_) (fun q1 => ?_))
  · rw [decide_eq_false (by omega)] at hp
    exact hp
  · rw [decide_eq_false (by omega)] at hp
    exact hp
  · rw [decide_eq_true (by omega)] at hp
    exact hp
set_option maxHeartbeats 2000000 in
theorem wM_step {post : GH → Prop} (hB : MB b (G 24 32)) (hn : n ≤ 700) (h33 : G 24 0 33 = zI n) (h34 : G 24 0 34 = zI p) (hpn : p ≤ n) (hp : ∀ f : Nat → Int32, f 34 = zI (tkE b n p) → f 35 = zI (tkK b n p) → f 36 = zI (tkS b n p) → f 37 = zI (tkE b n p) → (∀ j, j < 34 ∨ 37 < j → f j = G 24 0 j) → post (gs G 24 0 f)) : wp_X8_step post G := by
  have hB2 : ∀ f : Nat → Int32, MB b (gs G 24 0 f 24 32) := fun f => by rw [gs_ne (by decide)]; exact hB
  have e0 : ∀ f : Nat → Int32, gs G 24 0 f 24 0 = f := fun f => gs_eq _ _ _ _
  have e33 : ∀ f : Nat → Int32, (∀ j, j < 34 ∨ 37 < j → f j = G 24 0 j) → f 33 = zI n := fun f fo => by rw [fo 33 (by omega)]; exact h33
  have hs : tkS b n p ≤ n := run_le _ n n p hpn
  have hb6 : ∀ q, q < n → b q < 256 := fun q hq => (hB q (by omega)).2
  have j168 : ∀ f : Nat → Int32, f 34 = zI (tkE b n p) → f 35 = zI (tkK b n p) → f 36 = zI (tkS b n p) → (∀ j, j < 34 ∨ 37 < j → f j = G 24 0 j) → j_X8_step_168 post (gs G 24 0 f) := by
    intro f f34 f35 f36 fo
    unfold j_X8_step_168
    rintro _ rfl
    simp only [gs_gs, gs_eq]
    refine hp _ ?_ ?_ ?_ ?_ (fun j hj => ?_)
    · unfold upd
      rw [if_neg (by decide)]
      exact f34
    · unfold upd
      rw [if_neg (by decide)]
      exact f35
    · unfold upd
      rw [if_neg (by decide)]
      exact f36
    · unfold upd
      rw [if_pos rfl]
      exact f34
    · unfold upd
      rw [if_neg (by omega)]
      exact fo j hj
  have u35 : ∀ (f : Nat → Int32) (v : Int32), upd f 35 v 35 = v ∧ upd f 35 v 34 = f 34 ∧ upd f 35 v 36 = f 36 ∧ ∀ j, j < 34 ∨ 37 < j → upd f 35 v j = f j := fun f v => ⟨by unfold upd; rw [if_pos rfl], by unfold upd; rw [if_neg (by decide)], by unfold upd; rw [if_neg (by decide)], fun j hj => by unfold upd; rw [if_neg (by omega)]⟩
  have u34 : ∀ (f : Nat → Int32) (v : Int32), upd f 34 v 34 = v ∧ upd f 34 v 36 = f 36 ∧ ∀ j, j < 34 ∨ 37 < j → upd f 34 v j = f j := fun f v => ⟨by unfold upd; rw [if_pos rfl], by unfold upd; rw [if_neg (by decide)], fun j hj => by unfold upd; rw [if_neg (by omega)]⟩
  -- the figures
  have figs : ∀ t q : Nat, ∀ f : Nat → Int32, n ≤ q + t → q ≤ n → f 34 = zI (q : Int) → f 36 = zI (tkS b n p) → (∀ j, j < 34 ∨ 37 < j → f j = G 24 0 j) → tkK b n p = 2 → run (fun i => fig (b i)) n n q = tkE b n p → lp_X8_step_118 post (gs G 24 0 f) := by
    intro t
    induction t with
    | zero =>
      intro q f hq hq2 f34 f36 fo hk hr
      intro P K
      refine K _ ?_
      unfold lb_X8_step_118
      rw [e0, f34]
      refine wM_byteAt (hB2 f) (by rw [e0]; exact e33 f fo) hn (by omega) (wM_isFigure (hb6 q) ?_)
      refine br_bf (by rw [decide_eq_false (by omega)]; rfl) ?_
      rintro _ rfl
      simp only [gs_gs, gs_eq]
      rw [run_e _ (by omega)] at hr
      obtain ⟨a1, a2, a3, a4⟩ := u35 f 2
      exact j168 _ (by rw [a2, f34, hr]) (by rw [a1, hk]; rfl) (by rw [a3, f36]) (fun j hj => by rw [a4 j hj, fo j hj])
    | succ t ih =>
      intro q f hq hq2 f34 f36 fo hk hr
      intro P K
      refine K _ ?_
      unfold lb_X8_step_118
      rw [e0, f34]
      refine wM_byteAt (hB2 f) (by rw [e0]; exact e33 f fo) hn (by omega) (wM_isFigure (hb6 q) ?_)
      by_cases w : q < n ∧ fig (b q) = true
      · refine br_bt (by rw [decide_eq_true w.1, w.2]; rfl) ?_
        rintro _ rfl
        simp only [gs_gs, gs_eq]
        rw [f34, zl1, zI_add]
        obtain ⟨a1, a3, a4⟩ := u34 f (zI ((q : Int) + 1))
        exact ih (q + 1) _ (by omega) (by omega) (by rw [a1]; exact zI_cg (by omega)) (by rw [a3, f36]) (fun j hj => by rw [a4 j hj, fo j hj]) hk (by rw [← hr]; exact (run_s (fun i => fig (b i)) w.1 w.2).symm) P K
      · refine br_bf (by rw [← Bool.not_eq_true, Bool.and_eq_true, decide_eq_true_eq]; exact w) ?_
        rintro _ rfl
        simp only [gs_gs, gs_eq]
        rw [run_e (fun i => fig (b i)) w] at hr
        obtain ⟨a1, a2, a3, a4⟩ := u35 f 2
        exact j168 _ (by rw [a2, f34, hr]) (by rw [a1, hk]; rfl) (by rw [a3, f36]) (fun j hj => by rw [a4 j hj, fo j hj])
  -- the small letters
  have smls : ∀ t q : Nat, ∀ f : Nat → Int32, n ≤ q + t → q ≤ n → f 34 = zI (q : Int) → f 36 = zI (tkS b n p) → (∀ j, j < 34 ∨ 37 < j → f j = G 24 0 j) → tkK b n p = 1 → run (fun i => sml (b i)) n n q = tkE b n p → lp_X8_step_76 post (gs G 24 0 f) := by
    intro t
    induction t with
    | zero =>
      intro q f hq hq2 f34 f36 fo hk hr
      intro P K
      refine K _ ?_
      unfold lb_X8_step_76
      rw [e0, f34]
      refine wM_byteAt (hB2 f) (by rw [e0]; exact e33 f fo) hn (by omega) (wM_isSmall (hb6 q) ?_)
      refine br_bf (by rw [decide_eq_false (by omega)]; rfl) ?_
      rintro _ rfl
      simp only [gs_gs, gs_eq]
      rw [run_e _ (by omega)] at hr
      obtain ⟨a1, a2, a3, a4⟩ := u35 f 1
      exact j168 _ (by rw [a2, f34, hr]) (by rw [a1, hk]; rfl) (by rw [a3, f36]) (fun j hj => by rw [a4 j hj, fo j hj])
    | succ t ih =>
      intro q f hq hq2 f34 f36 fo hk hr
      intro P K
      refine K _ ?_
      unfold lb_X8_step_76
      rw [e0, f34]
      refine wM_byteAt (hB2 f) (by rw [e0]; exact e33 f fo) hn (by omega) (wM_isSmall (hb6 q) ?_)
      by_cases w : q < n ∧ sml (b q) = true
      · refine br_bt (by rw [decide_eq_true w.1, w.2]; rfl) ?_
        rintro _ rfl
        simp only [gs_gs, gs_eq]
        rw [f34, zl1, zI_add]
        obtain ⟨a1, a3, a4⟩ := u34 f (zI ((q : Int) + 1))
        exact ih (q + 1) _ (by omega) (by omega) (by rw [a1]; exact zI_cg (by omega)) (by rw [a3, f36]) (fun j hj => by rw [a4 j hj, fo j hj]) hk (by rw [← hr]; exact (run_s (fun i => sml (b i)) w.1 w.2).symm) P K
      · refine br_bf (by rw [← Bool.not_eq_true, Bool.and_eq_true, decide_eq_true_eq]; exact w) ?_
        rintro _ rfl
        simp only [gs_gs, gs_eq]
        rw [run_e (fun i => sml (b i)) w] at hr
        obtain ⟨a1, a2, a3, a4⟩ := u35 f 1
        exact j168 _ (by rw [a2, f34, hr]) (by rw [a1, hk]; rfl) (by rw [a3, f36]) (fun j hj => by rw [a4 j hj, fo j hj])
  -- the token's kind, and the blanks ahead of it
  have blks : ∀ t q : Nat, ∀ f : Nat → Int32, n ≤ q + t → q ≤ n → f 34 = zI (q : Int) → (∀ j, j < 34 ∨ 37 < j → f j = G 24 0 j) → run (fun i => blk (b i)) n n q = tkS b n p → lp_X8_step_0 post (gs G 24 0 f) := by
    intro t
    induction t with
    | zero =>
      intro q f hq hq2 f34 fo hr
      intro P K
      refine K _ ?_
      unfold lb_X8_step_0
      rw [e0, f34]
      have hv := bv_rg (q := q) hB hn
      have hvn : bv b n q = -1 := hv.2.2.mpr (by omega)
      refine wM_byteAt (hB2 f) (by rw [e0]; exact e33 f fo) hn (by omega) ?_
      refine br_f (by rw [zl32, zI_eq (by omega)]; omega) ?_
      rw [e0, f34]
      refine wM_byteAt (hB2 f) (by rw [e0]; exact e33 f fo) hn (by omega) ?_
      refine br_f (by rw [zl10, zI_eq (by omega)]; omega) ?_
      rintro _ rfl
      simp only [gs_gs, gs_eq]
      rw [run_e _ (by omega)] at hr
      have g34 : upd f 36 (f 34) 34 = zI (q : Int) := by
        unfold upd
        rw [if_neg (by decide)]
        exact f34
      have g36 : upd f 36 (f 34) 36 = zI (tkS b n p) := by
        unfold upd
        rw [if_pos rfl, f34, hr]
      have go : ∀ j, j < 34 ∨ 37 < j → upd f 36 (f 34) j = G 24 0 j := fun j hj => by
        unfold upd
        rw [if_neg (by omega)]
        exact fo j hj
      generalize upd f 36 (f 34) = f4 at g34 g36 go ⊢
      rw [g34]
      refine wM_byteAt (hB2 f4) (by rw [e0]; exact e33 f4 go) hn (by omega) ?_
      refine br_t (by rw [hvn]; rfl) ?_
      rintro _ rfl
      simp only [gs_gs, gs_eq]
      obtain ⟨a1, a2, a3, a4⟩ := u35 f4 0
      have hn2 : n ≤ tkS b n p := by omega
      have hk : tkK b n p = 0 := by
        unfold tkK
        rw [if_pos hn2]
      have he : tkE b n p = tkS b n p := by
        unfold tkE
        rw [if_pos hn2]
      exact j168 _ (by rw [a2, g34, he, hr]) (by rw [a1, hk]; rfl) (by rw [a3, g36]) (fun j hj => by rw [a4 j hj, go j hj])
    | succ t ih =>
      intro q f hq hq2 f34 fo hr
      intro P K
      refine K _ ?_
      unfold lb_X8_step_0
      rw [e0, f34]
      have hv := bv_rg (q := q) hB hn
      have nxt : q < n ∧ blk (b q) = true → j_X8_step_26 post P (gs G 24 0 f) := by
        intro w
        unfold j_X8_step_26
        rintro _ rfl
        simp only [gs_gs, gs_eq]
        rw [f34, zl1, zI_add]
        obtain ⟨a1, a3, a4⟩ := u34 f (zI ((q : Int) + 1))
        exact ih (q + 1) _ (by omega) (by omega) (by rw [a1]; exact zI_cg (by omega)) (fun j hj => by rw [a4 j hj, fo j hj]) (by rw [← hr]; exact (run_s (fun i => blk (b i)) w.1 w.2).symm) P K
      have hbl : (bv b n q = 32 ∨ bv b n q = 10) ↔ (q < n ∧ blk (b q) = true) := by
        unfold bv blk
        rw [decide_eq_true_eq]
        split <;> omega
      refine wM_byteAt (hB2 f) (by rw [e0]; exact e33 f fo) hn (by omega) ?_
      rw [zl32, zI_eq (by omega)]
      refine br_c (fun w => nxt (hbl.mp (Or.inl w))) (fun w => ?_)
      rw [e0, f34]
      refine wM_byteAt (hB2 f) (by rw [e0]; exact e33 f fo) hn (by omega) ?_
      rw [zl10, zI_eq (by omega)]
      refine br_c (fun w2 => nxt (hbl.mp (Or.inr w2))) (fun w2 => ?_)
      have hnb : ¬ (q < n ∧ blk (b q) = true) := fun z => by
        have := hbl.mpr z
        omega
      rintro _ rfl
      simp only [gs_gs, gs_eq]
      rw [run_e (fun i => blk (b i)) hnb] at hr
      have g34 : upd f 36 (f 34) 34 = zI (q : Int) := by
        unfold upd
        rw [if_neg (by decide)]
        exact f34
      have g36 : upd f 36 (f 34) 36 = zI (tkS b n p) := by
        unfold upd
        rw [if_pos rfl, f34, hr]
      have go : ∀ j, j < 34 ∨ 37 < j → upd f 36 (f 34) j = G 24 0 j := fun j hj => by
        unfold upd
        rw [if_neg (by omega)]
        exact fo j hj
      generalize upd f 36 (f 34) = f4 at g34 g36 go ⊢
      rw [g34]
      refine wM_byteAt (hB2 f4) (by rw [e0]; exact e33 f4 go) hn (by omega) ?_
      rw [show (-1 : Int32) = zI (-1) from rfl, zI_eq (by omega)]
      refine br_c (fun z => ?_) (fun z => ?_)
      · rintro _ rfl
        simp only [gs_gs, gs_eq]
        obtain ⟨a1, a2, a3, a4⟩ := u35 f4 0
        have hn2 : n ≤ tkS b n p := by
          have := hv.2.2.mp z
          omega
        have hk : tkK b n p = 0 := by
          unfold tkK
          rw [if_pos hn2]
        have he : tkE b n p = tkS b n p := by
          unfold tkE
          rw [if_pos hn2]
        exact j168 _ (by rw [a2, g34, he, hr]) (by rw [a1, hk]; rfl) (by rw [a3, g36]) (fun j hj => by rw [a4 j hj, go j hj])
      · have hqn : q < n := by
          have := hv.2.2
          omega
        have hn2 : ¬ n ≤ tkS b n p := by omega
        refine wM_isSmall (hb6 q) ?_
        by_cases y : sml (b q) = true
        · refine br_bt (by rw [decide_eq_true hqn, y]; rfl) ?_
          have y2 : sml (b (tkS b n p)) = true := by rw [← hr]; exact y
          have hk : tkK b n p = 1 := by
            unfold tkK
            rw [if_neg hn2, if_pos y2]
          have he : tkE b n p = run (fun i => sml (b i)) n n (tkS b n p) := by
            unfold tkE
            rw [if_neg hn2, if_pos y2]
          exact smls n q _ (by omega) (by omega) g34 g36 go hk (by rw [he, hr])
        · refine br_bf (by rw [decide_eq_true hqn]; simpa using y) ?_
          have y2 : ¬ sml (b (tkS b n p)) = true := by rw [← hr]; exact y
          refine wM_isFigure (hb6 q) ?_
          by_cases x : fig (b q) = true
          · refine br_bt (by rw [decide_eq_true hqn, x]; rfl) ?_
            have x2 : fig (b (tkS b n p)) = true := by rw [← hr]; exact x
            have hk : tkK b n p = 2 := by
              unfold tkK
              rw [if_neg hn2, if_neg y2, if_pos x2]
            have he : tkE b n p = run (fun i => fig (b i)) n n (tkS b n p) := by
              unfold tkE
              rw [if_neg hn2, if_neg y2, if_pos x2]
            exact figs n q _ (by omega) (by omega) g34 g36 go hk (by rw [he, hr])
          · refine br_bf (by rw [decide_eq_true hqn]; simpa using x) ?_
            have x2 : ¬ fig (b (tkS b n p)) = true := by rw [← hr]; exact x
            rintro _ rfl _ rfl
            simp only [gs_gs, gs_eq]
            rw [g34, zl1, zI_add]
            have hk : tkK b n p = 3 := by
              unfold tkK
              rw [if_neg hn2, if_neg y2, if_neg x2]
            have he : tkE b n p = tkS b n p + 1 := by
              unfold tkE
              rw [if_neg hn2, if_neg y2, if_neg x2]
            obtain ⟨c1, c3, c4⟩ := u34 f4 (zI ((q : Int) + 1))
            obtain ⟨a1, a2, a3, a4⟩ := u35 (upd f4 34 (zI ((q : Int) + 1))) 3
            exact j168 _ (by rw [a2, c1, he, ← hr]; exact zI_cg (by omega)) (by rw [a1, hk]; rfl) (by rw [a3, c3, g36]) (fun j hj => by rw [a4 j hj, c4 j hj, go j hj])
  unfold wp_X8_step
  have := blks n p (G 24 0) (by omega) hpn h34 (fun _ _ => rfl) rfl
  rw [show gs G 24 0 (G 24 0) = G from ?_] at this
  · exact this
  · funext x c
    unfold gs
    split
    · rename_i z
      rw [z.1, z.2]
    · rfl
end
