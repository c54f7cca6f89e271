/-! ===== advance ===== -/
theorem gs_u (G : GH) (o k : Nat) (f : Nat → Int32) (j : Nat) (v : Int32) : gs (gs G o k f) o k (upd (gs G o k f o k) j v) = gs G o k (upd f j v) := by
  rw [gs_gs, gs_eq]
theorem run_s (q : Nat → Bool) {n p : Nat} (hp : p < n) (hq : q p = true) : run q n n p = run q n n (p + 1) := by
  have h1 := run_mo q n n (n + 1) p (by omega) (by omega)
  rw [h1]
  show (if p < n ∧ q p = true then run q n n (p + 1) else p) = _
  rw [if_pos ⟨hp, hq⟩]
theorem run_e (q : Nat → Bool) {n p : Nat} (h : ¬ (p < n ∧ q p = true)) : run q n n p = p := by
  cases n with
  | zero => rfl
  | succ n =>
    show (if _ then _ else _) = _
    rw [if_neg h]
section
variable {G : GH} {b : Nat → Nat} {n p : Nat} {post : GH → Prop}
set_option maxHeartbeats 2000000 in
theorem wI_advance (hB : TB b (G 1 1)) (hn : n ≤ 700) (h5 : G 1 0 5 = zI p) (h6 : G 1 0 6 = zI n) (hpn : p ≤ n) (hp : ∀ f : Nat → Int32, f 3 = zI (tkS b n p) → f 5 = zI (tkE b n p) → f 2 = zI (tkK b n p) → (tkK b n p = 2 → f 4 = zI (vlN 100000 b (tkS b n p) (tkE b n p - tkS b n p))) → (∀ j, j < 2 ∨ 5 < j → f j = G 1 0 j) → post (gs G 1 0 f)) : wp_X6_advance post G := by
  have hB2 : ∀ f : Nat → Int32, TB b (gs G 1 0 f 1 1) := fun f => by rw [gs_ne (by decide)]; exact hB
  have e0 : ∀ f : Nat → Int32, gs G 1 0 f 1 0 = f := fun f => gs_eq _ _ _ _
  -- the figures
  have figs : ∀ t k : Nat, ∀ f : Nat → Int32, n ≤ tkS b n p + k + t → tkS b n p + k ≤ n → f 3 = zI (tkS b n p) → f 5 = zI ((tkS b n p + k : Nat) : Int) → f 6 = zI n → f 2 = zI (tkK b n p) → f 4 = zI (vlN 100000 b (tkS b n p) k) → (∀ j, j < 2 ∨ 5 < j → f j = G 1 0 j) → run (fun i => fig (b i)) n n (tkS b n p + k) = tkE b n p → lp_X6_advance_158 post (gs G 1 0 f) := by
    intro t
    induction t with
    | zero =>
      intro k f hk hk2 f3 f5 f6 f2 f4 fo hr
      intro P K
      refine K _ ?_
      unfold lb_X6_advance_158
      rw [e0, f6, f5]
      refine br_t (by rw [zI_le (by omega)]; omega) ?_
      rw [run_e _ (by omega)] at hr
      exact hp f f3 (by rw [f5, hr]) f2 (fun _ => by rw [f4, ← hr, Nat.add_sub_cancel_left]) fo
    | succ t ih =>
      intro k f hk hk2 f3 f5 f6 f2 f4 fo hr
      intro P K
      refine K _ ?_
      unfold lb_X6_advance_158
      rw [e0, f6, f5]
      by_cases w : tkS b n p + k < n
      · refine br_f (by rw [zI_le (by omega)]; omega) ⟨zI_in (by omega), ?_⟩
        rw [zI_clN (by omega), (hB2 f).g (by omega)]
        have hx := (hB (tkS b n p + k) (by omega)).2
        refine wI_isFigure hx ?_
        by_cases z : fig (b (tkS b n p + k)) = true
        · refine br_bt z ?_
          rw [e0, f5]
          refine ⟨zI_in (by omega), ?_⟩
          rintro _ rfl _ rfl
          have hz : 48 ≤ b (tkS b n p + k) ∧ b (tkS b n p + k) ≤ 57 := by
            unfold fig at z
            exact of_decide_eq_true z
          have hv := vlN_le 100000 b (tkS b n p) k
          have hsb : sb (b (tkS b n p + k)) = (b (tkS b n p + k) : Int) := by
            unfold sb
            rw [if_pos (by omega)]
          rw [zI_clN (by omega), (hB2 f).g (by omega), hsb, f4, zl10, zI_mul, zI_add, zl48, zI_sub, show (100000 : Int32) = zI 100000 from rfl, zI_min (by omega)]
          simp only [gs_gs, gs_eq]
          refine ih (k + 1) _ (by omega) (by omega) ?_ ?_ ?_ ?_ ?_ (fun j hj => ?_) ?_ P K
          · unfold upd
            rw [if_neg (by decide), if_neg (by decide)]
            exact f3
          · unfold upd
            rw [if_pos rfl, if_neg (by decide), f5, zl1, zI_add]
            exact zI_cg (by omega)
          · unfold upd
            rw [if_neg (by decide), if_neg (by decide)]
            exact f6
          · unfold upd
            rw [if_neg (by decide), if_neg (by decide)]
            exact f2
          · unfold upd
            rw [if_neg (by decide), if_pos rfl]
            show _ = zI ((min 100000 (10 * vlN 100000 b (tkS b n p) k + (b (tkS b n p + k) - 48)) : Nat) : Int)
            exact zI_cg (by omega)
          · unfold upd
            rw [if_neg (by omega), if_neg (by omega)]
            exact fo j hj
          · rw [← hr]
            exact (run_s (fun i => fig (b i)) w z).symm
        · refine br_bf (by simpa using z) ?_
          rw [run_e (fun i => fig (b i)) (fun q => z q.2)] at hr
          exact hp f f3 (by rw [f5, hr]) f2 (fun _ => by rw [f4, ← hr, Nat.add_sub_cancel_left]) fo
      · refine br_t (by rw [zI_le (by omega)]; omega) ?_
        rw [run_e _ (by omega)] at hr
        exact hp f f3 (by rw [f5, hr]) f2 (fun _ => by rw [f4, ← hr, Nat.add_sub_cancel_left]) fo
  sorry
end
