/-! ===== the token at hand, in the class ===== -/
def tkV (b : Nat → Nat) (n p : Nat) : Nat := vlN 100000 b (tkS b n p) (tkE b n p - tkS b n p)
theorem run_gt (q : Nat → Bool) {n p : Nat} (hp : p < n) (hq : q p = true) : p < run q n n p := by
  rw [run_s q hp hq]
  exact run_ge q n n (p + 1)
theorem tk_rg {b : Nat → Nat} {n p : Nat} (hp : p ≤ n) : p ≤ tkS b n p ∧ tkS b n p ≤ tkE b n p ∧ tkE b n p ≤ n ∧ (tkK b n p ≠ 0 → tkS b n p < tkE b n p ∧ tkS b n p < n) ∧ tkK b n p ≤ 3 ∧ (tkK b n p = 0 ↔ n ≤ tkS b n p) := by
  have h1 : p ≤ tkS b n p := run_ge _ n n p
  have h2 : tkS b n p ≤ n := run_le _ n n p hp
  unfold tkK tkE
  by_cases w : n ≤ tkS b n p
  · rw [if_pos w, if_pos w]
    exact ⟨h1, Nat.le_refl _, h2, fun z => absurd rfl z, by omega, fun _ => w, fun _ => rfl⟩
  · rw [if_neg w, if_neg w]
    have h3 : tkS b n p < n := by omega
    by_cases z : sml (b (tkS b n p)) = true
    · rw [if_pos z, if_pos z]
      have h4 := run_gt (fun i => sml (b i)) h3 z
      have h5 := run_le (fun i => sml (b i)) n n (tkS b n p) h2
      exact ⟨h1, by omega, h5, fun _ => ⟨h4, h3⟩, by omega, fun y => by omega, fun y => by omega⟩
    · rw [if_neg z, if_neg z]
      by_cases y : fig (b (tkS b n p)) = true
      · rw [if_pos y, if_pos y]
        have h4 := run_gt (fun i => fig (b i)) h3 y
        have h5 := run_le (fun i => fig (b i)) n n (tkS b n p) h2
        exact ⟨h1, by omega, h5, fun _ => ⟨h4, h3⟩, by omega, fun y => by omega, fun y => by omega⟩
      · rw [if_neg y, if_neg y]
        exact ⟨h1, by omega, by omega, fun _ => ⟨by omega, h3⟩, by omega, fun y => by omega, fun y => by omega⟩
/-- the tape holds b, a text of n bytes is read, the token from p on is at hand -/
def CT (b : Nat → Nat) (n p : Nat) (A : Nat → Nat → Int32) : Prop := TB b (A 1) ∧ (n ≤ 700 ∧ p ≤ n) ∧ A 0 2 = zI (tkK b n p) ∧ A 0 3 = zI (tkS b n p) ∧ A 0 5 = zI (tkE b n p) ∧ A 0 6 = zI n ∧ (tkK b n p = 2 → A 0 4 = zI (tkV b n p))
def sgB (b : Nat → Nat) (n p c : Nat) : Bool := decide (tkK b n p = 3 ∧ b (tkS b n p) = c)
def wdB (b : Nat → Nat) (n p w : Nat) : Bool := decide (tkK b n p = 1 ∧ tkE b n p - tkS b n p = sxL w ∧ ∀ k, k < sxL w → b (tkS b n p + k) = sxC w k)
theorem wdB_eq {b : Nat → Nat} {n p w w' : Nat} (h : sxB.getD w [] = sxB.getD w' []) : wdB b n p w = wdB b n p w' := by
  unfold wdB sxL sxC
  rw [h]
def WA (x c j : Nat) : Prop := x = 1 ∧ c = 0 ∧ 2 ≤ j ∧ j ≤ 5
theorem sb_eq {x c : Nat} (hx : x < 256) (hc : c < 128) : (sb x = (c : Int)) ↔ x = c := by
  unfold sb
  split <;> omega
theorem sb_rg {x : Nat} (hx : x < 256) : -128 ≤ sb x ∧ sb x ≤ 127 := by
  unfold sb
  split <;> omega
section
variable {G : GH} {b : Nat → Nat} {n p : Nat}
theorem wI_adv {post : GH → Prop} (hT : CT b n p (G 1)) (hp : ∀ G', Ag WA G G' → CT b n (tkE b n p) (G' 1) → post G') : wp_X6_advance post G := by
  obtain ⟨hB, ⟨hn, hpn⟩, h2, h3, h5, h6, h4⟩ := hT
  have hr := tk_rg (b := b) hpn
  refine wI_advance hB hn h5 h6 hr.2.2.1 (fun f f3 f5 f2 f4 fo => ?_)
  refine hp _ (fun x c j hw => ?_) ⟨?_, ⟨hn, hr.2.2.1⟩, ?_, ?_, ?_, ?_, ?_⟩
  · unfold gs
    split
    · rename_i z
      obtain ⟨rfl, rfl⟩ := z
      refine fo j ?_
      by_cases w : j < 2 ∨ 5 < j
      · exact w
      · exact absurd ⟨rfl, rfl, by omega, by omega⟩ hw
    · rfl
  · rw [gs_ne (by decide)]
    exact hB
  · rw [gs_eq]
    exact f2
  · rw [gs_eq]
    exact f3
  · rw [gs_eq]
    exact f5
  · rw [gs_eq, fo 6 (by omega)]
    exact h6
  · rw [gs_eq]
    exact f4
def WX (x c j : Nat) : Prop := x = 1 ∧ c = 0 ∧ 1 ≤ j ∧ j ≤ 6
theorem wI_takeText {post : GH → Prop} (hB : TB b (G 1 1)) (hn : n ≤ 700) (hp : ∀ G', Ag WX G G' → G' 1 0 1 = zI 0 → CT b n 0 (G' 1) → post G') : wp_X6_takeText post (zI n) G := by
  unfold wp_X6_takeText
  rintro _ rfl _ rfl _ rfl
  simp only [gs_gs, gs_eq]
  generalize hf : upd (upd (upd (G 1 0) 1 (0 : Int32)) 6 (zI (n : Int))) 5 (0 : Int32) = f
  have g5 : f 5 = zI ((0 : Nat) : Int) := by
    rw [← hf]
    unfold upd
    rw [if_pos rfl]
    rfl
  have g6 : f 6 = zI n := by
    rw [← hf]
    unfold upd
    rw [if_neg (by decide), if_pos rfl]
  have g1 : f 1 = zI 0 := by
    rw [← hf]
    unfold upd
    rw [if_neg (by decide), if_neg (by decide), if_pos rfl]
    rfl
  have go : ∀ j, ¬ (1 ≤ j ∧ j ≤ 6) → f j = G 1 0 j := by
    intro j hj
    rw [← hf]
    unfold upd
    rw [if_neg (by omega), if_neg (by omega), if_neg (by omega)]
  have ag0 : Ag WX G (gs G 1 0 f) := by
    intro x c j hw
    unfold gs
    split
    · rename_i z
      obtain ⟨rfl, rfl⟩ := z
      exact go j (fun z => hw ⟨rfl, rfl, z.1, z.2⟩)
    · rfl
  have hr := tk_rg (b := b) (Nat.zero_le n)
  refine wI_advance (b := b) (n := n) (p := 0) (by rw [gs_ne (by decide)]; exact hB) hn (by rw [gs_eq]; exact g5) (by rw [gs_eq]; exact g6) (Nat.zero_le n) (fun f' f3 f5 f2 f4 fo => ?_)
  rw [gs_gs]
  rw [gs_eq] at fo
  refine hp _ (fun x c j hw => ?_) ?_ ⟨?_, ⟨hn, Nat.zero_le n⟩, ?_, ?_, ?_, ?_, ?_⟩
  · unfold gs
    split
    · rename_i z
      obtain ⟨rfl, rfl⟩ := z
      have hj : ¬ (1 ≤ j ∧ j ≤ 6) := fun z => hw ⟨rfl, rfl, z.1, z.2⟩
      rw [fo j (by omega), go j hj]
    · rfl
  · rw [gs_eq, fo 1 (by omega)]
    exact g1
  · rw [gs_ne (by decide)]
    exact hB
  · rw [gs_eq]
    exact f2
  · rw [gs_eq]
    exact f3
  · rw [gs_eq]
    exact f5
  · rw [gs_eq, fo 6 (by omega)]
    exact g6
  · rw [gs_eq]
    exact f4
theorem wI_isSign {post : Bool → GH → Prop} {x : Int32} (c : Nat) (hT : CT b n p (G 1)) (hx : x = zI c) (hc : c < 128) (hp : post (sgB b n p c) G) : wp_X6_isSign post x G := by
  subst hx
  obtain ⟨hB, ⟨hn, hpn⟩, h2, h3, h5, h6, h4⟩ := hT
  have hr := tk_rg (b := b) hpn
  unfold wp_X6_isSign
  unfold sgB at hp
  rw [h2, h3, zl3, zI_eq (by omega)]
  refine br_c (fun q => ?_) (fun q => ?_)
  · have q : tkK b n p = 3 := by omega
    have hs := (hr.2.2.2.1 (by omega)).2
    refine ⟨zI_in (by omega), ?_⟩
    have hx := (hB (tkS b n p) (by omega)).2
    have hsr := sb_rg hx
    rw [zI_clN (by omega), hB.g (by omega), zI_eq (by omega), sb_eq hx hc]
    refine br_c (fun z => ?_) (fun z => ?_)
    · rw [decide_eq_true ⟨q, z⟩] at hp
      exact hp
    · rw [decide_eq_false (fun y => z y.2)] at hp
      exact hp
  · rw [decide_eq_false (fun y => q (by omega))] at hp
    exact hp
theorem wI_isWord {post : Bool → GH → Prop} {w : Nat} (hT : CT b n p (G 1)) (hw : w < nsx) (hp : post (wdB b n p w) G) : wp_X6_isWord post w G := by
  obtain ⟨hB, ⟨hn, hpn⟩, h2, h3, h5, h6, h4⟩ := hT
  have hr := tk_rg (b := b) hpn
  have hl := sxL_lt w hw
  unfold wp_X6_isWord
  unfold wdB at hp
  rw [h2, h3, h5, zl1, zI_eq (by omega), zI_sub, zI_nI, zI_eq (by omega)]
  refine br_c (fun q => ?_) (fun q => ?_)
  · have q : tkK b n p = 1 := by omega
    have hs := hr.2.2.2.1 (by omega)
    refine br_c (fun z => ?_) (fun z => ?_)
    · have z : tkE b n p - tkS b n p = sxL w := by omega
      intro P K
      have main : ∀ f k : Nat, k + f = sxL w → (∀ i, i < k → b (tkS b n p + i) = sxC w i) → P (zI k) G := by
        intro f
        induction f with
        | zero =>
          intro k hk hi
          refine K _ _ ?_
          unfold lb_X6_isWord_28
          rw [zI_nI]
          refine br_t (by rw [zI_le (by omega)]; omega) ?_
          rw [decide_eq_true ⟨q, z, fun i hi2 => hi i (by omega)⟩] at hp
          exact hp
        | succ f ih =>
          intro k hk hi
          have hc := sxC_lt w hw k (by omega)
          refine K _ _ ?_
          unfold lb_X6_isWord_28
          rw [zI_nI]
          refine br_f (by rw [zI_le (by omega)]; omega) ?_
          rw [h3, zI_add]
          refine ⟨zI_in (by omega), zI_in (by omega), ?_⟩
          have hx := (hB (tkS b n p + k) (by omega)).2
          have hsr := sb_rg hx
          rw [show ((tkS b n p : Int) + (k : Int)) = ((tkS b n p + k : Nat) : Int) by omega, zI_clN (n := tkS b n p + k) (by omega), zI_clN (n := k) (by omega), hB.g (by omega), zI_nI, zI_eq (by omega), sb_eq hx hc]
          refine br_c (fun y => ?_) (fun y => ?_)
          · rw [zl1, zI_add]
            refine ih (k + 1) (by omega) (fun i hi2 => ?_)
            by_cases u : i = k
            · subst u
              exact y
            · exact hi i (by omega)
          · rw [decide_eq_false (fun v => y (v.2.2 k (by omega)))] at hp
            exact hp
      exact main (sxL w) 0 (by omega) (fun i hi => by omega)
    · rw [decide_eq_false (fun y => z (by omega))] at hp
      exact hp
  · rw [decide_eq_false (fun y => q (by omega))] at hp
    exact hp
def nmB (b : Nat → Nat) (n : Nat) : Bool := decide (1 ≤ n ∧ n ≤ 10 ∧ ∀ k, k < n → sml (b k) = true)
theorem wI_takeName {post : Bool → GH → Prop} (hB : TB b (G 1 1)) (hn : n ≤ 700) (hp : ∀ G', Ag (fun x c j => x = 1 ∧ c = 0 ∧ j = 1) G G' → G' 1 0 1 = zI 0 → post (nmB b n) G') : wp_X6_takeName post (zI n) G := by
  unfold wp_X6_takeName
  rintro _ rfl
  have hp := hp _ ((Ag.rf G).up (v := 0) (o := 1) (k := 0) (p := 1) ⟨rfl, rfl, rfl⟩) (by rw [gs_eq]; unfold upd; rw [if_pos rfl]; rfl)
  have hB2 : TB b (gs G 1 0 (upd (G 1 0) 1 (0 : Int32)) 1 1) := by
    rw [gs_ne (by decide)]
    exact hB
  generalize gs G 1 0 (upd (G 1 0) 1 (0 : Int32)) = G1 at hp hB2 ⊢
  unfold nmB at hp
  rw [zl1, zl10, zI_lt (by omega), zI_le (by omega)]
  refine br_c (fun q => ?_) (fun q => ?_)
  · rw [decide_eq_false (by omega)] at hp
    exact hp
  · refine br_c (fun z => ?_) (fun z => ?_)
    · intro P K
      have main : ∀ f k : Nat, k + f = n → (∀ i, i < k → sml (b i) = true) → P (zI n) (zI k) G1 := by
        intro f
        induction f with
        | zero =>
          intro k hk hi
          refine K _ _ _ ?_
          unfold lb_X6_takeName_20
          refine br_t (by rw [zI_le (by omega)]; omega) ?_
          rw [decide_eq_true ⟨by omega, by omega, fun i hi2 => hi i (by omega)⟩] at hp
          exact hp
        | succ f ih =>
          intro k hk hi
          refine K _ _ _ ?_
          unfold lb_X6_takeName_20
          refine br_f (by rw [zI_le (by omega)]; omega) ⟨zI_in (by omega), ?_⟩
          rw [zI_clN (by omega), hB2.g (by omega)]
          refine wI_isSmall (hB2 k (by omega)).2 ?_
          by_cases y : sml (b k) = true
          · refine br_bt y ?_
            rw [zl1, zI_add]
            refine ih (k + 1) (by omega) (fun i hi2 => ?_)
            by_cases u : i = k
            · subst u
              exact y
            · exact hi i (by omega)
          · refine br_bf (by simpa using y) ?_
            rw [decide_eq_false (fun v => y (v.2.2 k (by omega)))] at hp
            exact hp
      exact main n 0 (by omega) (fun i hi => by omega)
    · rw [decide_eq_false (by omega)] at hp
      exact hp
end
