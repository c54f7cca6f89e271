/-! ===== since when a mark is used in a half ===== -/
def lvB (R : RR) (m h d : Nat) : Bool := (List.range (qq R m 13)).any fun k => decide (qq R m (14 + 3 * k) = h ∧ qq R m (15 + 3 * k) ≤ d ∧ d ≤ qq R m (16 + 3 * k) + R 6)
theorem lvB_iff {R : RR} {m h d : Nat} : lvB R m h d = true ↔ ∃ k, k < qq R m 13 ∧ qq R m (14 + 3 * k) = h ∧ qq R m (15 + 3 * k) ≤ d ∧ d ≤ qq R m (16 + 3 * k) + R 6 := by
  simp only [lvB, List.any_eq_true, List.mem_range, decide_eq_true_eq]
def snc (R : RR) (m h : Nat) : Nat → Int
  | 0 => if lvB R m h 0 then 0 else -1
  | d + 1 => if lvB R m h (d + 1) then (if lvB R m h d then snc R m h d else ((d + 1 : Nat) : Int)) else -1
theorem snc_no {R : RR} {m h d : Nat} (hl : lvB R m h d = false) : snc R m h d = -1 := by
  cases d <;> simp [snc, hl]
theorem snc_eq {R : RR} {m h c : Nat} (h1 : c = 0 ∨ lvB R m h (c - 1) = false) : ∀ d, c ≤ d → (∀ e, c ≤ e → e ≤ d → lvB R m h e = true) → snc R m h d = c
  | 0, hc, ha => by
    have : c = 0 := by omega
    subst this
    simp [snc, ha 0 (by omega) (by omega)]
  | d + 1, hc, ha => by
    have e1 := ha (d + 1) hc (Nat.le_refl _)
    by_cases q : c = d + 1
    · subst q
      rcases h1 with h1 | h1
      · omega
      · simp only [Nat.add_sub_cancel] at h1
        simp [snc, e1, h1]
    · have e2 := ha d (by omega) (by omega)
      have := snc_eq h1 d (by omega) (fun e a b => ha e a (by omega))
      simp [snc, e1, e2, this]
theorem snc_rg (R : RR) (m h : Nat) : ∀ d, -1 ≤ snc R m h d ∧ snc R m h d ≤ d
  | 0 => by
    unfold snc
    split <;> omega
  | d + 1 => by
    have := snc_rg R m h d
    unfold snc
    split
    · split <;> omega
    · omega
/-- how many of the first n begin ahead of c -/
def cnb (f : Nat → Nat) (c : Nat) : Nat → Nat
  | 0 => 0
  | n + 1 => cnb f c n + if f n < c then 1 else 0
theorem cnb_le (f : Nat → Nat) (c : Nat) : ∀ n, cnb f c n ≤ n
  | 0 => Nat.le_refl _
  | n + 1 => by
    have := cnb_le f c n
    unfold cnb
    split <;> omega
theorem cnb_mono {f : Nat → Nat} {c c' : Nat} (h : c' ≤ c) : ∀ n, cnb f c' n ≤ cnb f c n
  | 0 => Nat.le_refl _
  | n + 1 => by
    have := cnb_mono (f := f) h n
    unfold cnb
    split <;> split <;> omega
theorem cnb_lt {f : Nat → Nat} {c c' : Nat} (h : c' < c) : ∀ n k, k < n → f k = c' → cnb f c' n < cnb f c n
  | 0, k, hk, _ => by omega
  | n + 1, k, hk, e => by
    unfold cnb
    by_cases q : k = n
    · subst q
      have := cnb_mono (f := f) (Nat.le_of_lt h) k
      rw [if_neg (by omega), if_pos (by omega)]
      omega
    · have := cnb_lt h n k (by omega) e
      split <;> split <;> omega
section
variable {R : RR} {G : GH} {n o m h day : Nat} {post : Int32 → GH → Prop}
set_option maxHeartbeats 1000000 in
theorem wI_sinceOf (hV : VR n R) (hn : n ≤ 13) (hC : CR R (G o)) (hm : m < R 1) (hh : h < 12) (hd : day ≤ 9999) (hp : post (zI (snc R m h day)) G) : wp_X4_sinceOf post o (zI m) (zI h) (zI day) G := by
  have hm13 : m < 13 := Nat.lt_of_lt_of_le hm (Nat.le_trans hV.mk hn)
  have hu := hV.uc hm
  have hr := hV.r4
  have gu := hC.uc hm
  have gr : G o 11 4 = zI (R 6) := hC.rl (w := 4) (by decide)
  have cm : (zI (m : Int)).toNatClampNeg = m := zI_clN (by omega)
  unfold wp_X4_sinceOf
  rintro _ rfl
  rw [zl1, zI_add]
  intro P8 K8
  have main : ∀ f c t : Nat, t + f = 13 → c ≤ day + 1 → (∀ e, c ≤ e → e ≤ day → lvB R m h e = true) → cnb (fun k => qq R m (15 + 3 * k)) c (qq R m 13) + t ≤ 12 → P8 (zI m) (zI h) (zI day) (zI c) (zI t) G := by
    intro f
    induction f with
    | zero => intro c t ht _ _ hc; omega
    | succ f ih =>
      intro c t ht hc hl hcn
      refine K8 _ _ _ _ _ _ ?_
      unfold lb_X4_sinceOf_8
      refine br_f (by rw [zI_lit, zI_lt (by omega)]; omega) ?_
      intro P22 K22
      have inner : ∀ g k c' : Nat, k + g = qq R m 13 → c' ≤ c → (∀ e, c' ≤ e → e ≤ day → lvB R m h e = true) → (c' = c → ∀ k', k' < k → ¬ (qq R m (14 + 3 * k') = h ∧ qq R m (15 + 3 * k') < c ∧ c ≤ qq R m (16 + 3 * k') + R 6 + 1)) → (c' < c → ∃ k', k' < qq R m 13 ∧ qq R m (15 + 3 * k') = c') → P22 (zI m) (zI h) (zI day) (zI c') (zI t) (zI c) (zI k) G := by
        intro g
        induction g with
        | zero =>
          intro k c' hk hc' hl' h1 h2
          refine K22 _ _ _ _ _ _ _ _ ?_
          unfold lb_X4_sinceOf_22
          refine ⟨zI_in (by omega), ?_⟩
          rw [cm, gu]
          refine br_t (by rw [zI_le (by omega)]; omega) ?_
          by_cases q : c' = c
          · subst q
            refine br_t rfl ?_
            have nx : c' = 0 ∨ lvB R m h (c' - 1) = false := by
              by_cases z : c' = 0
              · exact Or.inl z
              · right
                rw [Bool.eq_false_iff]
                intro hv
                obtain ⟨k', a1, a2, a3, a4⟩ := lvB_iff.mp hv
                exact h1 rfl k' (by omega) ⟨a2, by omega, by omega⟩
            unfold j_X4_sinceOf_120
            by_cases q2 : c' ≤ day
            · refine br_t (by rw [zI_le (by omega)]; omega) ?_
              rw [← snc_eq nx day q2 hl']
              exact hp
            · refine br_f (by rw [zI_le (by omega)]; omega) ?_
              have e : c' = day + 1 := by omega
              have : lvB R m h day = false := by
                rcases nx with z | z
                · omega
                · rw [e] at z; exact z
              rw [snc_no this] at hp
              exact hp
          · refine br_f (by rw [zI_eq (by omega)]; omega) ?_
            rw [zl1, zI_add]
            obtain ⟨k', a1, a2⟩ := h2 (by omega)
            have := cnb_lt (f := fun k => qq R m (15 + 3 * k)) (show c' < c by omega) (qq R m 13) k' a1 a2
            exact ih c' (t + 1) (by omega) (by omega) hl' (by omega)
        | succ g ih2 =>
          intro k c' hk hc' hl' h1 h2
          have hk2 : k < qq R m 13 := by omega
          have b1 := hV.us1 hm hk2
          have b2 := hV.us2 hm hk2
          have b0 := hV.us0 hm hk2
          have g0 : G o 8 (36 * m + 3 * k) = zI (qq R m (14 + 3 * k)) := hC.us hm hk2 (j := 0) (by decide)
          have g1 : G o 8 (36 * m + 3 * k + 1) = zI (qq R m (15 + 3 * k)) := by rw [hC.us hm hk2 (j := 1) (by decide), show 14 + 3 * k + 1 = 15 + 3 * k by omega]
          have g2 : G o 8 (36 * m + 3 * k + 2) = zI (qq R m (16 + 3 * k)) := by rw [hC.us hm hk2 (j := 2) (by decide), show 14 + 3 * k + 2 = 16 + 3 * k by omega]
          refine K22 _ _ _ _ _ _ _ _ ?_
          unfold lb_X4_sinceOf_22
          refine ⟨zI_in (by omega), ?_⟩
          rw [cm, gu]
          refine br_f (by rw [zI_le (by omega)]; omega) ?_
          rw [wI_useAt]
          have e1 : (zI ((36 * m + 3 * k : Nat) : Int) + (1 : Int32)).toNatClampNeg = 36 * m + 3 * k + 1 := by
            rw [zI_lit, zI_add, zI_cl (by omega)]; omega
          have e2 : (zI ((36 * m + 3 * k : Nat) : Int) + (2 : Int32)).toNatClampNeg = 36 * m + 3 * k + 2 := by
            rw [zI_lit, zI_add, zI_cl (by omega)]; omega
          have e0 : (zI ((36 * m + 3 * k : Nat) : Int)).toNatClampNeg = 36 * m + 3 * k := zI_clN (by omega)
          rw [e1, e2, e0, g0, g1, g2, gr]
          refine ⟨by rw [zI_lit, zI_add]; exact zI_in (by omega), ?_⟩
          rintro _ rfl
          refine ⟨zI_in (by omega), ?_⟩
          have nxt : ∀ c2 : Nat, c2 ≤ c → (∀ e, c2 ≤ e → e ≤ day → lvB R m h e = true) → (c2 = c → ∀ k', k' < k + 1 → ¬ (qq R m (14 + 3 * k') = h ∧ qq R m (15 + 3 * k') < c ∧ c ≤ qq R m (16 + 3 * k') + R 6 + 1)) → (c2 < c → ∃ k', k' < qq R m 13 ∧ qq R m (15 + 3 * k') = c2) → P22 (zI m) (zI h) (zI day) (zI c2) (zI t) (zI c) (zI k + (1 : Int32)) G := by
            intro c2 x1 x2 x3 x4
            rw [zl1, zI_add]
            exact ih2 (k + 1) c2 (by omega) x1 x2 x3 x4
          have same : ¬ (qq R m (14 + 3 * k) = h ∧ qq R m (15 + 3 * k) < c' ∧ c' ≤ qq R m (16 + 3 * k) + R 6 + 1) → P22 (zI m) (zI h) (zI day) (zI c') (zI t) (zI c) (zI k + (1 : Int32)) G := by
            intro hx
            refine nxt c' hc' hl' (fun q k' hk' => ?_) h2
            subst q
            by_cases z : k' = k
            · subst z; exact hx
            · exact h1 rfl k' (by omega)
          refine br_c (fun q => ?_) (fun q => ?_)
          · rw [zI_eq (by omega)] at q
            refine br_c (fun q1 => ?_) (fun q1 => ?_)
            · rw [zI_le (by omega)] at q1
              exact same (by omega)
            · rw [zI_le (by omega)] at q1
              refine ⟨by rw [zI_lit, zI_add]; exact zI_in (by omega), ?_⟩
              rw [zI_add, zl1, zI_sub, zI_lt (by omega)]
              refine br_c (fun q2 => same (by omega)) (fun q2 => ?_)
              refine nxt (qq R m (15 + 3 * k)) (by omega) (fun e x1 x2 => ?_) (fun z => by omega) (fun _ => ⟨k, hk2, rfl⟩)
              by_cases z : c' ≤ e
              · exact hl' e z x2
              · exact lvB_iff.mpr ⟨k, hk2, by omega, x1, by omega⟩
          · rw [zI_eq (by omega)] at q
            exact same (by omega)
      exact inner (qq R m 13) 0 c (by omega) (Nat.le_refl _) hl (fun _ k' hk' => by omega) (fun q => by omega)
  have hfin := cnb_le (fun k => qq R m (15 + 3 * k)) (day + 1) (qq R m 13)
  exact main 13 (day + 1) 0 (by omega) (Nat.le_refl _) (fun e a b => by omega) (by omega)
end
