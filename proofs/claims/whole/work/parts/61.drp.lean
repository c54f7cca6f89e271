/-! ===== a mark dropped ===== -/
def dcp (m s : Nat) : Nat := (s &&& (2 ^ m - 1)) ||| bdf (s / 2) (2 ^ m - 1)
def shx (m x : Nat) : Nat := if x < m then x else x + 1
def drR (R : RR) (m : Nat) : RR := fun i => if i = 1 then R 1 - 1 else if i < 18 then R i else if 18 + 51 * (R 1 - 1) ≤ i then R i else if (i - 18) % 51 = 50 then dcp m (R (18 + 51 * shx m ((i - 18) / 51) + 50)) else R (18 + 51 * shx m ((i - 18) / 51) + (i - 18) % 51)
set_option maxRecDepth 100000 in
theorem dcp_all : (List.range 8192).all (fun s => (List.range 13).all (fun m => decide ((s &&& (2 ^ m - 1)) ||| (s / 2 ^ (m + 1) * 2 ^ m) = dcp m s ∧ dcp m s < 8192))) = true := by decide +kernel
theorem dcp_eq {m s : Nat} (hm : m < 13) (hs : s < 8192) : (s &&& (2 ^ m - 1)) ||| (s / 2 ^ (m + 1) * 2 ^ m) = dcp m s ∧ dcp m s < 8192 := by
  have h := List.all_eq_true.mp dcp_all s (List.mem_range.mpr hs)
  have h := List.all_eq_true.mp h m (List.mem_range.mpr hm)
  exact of_decide_eq_true h
section
variable {R : RR} {n m : Nat}
theorem drR_1 : drR R m 1 = R 1 - 1 := by
  unfold drR
  rw [if_pos rfl]
theorem drR_lo {i : Nat} (h1 : i ≠ 1) (h : i < 18) : drR R m i = R i := by
  unfold drR
  rw [if_neg h1, if_pos h]
theorem drR_q {x w : Nat} (hx : x + 1 < R 1) (hw : w < 50) : qq (drR R m) x w = qq R (shx m x) w := by
  show drR R m (18 + 51 * x + w) = _
  unfold drR
  rw [if_neg (by omega), if_neg (by omega), if_neg (by omega), if_neg (by omega), show (18 + 51 * x + w - 18) / 51 = x by omega, show (18 + 51 * x + w - 18) % 51 = w by omega]
  rfl
theorem drR_50 {x : Nat} (hx : x + 1 < R 1) : qq (drR R m) x 50 = dcp m (qq R (shx m x) 50) := by
  show drR R m (18 + 51 * x + 50) = _
  unfold drR
  rw [if_neg (by omega), if_neg (by omega), if_neg (by omega), if_pos (by omega), show (18 + 51 * x + 50 - 18) / 51 = x by omega]
  rfl
theorem shx_lt {x : Nat} (hx : x + 1 < R 1) : shx m x < R 1 := by
  unfold shx
  split <;> omega
theorem drR_V (hV : VR n R) (hn : n ≤ 13) (hm : m < R 1) : VR n (drR R m) := by
  have h13 := Nat.le_trans hV.mk hn
  have hmk := hV.mk
  refine ⟨?_, ?_, ?_, ?_, ?_, ?_⟩
  · rw [drR_lo (by decide) (by omega)]
    exact hV.1
  · rw [drR_1]
    omega
  · intro w hw
    rw [drR_lo (by omega) (by omega)]
    exact hV.rl hw
  · intro x hx
    rw [drR_lo (by omega) (by omega)]
    exact hV.nb hx
  · intro x e hx he
    rw [drR_lo (by omega) (by omega), drR_lo (by omega) (by omega)]
    exact hV.ns hx he
  · intro x hx
    rw [drR_1] at hx
    have hx1 : x + 1 < R 1 := by omega
    have hs := shx_lt (m := m) hx1
    have h := hV.2.2.2.2.2 _ hs
    have hln := hV.ln hs
    have huc := hV.uc hs
    rw [drR_q hx1 (by omega), drR_q hx1 (by omega), drR_q hx1 (by omega), drR_q hx1 (by omega), drR_50 hx1]
    refine ⟨h.1, fun k hk => ?_, h.2.2.1, h.2.2.2.1, h.2.2.2.2.1, fun k hk => ?_, (dcp_eq (by omega) (hV.cn hs)).2⟩
    · rw [drR_q hx1 (by omega)]
      exact h.2.1 k hk
    · rw [drR_q hx1 (by omega), drR_q hx1 (by omega), drR_q hx1 (by omega)]
      exact h.2.2.2.2.2.1 k hk
end
section
variable {R : RR} {G : GH} {n m o : Nat}
theorem wI_closeUp {post : GH → Prop} {c N b z : Nat} (hN : (m + 1 + b) * z ≤ N) (hN2 : N ≤ 1000) (hp : ∀ G', (∀ x k, ¬ (x = o ∧ k = c) → G' x k = G x k) → (∀ j, G' o c j = if m * z ≤ j ∧ j < m * z + b * z then G o c (j + z) else G o c j) → post G') : wp_X4_closeUp post o c N (zI m) (zI b) (zI z) G := by
  have e : (m + 1 + b) * z = m * z + z + b * z := by rw [Nat.add_mul, Nat.add_mul, Nat.one_mul]
  have e2 : (m + 1) * z = m * z + z := by rw [Nat.add_mul, Nat.one_mul]
  unfold wp_X4_closeUp
  have i1 : (zI (m : Int) + (1 : Int32)) * zI (z : Int) = zI (((m + 1) * z : Nat) : Int) := by
    rw [show zI (m : Int) + (1 : Int32) = zI ((m + 1 : Nat) : Int) from zI_add _ 1, zI_mul]
    rfl
  have i2 : zI (m : Int) * zI (z : Int) = zI ((m * z : Nat) : Int) := by
    rw [zI_mul]
    rfl
  have i3 : zI (b : Int) * zI (z : Int) = zI ((b * z : Nat) : Int) := by
    rw [zI_mul]
    rfl
  have z0 : ∀ a : Nat, a ≤ 1000 → ¬ zI (a : Int) < 0 := fun a ha => by
    rw [zl0, zI_lt (by omega)]
    omega
  rw [i1, i2, i3, zI_clN (n := (m + 1) * z) (by omega), zI_clN (n := m * z) (by omega), zI_clN (n := b * z) (by omega)]
  refine ⟨⟨z0 _ (by omega), z0 _ (by omega), z0 _ (by omega), by omega, by omega⟩, ?_⟩
  intro G1 e1
  refine hp G1 (fun x k h => by rw [e1, gs_ne h]) (fun j => ?_)
  rw [e1, gs_eq]
  unfold va_cpy
  by_cases w : m * z ≤ j ∧ j < m * z + b * z
  · rw [if_pos w, if_pos w]
    congr 1
    omega
  · rw [if_neg w, if_neg w]
set_option maxHeartbeats 2000000 in
theorem wI_removeMark {post : GH → Prop} (hV : VR n R) (hn : n ≤ 13) (hC : CR R (G o)) (hm : m < R 1) (hp : ∀ G', Ag (fun x _ _ => x = o) G G' → CR (drR R m) (G' o) → post G') : wp_X4_removeMark post o (zI m) G := by
  have h13 := Nat.le_trans hV.mk hn
  obtain ⟨b, hb⟩ : ∃ b, R 1 = m + 1 + b := ⟨R 1 - m - 1, by omega⟩
  unfold wp_X4_removeMark
  intro y ey
  rw [hC.mk, zI_sub, zl1, zI_sub, show ((R 1 : Int) - (m : Int) - 1) = ((b : Nat) : Int) by omega] at ey
  subst ey
  rw [show (1 : Int32) = zI ((1 : Nat) : Int) from rfl, show (36 : Int32) = zI ((36 : Nat) : Int) from rfl]
  refine wI_closeUp (by omega) (by omega) (fun G2 k2 v2 => ?_)
  refine wI_closeUp (by omega) (by omega) (fun G4 k4 v4 => ?_)
  refine wI_closeUp (by omega) (by omega) (fun G6 k6 v6 => ?_)
  refine wI_closeUp (by omega) (by omega) (fun G8 k8 v8 => ?_)
  refine wI_closeUp (by omega) (by omega) (fun G10 k10 v10 => ?_)
  refine wI_closeUp (by omega) (by omega) (fun G12 k12 v12 => ?_)
  have i1 : (zI (m : Int) + zI ((1 : Nat) : Int)) * (10 : Int32) = zI (((m + 1) * 10 : Nat) : Int) := by
    rw [zI_add, zl10, zI_mul]
    rfl
  have i2 : zI (m : Int) * (10 : Int32) = zI ((m * 10 : Nat) : Int) := by
    rw [zl10, zI_mul]
    rfl
  have i3 : zI (b : Int) * (10 : Int32) = zI ((b * 10 : Nat) : Int) := by
    rw [zl10, zI_mul]
    rfl
  have z0 : ∀ a : Nat, a ≤ 1000 → ¬ zI (a : Int) < 0 := fun a ha => by
    rw [zl0, zI_lt (by omega)]
    omega
  rw [i1, i2, i3, zI_clN (n := (m + 1) * 10) (by omega), zI_clN (n := m * 10) (by omega), zI_clN (n := b * 10) (by omega)]
  refine ⟨⟨z0 _ (by omega), z0 _ (by omega), z0 _ (by omega), by omega, by omega⟩, ?_⟩
  intro G14 e14 G15 e15
  -- the cells of the register now
  have oth : ∀ x k, x ≠ o → G15 x k = G x k := fun x k hx => by
    rw [e15, gs_ne (by omega), e14, gs_ne (by omega), k12 x k (by omega), k10 x k (by omega), k8 x k (by omega), k6 x k (by omega), k4 x k (by omega), k2 x k (by omega)]
  have sh : ∀ x, x < R 1 - 1 → ∀ f : Nat → Int32, (if m * 1 ≤ x ∧ x < m * 1 + b * 1 then f (x + 1) else f x) = f (shx m x) := fun x hx f => by
    unfold shx
    by_cases w : x < m
    · rw [if_neg (by omega), if_pos w]
    · rw [if_pos (by omega), if_neg w]
  have c3 : ∀ x, x < R 1 - 1 → G15 o 3 x = G o 3 (shx m x) := fun x hx => by
    rw [e15, gs_ne (by omega), e14, gs_ne (by omega), k12 o 3 (by omega), k10 o 3 (by omega), k8 o 3 (by omega), k6 o 3 (by omega), k4 o 3 (by omega), v2 x, sh x hx]
  have c4 : ∀ x, x < R 1 - 1 → G15 o 4 x = G o 4 (shx m x) := fun x hx => by
    rw [e15, gs_ne (by omega), e14, gs_ne (by omega), k12 o 4 (by omega), k10 o 4 (by omega), k8 o 4 (by omega), k6 o 4 (by omega), v4 x, k2 o 4 (by omega), sh x hx]
  have c5 : ∀ x, x < R 1 - 1 → G15 o 5 x = G o 5 (shx m x) := fun x hx => by
    rw [e15, gs_ne (by omega), e14, gs_ne (by omega), k12 o 5 (by omega), k10 o 5 (by omega), k8 o 5 (by omega), v6 x, k4 o 5 (by omega), k2 o 5 (by omega), sh x hx]
  have c7 : ∀ x, x < R 1 - 1 → G15 o 7 x = G o 7 (shx m x) := fun x hx => by
    rw [e15, gs_ne (by omega), e14, gs_ne (by omega), k12 o 7 (by omega), k10 o 7 (by omega), v8 x, k6 o 7 (by omega), k4 o 7 (by omega), k2 o 7 (by omega), sh x hx]
  have c9 : ∀ x, x < R 1 - 1 → G15 o 9 x = G o 9 (shx m x) := fun x hx => by
    rw [e15, gs_ne (by omega), e14, gs_ne (by omega), k12 o 9 (by omega), v10 x, k8 o 9 (by omega), k6 o 9 (by omega), k4 o 9 (by omega), k2 o 9 (by omega), sh x hx]
  have c8 : ∀ x i, x < R 1 - 1 → i < 36 → G15 o 8 (36 * x + i) = G o 8 (36 * shx m x + i) := fun x i hx hi => by
    rw [e15, gs_ne (by omega), e14, gs_ne (by omega), v12, k10 o 8 (by omega), k8 o 8 (by omega), k6 o 8 (by omega), k4 o 8 (by omega), k2 o 8 (by omega)]
    unfold shx
    by_cases w : x < m
    · rw [if_neg (by omega), if_pos w]
    · rw [if_pos (by omega), if_neg w]
      congr 1
      omega
  have c6 : ∀ x i, x < R 1 - 1 → i < 10 → G15 o 6 (10 * x + i) = G o 6 (10 * shx m x + i) := fun x i hx hi => by
    rw [e15, gs_ne (by omega), e14, gs_eq, k12 o 6 (by omega), k10 o 6 (by omega), k8 o 6 (by omega), k6 o 6 (by omega), k4 o 6 (by omega), k2 o 6 (by omega)]
    unfold va_cpy shx
    by_cases w : x < m
    · rw [if_neg (by omega), if_pos w]
    · rw [if_pos (by omega), if_neg w]
      congr 1
      omega
  have cc : ∀ c, c = 10 ∨ c = 11 → G15 o c = G o c := fun c hc => by
    rw [e15, gs_ne (by omega), e14, gs_ne (by omega), k12 o c (by omega), k10 o c (by omega), k8 o c (by omega), k6 o c (by omega), k4 o c (by omega), k2 o c (by omega)]
  have g14 : G14 o 0 = G o 0 := by
    rw [e14, gs_ne (by omega), k12 o 0 (by omega), k10 o 0 (by omega), k8 o 0 (by omega), k6 o 0 (by omega), k4 o 0 (by omega), k2 o 0 (by omega)]
  have c0 : G15 o 0 0 = zI (R 0) := by
    rw [e15, gs_eq, upd_ne (by decide), g14]
    exact hC.ld
  have c1 : G15 o 0 1 = zI ((R 1 - 1 : Nat) : Int) := by
    rw [e15, gs_eq, upd_eq, g14, hC.mk, zI_sub]
    exact zI_cg (by omega)
  clear e15 e14 k12 k10 k8 k6 k4 k2 v12 v10 v8 v6 v4 v2 g14
  intro P K
  have main : ∀ f k : Nat, k + f = R 1 - 1 → ∀ G', (∀ x c, ¬ (x = o ∧ c = 9) → G' x c = G15 x c) → (∀ x, x < R 1 - 1 → G' o 9 x = if x < k then zI (dcp m (qq R (shx m x) 50)) else zI (qq R (shx m x) 50)) → P (zI m) (zI k) G' := by
    intro f
    induction f with
    | zero =>
      intro k hk G' hk2 hv
      refine K _ _ _ ?_
      unfold lb_X4_removeMark_107
      rw [hk2 o 0 (by omega), c1]
      refine br_t (by rw [zI_le (by omega)]; omega) ?_
      refine hp G' (fun x c j hx => by rw [hk2 x c (fun z => hx z.1), oth x c hx]) ⟨?_, ?_, ?_, ?_, ?_⟩
      · rw [hk2 o 0 (by omega), c0, drR_lo (by decide) (by omega)]
      · rw [hk2 o 0 (by omega), c1, drR_1]
      · intro c hc
        rw [hk2 o 10 (by omega), cc 10 (by omega), drR_lo (by omega) (by omega)]
        exact hC.nb hc
      · intro w hw
        rw [hk2 o 11 (by omega), cc 11 (by omega), drR_lo (by omega) (by omega)]
        exact hC.rl hw
      · intro x hx
        rw [drR_1] at hx
        have hx1 : x + 1 < R 1 := by omega
        have hs := shx_lt (m := m) hx1
        have hln := hV.ln hs
        have huc := hV.uc hs
        rw [hk2 o 3 (by omega), hk2 o 4 (by omega), hk2 o 5 (by omega), hk2 o 6 (by omega), hk2 o 7 (by omega), hk2 o 8 (by omega), c3 x hx, c4 x hx, c5 x hx, c7 x hx, drR_q hx1 (by omega), drR_q hx1 (by omega), drR_q hx1 (by omega), drR_q hx1 (by omega), drR_50 hx1]
        refine ⟨hC.fl hs, hC.gd hs, hC.ln hs, hC.uc hs, ?_, fun k hk => ?_, fun k j hk hj => ?_⟩
        · rw [hv x hx, if_pos (by omega)]
        · rw [c6 x k hx (by omega), drR_q hx1 (by omega)]
          exact hC.lt hs hk
        · rw [show 36 * x + 3 * k + j = 36 * x + (3 * k + j) by omega, c8 x _ hx (by omega), drR_q hx1 (by omega)]
          have := hC.us hs hk hj
          rw [show 36 * shx m x + 3 * k + j = 36 * shx m x + (3 * k + j) by omega] at this
          exact this
    | succ f ih =>
      intro k hk G' hk2 hv
      have hk1 : k + 1 < R 1 := by omega
      have hs := shx_lt (m := m) hk1
      have hcn := hV.cn hs
      have hpm : 2 ^ m ≤ 8192 := pow_le13 (by omega)
      have hp1 : 1 ≤ 2 ^ m := Nat.one_le_two_pow
      refine K _ _ _ ?_
      unfold lb_X4_removeMark_107
      rw [hk2 o 0 (by omega), c1]
      refine br_f (by rw [zI_le (by omega)]; omega) ⟨zI_in (by omega), ?_⟩
      rw [zI_clN (by omega), hv k (by omega), if_neg (by omega)]
      intro y ey
      rw [zI_bit (by omega), zl1, zI_sub, show (((2 ^ m : Nat) : Int) - 1) = ((2 ^ m - 1 : Nat) : Int) by omega, zI_and] at ey
      subst ey
      refine ⟨zI_in (by omega), zI_in (by omega), ?_⟩
      intro G18 e18
      have hle : qq R (shx m k) 50 / 2 ^ (m + 1) * 2 ^ m < 4294967296 := by
        have a1 : qq R (shx m k) 50 / 2 ^ (m + 1) * 2 ^ (m + 1) ≤ qq R (shx m k) 50 := Nat.div_mul_le_self _ _
        have a2 : 2 ^ (m + 1) = 2 ^ m * 2 := Nat.pow_succ 2 m
        have a3 : qq R (shx m k) 50 / 2 ^ (m + 1) * 2 ^ m ≤ qq R (shx m k) 50 / 2 ^ (m + 1) * 2 ^ (m + 1) := Nat.mul_le_mul_left _ (by omega)
        omega
      rw [show zI (m : Int) + (1 : Int32) = zI ((m + 1 : Nat) : Int) from zI_add _ 1, zI_shr (by omega) (by omega), zI_shl (by omega) hle, zI_or, (dcp_eq (by omega) hcn).1] at e18
      rw [show zI (k : Int) + (1 : Int32) = zI ((k + 1 : Nat) : Int) from zI_add _ 1]
      refine ih (k + 1) (by omega) G18 (fun x c h => by rw [e18, gs_ne h]; exact hk2 x c h) (fun x hx => ?_)
      rw [e18, gs_eq]
      by_cases u : x = k
      · subst u
        rw [upd_eq, if_pos (by omega)]
      · rw [upd_ne u, hv x hx]
        by_cases v : x < k
        · rw [if_pos v, if_pos (by omega)]
        · rw [if_neg v, if_neg (by omega)]
  exact main (R 1 - 1) 0 (by omega) G15 (fun _ _ _ => rfl) (fun x hx => by
    rw [if_neg (by omega), c9 x hx]
    exact hC.cn (shx_lt (by omega)))
end
