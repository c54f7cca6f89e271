/-! ===== the first day on which a mark holds ===== -/
theorem fsB_cs {p : Nat → Bool} : ∀ n, (fsB p n = -1 ∧ ∀ i, i < n → p i = false) ∨ ∃ d, d < n ∧ fsB p n = d ∧ p d = true ∧ ∀ i, i < d → p i = false
  | 0 => Or.inl ⟨rfl, fun i hi => by omega⟩
  | n + 1 => by
    rcases fsB_cs (p := p) n with ⟨x, y⟩ | ⟨d, x1, x2, x3, x4⟩
    · by_cases q : p n = true
      · refine Or.inr ⟨n, by omega, ?_, q, y⟩
        unfold fsB
        rw [if_pos x, if_pos q]
      · refine Or.inl ⟨?_, fun i hi => ?_⟩
        · unfold fsB
          rw [if_pos x, if_neg q]
        · by_cases z : i = n
          · rw [z]
            simpa using q
          · exact y i (by omega)
    · refine Or.inr ⟨d, by omega, ?_, x3, x4⟩
      unfold fsB
      rw [x2, if_neg (by omega)]
def mnP (p : Nat → Bool) (L : List Nat) (F : Int) : Prop := (F = -1 ∧ ∀ t, t ∈ L → p t = false) ∨ ∃ d : Nat, F = d ∧ d ≤ 9999 ∧ p d = true ∧ ∀ t, t ∈ L → p t = true → d ≤ t
theorem mnP_end {p : Nat → Bool} {L : List Nat} {F : Int} (hev : ∀ d, d < 10000 → p d = true → (∀ i, i < d → p i = false) → d ∈ L) (h : mnP p L F) : F = fsB p 10000 := by
  rcases fsB_cs (p := p) 10000 with ⟨x, y⟩ | ⟨d, x1, x2, x3, x4⟩
  · rcases h with ⟨h1, h2⟩ | ⟨e, h1, h2, h3, h4⟩
    · rw [h1, x]
    · rw [y e (by omega)] at h3
      cases h3
  · have hd := hev d x1 x3 x4
    rcases h with ⟨h1, h2⟩ | ⟨e, h1, h2, h3, h4⟩
    · rw [h2 d hd] at x3
      cases x3
    · have := h4 d hd x3
      by_cases z : e < d
      · rw [x4 e z] at h3
        cases h3
      · rw [h1, x2]
        omega
theorem mnP_rg {p : Nat → Bool} {L : List Nat} {F : Int} (h : mnP p L F) : -1 ≤ F ∧ F ≤ 9999 := by
  rcases h with ⟨h1, h2⟩ | ⟨e, h1, h2, h3, h4⟩ <;> omega
theorem mnP_skip {p : Nat → Bool} {L : List Nat} {F : Int} {t : Nat} (h : mnP p L F) (ht : p t = false ∨ F ≠ -1 ∧ F ≤ t) : mnP p (L ++ [t]) F := by
  rcases h with ⟨h1, h2⟩ | ⟨e, h1, h2, h3, h4⟩
  · refine Or.inl ⟨h1, fun x hx => ?_⟩
    rcases List.mem_append.mp hx with z | z
    · exact h2 x z
    · rw [List.mem_singleton] at z
      rw [z]
      rcases ht with ht | ht
      · exact ht
      · omega
  · refine Or.inr ⟨e, h1, h2, h3, fun x hx hp => ?_⟩
    rcases List.mem_append.mp hx with z | z
    · exact h4 x z hp
    · rw [List.mem_singleton] at z
      rcases ht with ht | ht
      · rw [z, ht] at hp
        cases hp
      · omega
theorem mnP_put {p : Nat → Bool} {L : List Nat} {F : Int} {t : Nat} (h : mnP p L F) (ht : p t = true) (h9 : t ≤ 9999) (hF : F = -1 ∨ (t : Int) < F) : mnP p (L ++ [t]) t := by
  refine Or.inr ⟨t, rfl, h9, ht, fun x hx hp => ?_⟩
  rcases List.mem_append.mp hx with z | z
  · rcases h with ⟨h1, h2⟩ | ⟨e, h1, h2, h3, h4⟩
    · rw [h2 x z] at hp
      cases hp
    · have := h4 x z hp
      omega
  · rw [List.mem_singleton] at z
    omega
def fdI (R : RR) (m h : Nat) : Int := fsB (fun d => hoB R d m h) 10000
theorem all_tb {n m : Nat} (h : m < n) : (2 ^ n - 1).testBit m = true := by
  rw [Nat.testBit_two_pow_sub_one]
  exact decide_eq_true h
theorem ho_event {n : Nat} {R : RR} (hV : VR n R) (hn : n ≤ 13) {m h d : Nat} (hm : m < R 1) (hd : d < 10000) (h1 : hoB R d m h = true) (h0 : ∀ i, i < d → hoB R i m h = false) : d ∈ tnM R (R 1) := by
  cases d with
  | zero =>
    have he := (hoB_en h1).1
    unfold enB at he
    have he := of_decide_eq_true he
    rw [tnM_mem]
    refine ⟨by omega, m, hm, ?_⟩
    unfold pri at he
    by_cases w : qq R m 12 ≤ 0
    · exact Or.inl (by omega)
    · rw [if_neg w] at he
      right
      have hl : lvB R m h 0 = true := by
        cases z : lvB R m h 0
        · exact absurd (snc_no z) he
        · rfl
      obtain ⟨k, a, b, c, e⟩ := lvB_iff.mp hl
      exact ⟨k, a, Or.inl (by omega)⟩
  | succ d =>
    by_cases w : d + 1 ∈ tnM R (R 1)
    · exact w
    · exfalso
      have no : ∀ x, x < R 1 → ∀ v, (v = qq R x 12 ∨ ∃ k, k < qq R x 13 ∧ (v = qq R x (15 + 3 * k) ∨ v = qq R x (16 + 3 * k) + R 6 + 1)) → v ≠ d + 1 := by
        intro x hx v hv z
        apply w
        rw [tnM_mem]
        rw [z] at hv
        exact ⟨by omega, x, hx, hv⟩
      have hq : ∀ x, x < R 1 → (2 ^ R 1 - 1).testBit x = true → qui R (some h) x d (d + 1 + 1) := by
        intro x hx _
        have n1 := no x hx _ (Or.inl rfl)
        refine ⟨by omega, fun k hk _ => ?_⟩
        have n2 := no x hx _ (Or.inr ⟨k, hk, Or.inl rfl⟩)
        have n3 := no x hx _ (Or.inr ⟨k, hk, Or.inr rfl⟩)
        omega
      have := hoB_stay hV hn (all_clo R) (all_tb hm) (show d ≤ d + 1 by omega) hq
      rw [h1, h0 d (by omega)] at this
      cases this
section
variable {R : RR} {G : GH} {n m h : Nat} {post : Int32 → GH → Prop} {px : Nat → GH → Prop}
set_option maxHeartbeats 1000000 in
theorem wI_firstDayL (hV : VR n R) (hn : n ≤ 13) (hC : CR R (G 8)) (h7 : ∀ i, i < R 1 → G 6 7 i = zI (alS R i)) (hm : m < R 1) (hh : h < 12) (hp : ∀ G', Ag (fun x _ _ => x = 5) G G' → post (zI (fdI R m h)) G') : lp_X7_firstDay_32 post px (zI m) (zI h) (zI (gpS R m)) (0 : Int32) (0 : Int32) G := by
  have h13 := Nat.le_trans hV.mk hn
  have hcl := gp_clo hV hn hm
  have hgl := gp_lt hV hn hm
  intro P K
  have main : ∀ f day t : Nat, 10000 ≤ day + f → day ≤ 10000 → t ≤ day → (∀ e, e < day → hoB R e m h = false) → ∀ G', Ag (fun x _ _ => x = 5) G G' → P (zI m) (zI h) (zI (gpS R m)) (zI day) (zI t) G' := by
    intro f
    induction f with
    | zero =>
      intro day t h1 h2 h3 hno G' ag
      have fin : post (-1 : Int32) G' := by
        have := hp G' ag
        unfold fdI at this
        rw [fsB_no 10000 (fun i hi => hno i (by omega))] at this
        exact this
      refine K _ _ _ _ _ _ ?_
      unfold lb_X7_firstDay_32
      refine br_c (fun _ => fin) (fun _ => br_t (by rw [zl9999, zI_lt (by omega)]; omega) fin)
    | succ f ih =>
      intro day t h1 h2 h3 hno G' ag
      by_cases w : day = 10000
      · subst w
        have fin : post (-1 : Int32) G' := by
          have := hp G' ag
          unfold fdI at this
          rw [fsB_no 10000 (fun i hi => hno i (by omega))] at this
          exact this
        refine K _ _ _ _ _ _ ?_
        unfold lb_X7_firstDay_32
        refine br_c (fun _ => fin) (fun _ => br_t (by rw [zl9999, zI_lt (by omega)]; omega) fin)
      · refine K _ _ _ _ _ _ ?_
        unfold lb_X7_firstDay_32
        refine br_f (by rw [zl9999, zI_lt (by omega)]; omega) (br_f (by rw [zl9999, zI_lt (by omega)]; omega) ?_)
        have hC' : CR R (G' 8) := hC.fr ag (fun c j z => by omega)
        have h7' : ∀ i, i < R 1 → G' 6 7 i = zI (alS R i) := fun i hi => by rw [ag 6 7 i (by omega)]; exact h7 i hi
        refine wI_rs hV hn hC' (by decide) (by decide) h7' hh (by omega) hgl (fun G1 ag1 er e7 e2 => ?_)
        have ag1' := ag.wk ag1 (fun x c j z => WRS.o z)
        have hst : stl R 0 (orS R h day (gpS R m).testBit (R 1)) < 8192 := stl_lt (fun x hx => by have := (orS_mem.mp hx).1; omega) (by omega)
        rw [e7, wI_isIn (by omega) (by omega), hoB_in hV hn hcl gp_self]
        cases hb : hoB R day m h
        · refine br_bf rfl ?_
          have hC1 : CR R (G1 8) := hC.fr ag1' (fun c j z => by omega)
          refine wI_nextChange hV hn hC1 (by omega) hgl hh (fun N g1 g2 hq => ?_)
          rw [show zI (t : Int) + (1 : Int32) = zI ((t + 1 : Nat) : Int) from zI_add _ 1]
          refine ih N (t + 1) (by omega) (by omega) (by omega) (fun e he => ?_) G1 ag1'
          by_cases z : e < day
          · exact hno e z
          · rw [hoB_stay hV hn hcl gp_self (show day ≤ e by omega) (fun x hx hs => (hq x hx hs).le (by omega))]
            exact hb
        · refine br_bt rfl ?_
          have := hp G1 ag1'
          unfold fdI at this
          have e := fsB_at (p := fun d => hoB R d m h) (m := day) hno hb (9999 - day)
          rw [show day + (9999 - day) + 1 = 10000 by omega] at e
          rw [e] at this
          exact this
  exact main 10000 0 0 (by omega) (by omega) (by omega) (fun e he => by omega) G (Ag.rf G)
set_option maxHeartbeats 1000000 in
theorem wM_firstDayL (hV : VR n R) (hn : n ≤ 13) (hM : MR R (G 24 1)) (hLd : G 24 0 7 ≠ 0 → LT R (G 24)) (hT : TS (G 24) (tnM R (R 1))) (hm : m < R 1) (hh : h < 12) (hp : ∀ G', Ag WH G G' → (G' 24 0 7 ≠ 0 → LT R (G' 24)) → post (zI (fdI R m h)) G') : lp_X8_firstDay_36 post (zI m) (zI h) (-1 : Int32) (0 : Int32) G := by
  have h13 := Nat.le_trans hV.mk hn
  have hlen := tnM_len hV hn (R 1) (Nat.le_refl _)
  have hle : ∀ t, t ∈ tnM R (R 1) → t ≤ 9999 := fun t ht => (tnM_mem.mp ht).1
  have hev : ∀ d, d < 10000 → (fun d => hoB R d m h) d = true → (∀ i, i < d → (fun d => hoB R d m h) i = false) → d ∈ tnM R (R 1) := fun d h1 h2 h3 => ho_event hV hn hm h1 h2 h3
  generalize tnM R (R 1) = L at hT hlen hle hev
  intro P K
  have main : ∀ f k : Nat, ∀ F : Int, k + f = L.length → mnP (fun d => hoB R d m h) (L.take k) F → ∀ G', Ag WH G G' → (G' 24 0 7 ≠ 0 → LT R (G' 24)) → P (zI m) (zI h) (zI F) (zI k) G' := by
    intro f
    induction f with
    | zero =>
      intro k F hk hF G' ag hl
      have e0 : G' 24 0 28 = zI L.length := by
        rw [ag 24 0 28 (fun w => by unfold WH at w; omega)]
        exact hT.1
      refine K _ _ _ _ _ ?_
      unfold lb_X8_firstDay_36
      rw [e0]
      refine br_t (by rw [zI_le (by omega)]; omega) ?_
      have ht : L.take k = L := List.take_of_length_le (by omega)
      rw [ht] at hF
      rw [mnP_end hev hF]
      exact hp G' ag hl
    | succ f ih =>
      intro k F hk hF G' ag hl
      have hkl : k < L.length := by omega
      have hrF := mnP_rg hF
      have e0 : G' 24 0 28 = zI L.length := by
        rw [ag 24 0 28 (fun w => by unfold WH at w; omega)]
        exact hT.1
      have e28 : ∀ {G''}, Ag WH G G'' → G'' 24 28 k = zI (L.getD k 0) := fun {G''} ag2 => by
        rw [ag2 24 28 k (fun w => by unfold WH at w; omega)]
        exact hT.2 k hkl
      have htm := getD_mem hkl
      have et := take_snoc hkl
      generalize L.getD k 0 = t at e28 htm et
      have ht9 := hle t htm
      have skip : ∀ {G''}, Ag WH G G'' → (G'' 24 0 7 ≠ 0 → LT R (G'' 24)) → (hoB R t m h = false ∨ F ≠ -1 ∧ F ≤ t) → P (zI m) (zI h) (zI F) (zI k + (1 : Int32)) G'' := fun {G''} ag2 hl2 hs => by
        rw [show zI (k : Int) + (1 : Int32) = zI ((k + 1 : Nat) : Int) from zI_add _ 1]
        refine ih (k + 1) F (by omega) ?_ G'' ag2 hl2
        rw [et]
        exact mnP_skip hF hs
      have j64 : (F = -1 ∨ (t : Int) < F) → j_X8_firstDay_64 post P (zI m) (zI h) (zI F) (zI k) G' := by
        intro hFt
        unfold j_X8_firstDay_64 wp_X8_holdersOf
        refine ⟨zI_in (by omega), ?_⟩
        rw [zI_clN (by omega), e28 ag]
        have hM' : MR R (G' 24 1) := hM.fr ag (fun j w => by unfold WH at w; omega)
        refine wM_layHalf hV hn hM' hl hh ht9 (fun G1 ag1 hl1 => ?_)
        have ag1' := ag.tr ag1
        have hst : stl R 0 (orL R h t) < 8192 := stl_lt (fun x hx => by have := (orL_mem.mp hx).1; omega) (by omega)
        have e25 : G1 24 0 25 = zI (stl R 0 (orL R h t)) := hl1.2.2.2.2.1
        rw [e25]
        dsimp only
        rw [wM_has (by omega) (by omega)]
        show ((hoB R t m h = false → _) ∧ (hoB R t m h = true → _))
        cases hb : hoB R t m h
        · exact br_bf rfl (skip ag1' (fun _ => hl1.1) (Or.inl hb))
        · refine br_bt rfl ⟨zI_in (by omega), ?_⟩
          intro y ey
          rw [e28 ag1'] at ey
          subst ey
          rw [show zI (k : Int) + (1 : Int32) = zI ((k + 1 : Nat) : Int) from zI_add _ 1]
          refine ih (k + 1) t (by omega) ?_ G1 ag1' (fun _ => hl1.1)
          rw [et]
          exact mnP_put hF hb ht9 hFt
      refine K _ _ _ _ _ ?_
      unfold lb_X8_firstDay_36
      rw [e0]
      refine br_f (by rw [zI_le (by omega)]; omega) ?_
      rw [show (-1 : Int32) = zI (-1) from rfl, zI_eq (by omega)]
      refine br_c (fun q => j64 (Or.inl q)) (fun q => ⟨zI_in (by omega), ?_⟩)
      rw [zI_clN (by omega), e28 ag, zI_lt (by omega)]
      exact br_c (fun q2 => j64 (Or.inr q2)) (fun q2 => skip ag hl (Or.inr ⟨q, by omega⟩))
  exact main L.length 0 (-1) (by omega) (Or.inl ⟨rfl, fun t ht => by simp at ht⟩) G (Ag.rf G) hLd
end
