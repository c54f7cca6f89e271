/-! ===== a name tried, in the reference ===== -/
theorem LT.c2 {R : RR} {A A' : Nat → Nat → Int32} (h : LT R A) (e : ∀ c, 9 ≤ c → c ≤ 20 → A' c = A c) : LT R A' := by
  unfold LT HS at h ⊢
  rw [e 9 (by omega) (by omega), e 10 (by omega) (by omega), e 14 (by omega) (by omega), e 15 (by omega) (by omega), e 16 (by omega) (by omega), e 17 (by omega) (by omega), e 18 (by omega) (by omega), e 19 (by omega) (by omega), e 20 (by omega) (by omega)]
  exact h
section
variable {R : RR} {G : GH} {n m day : Nat}
theorem wM_put {post : GH → Prop} {x y v : Int32} (m w : Nat) (hx : x = zI m) (hy : y = zI w) (hm : m < 13) (hw : w < 51) (hp : ∀ G', G' = gs G 24 1 (upd (G 24 1) (18 + 51 * m + w) v) → post G') : wp_X8_put post x y v G := by
  subst hx hy
  unfold wp_X8_put
  rw [zl18, zl51, zI_mul, zI_add, zI_add, show ((18 : Int) + 51 * (m : Int) + (w : Int)) = ((18 + 51 * m + w : Nat) : Int) by omega]
  refine ⟨zI_in (by omega), ?_⟩
  rw [zI_clN (by omega)]
  exact hp
theorem wM_allHalves {post : Int32 → GH → Prop} (hV : VR n R) (hM : MR R (G 24 1)) : wp_X8_allHalves post G = post (zI ((2 ^ (2 * R 0) - 1 : Nat) : Int)) G := by
  have l6 := hV.l6
  have hpw := pow_le13 (show 2 * R 0 ≤ 13 by omega)
  have hp1 : 1 ≤ 2 ^ (2 * R 0) := Nat.one_le_two_pow
  unfold wp_X8_allHalves
  rw [wM_halvesMany hM]
  rw [zI_bit (by omega), zl1, zI_sub, show (((2 ^ (2 * R 0) : Nat) : Int) - 1) = ((2 ^ (2 * R 0) - 1 : Nat) : Int) by omega]
theorem bset_all {p : Nat → Bool} {n : Nat} : bset p n = 2 ^ n - 1 ↔ ∀ i, i < n → p i = true := by
  constructor
  · intro h i hi
    have : (bset p n).testBit i = true := by
      rw [h]
      exact all_tb hi
    rw [bset_tb, decide_eq_true hi, Bool.true_and] at this
    exact this
  · intro h
    apply Eq.symm
    apply bset_eq
    intro i
    rw [Nat.testBit_two_pow_sub_one]
    by_cases w : i < n
    · rw [decide_eq_true w, h i w]
      rfl
    · rw [decide_eq_false w]
      rfl
def WHa (x c j : Nat) : Prop := WH x c j ∨ x = 24 ∧ c = 1
theorem wM_holdsAllOn {post : Bool → GH → Prop} {x0 d : Nat} (hV : VR n R) (hn : n ≤ 13) (hm : m < R 1) (hx0 : x0 ≤ 9999) (hd : d ≤ 9999) (hM : MR (flR R m x0) (G 24 1)) (hL : G 24 0 7 ≠ 0 → LT R (G 24)) (hp : ∀ G', Ag WHa G G' → MR (flR R m d) (G' 24 1) → (G' 24 0 7 ≠ 0 → LT R (G' 24)) → post (fhB R m d) G') : wp_X8_holdsAllOn post (zI m) (zI d) G := by
  have h13 := Nat.le_trans hV.mk hn
  have l6 := hV.l6
  have Vd : VR n (flR R m d) := flR_V hV hd
  have Ad : eqA R (flR R m d) := flR_A hV
  unfold wp_X8_holdsAllOn
  refine wM_put m 12 rfl rfl (by omega) (by omega) (fun G1 e1 => ?_)
  have a1 : Ag WHa G G1 := by
    rw [e1]
    exact (Ag.rf G).up (Or.inr ⟨rfl, rfl⟩)
  have hM1 : MR (flR R m d) (G1 24 1) := by
    intro j hj
    rw [e1, gs_eq]
    by_cases w : j = 18 + 51 * m + 12
    · rw [w, upd_eq]
      exact congrArg (fun z : Nat => zI (z : Int)) (flR_12 (R := R) (m := m) (d := d)).symm
    · rw [upd_ne w, hM.at hj]
      unfold flR
      rw [if_neg w, if_neg w]
  have hL1 : G1 24 0 7 ≠ 0 → LT (flR R m d) (G1 24) := fun z => by
    rw [e1, gs_ne (by decide)] at z
    exact Ad.LT ((hL z).cg (fun c hc => by rw [e1, gs_ne (by omega)]))
  refine wM_halvesOf (what := 1) Vd hn hM1 hL1 (by rw [flR_lo (by omega)]; exact hm) hd (by omega) (fun G2 ag2 hl2 => ?_)
  have hM2 : MR (flR R m d) (G2 24 1) := hM1.fr ag2 (fun j w => by unfold WH at w; omega)
  have a2 : Ag WHa G G2 := a1.wk ag2 (fun _ _ _ z => Or.inl z)
  rw [wM_allHalves Vd hM2]
  have hlt := hvS_lt (d := d) (m := m) (w := 1) Vd
  have hpw := pow_le13 (show 2 * R 0 ≤ 13 by omega)
  rw [flR_lo (by omega), zI_eq (by omega)]
  have fin := hp G2 a2 hM2 (fun z => Ad.symm.LT (hl2 z))
  have iff1 : (((hvS (flR R m d) d m 1 : Nat) : Int) = ((2 ^ (2 * R 0) - 1 : Nat) : Int)) ↔ ∀ h, h < 2 * R 0 → hoB (flR R m d) d m h = true := by
    rw [hvS_1, flR_lo (by omega), ← bset_all]
    omega
  unfold fhB at fin
  refine br_c (fun z => ?_) (fun z => ?_)
  · rw [decide_eq_true (iff1.mp z)] at fin
    exact fin
  · rw [decide_eq_false (fun y => z (iff1.mpr y))] at fin
    exact fin
set_option maxHeartbeats 1000000 in
theorem wM_firstFree {post : Int32 → GH → Prop} {d0 : Nat} (hV : VR n R) (hn : n ≤ 13) (hm : m + 1 = R 1) (hu : qq R m 13 = 0) (hd0 : qq R m 12 = d0) (hM : MR R (G 24 1)) (hL : G 24 0 7 ≠ 0 → LT R (G 24)) (hp : ∀ x0 G', x0 ≤ 9999 → Ag (fun x c j => WHa x c j ∨ WT x c j) G G' → MR (flR R m x0) (G' 24 1) → post (zI (ffI R m d0)) G') : wp_X8_firstFree post (zI m) (zI d0) G := by
  have h13 := Nat.le_trans hV.mk hn
  have hmR : m < R 1 := by omega
  have hfl := hV.fl hmR
  unfold wp_X8_firstFree
  refine wM_layTurns hV hn hM (fun G1 ag1 hT => ?_)
  have hM1 : MR R (G1 24 1) := hM.fr ag1 (fun j w => by unfold WT at w; omega)
  have hL1 : G1 24 0 7 ≠ 0 → LT R (G1 24) := fun z => by
    rw [ag1 24 0 7 (fun w => by unfold WT at w; omega)] at z
    exact (hL z).c2 (fun c h1 h2 => ag1.ce 24 c (fun j y => by unfold WT at y; omega))
  have eR : flR R m d0 = R := by rw [← hd0, flR_self]
  have hlen := tnM_len hV hn (R 1) (Nat.le_refl _)
  have hle : ∀ t, t ∈ tnM R (R 1) → t ≤ 9999 := fun t ht => (tnM_mem.mp ht).1
  have hev : ∀ d, d < 10000 → ffB R m d0 d = true → (∀ i, i < d → ffB R m d0 i = false) → d ∈ [d0] ++ tnM R (R 1) := by
    intro d h1 h2 h3
    unfold ffB at h2
    rw [Bool.and_eq_true, decide_eq_true_eq] at h2
    by_cases w : d = d0
    · rw [w]
      exact List.mem_append_left _ (List.mem_singleton.mpr rfl)
    · obtain ⟨d', rfl⟩ : ∃ d', d = d' + 1 := ⟨d - 1, by omega⟩
      have h4 := h3 d' (by omega)
      unfold ffB at h4
      rw [decide_eq_true (by omega), Bool.true_and] at h4
      exact List.mem_append_right _ (fh_event hV hn hm hu (by omega) h2.2 h4)
  generalize tnM R (R 1) = L at hT hlen hle hev
  refine wM_holdsAllOn (x0 := d0) hV hn hmR (by omega) (by omega) (by rw [eR]; exact hM1) hL1 (fun G3 ag3 hM3 hL3 => ?_)
  have loop : ∀ F : Int, mnP (ffB R m d0) [d0] F → (F = d0 ∨ fhB R m d0 = false) → j_X8_firstFree_18 post (zI m) (zI d0) (zI F) G3 := by
    intro F0 hF0 hb0
    unfold j_X8_firstFree_18
    intro P K
    have main : ∀ f k x0 : Nat, ∀ F : Int, k + f = L.length → x0 ≤ 9999 → mnP (ffB R m d0) ([d0] ++ L.take k) F → (F = d0 ∨ fhB R m d0 = false) → ∀ G', Ag WHa G1 G' → MR (flR R m x0) (G' 24 1) → (G' 24 0 7 ≠ 0 → LT R (G' 24)) → P (zI m) (zI d0) (zI F) (zI k) G' := by
      intro f
      induction f with
      | zero =>
        intro k x0 F hk hx0 hF hb G' ag hM' hL'
        have e0 : G' 24 0 28 = zI L.length := by
          rw [ag 24 0 28 (fun w => by unfold WHa WH at w; omega)]
          exact hT.1
        refine K _ _ _ _ _ ?_
        unfold lb_X8_firstFree_22
        rw [e0]
        refine br_t (by rw [zI_le (by omega)]; omega) ?_
        have ht : L.take k = L := List.take_of_length_le (by omega)
        rw [ht] at hF
        rw [mnP_end hev hF]
        exact hp x0 G' hx0 ((ag1.mo (fun _ _ _ z => Or.inr z)).wk ag (fun _ _ _ z => Or.inl z)) hM'
      | succ f ih =>
        intro k x0 F hk hx0 hF hb G' ag hM' hL'
        have hkl : k < L.length := by omega
        have hrF := mnP_rg hF
        have e0 : G' 24 0 28 = zI L.length := by
          rw [ag 24 0 28 (fun w => by unfold WHa WH at w; omega)]
          exact hT.1
        have e28 : ∀ {G''}, Ag WHa G1 G'' → G'' 24 28 k = zI (L.getD k 0) := fun {G''} ag2 => by
          rw [ag2 24 28 k (fun w => by unfold WHa WH at w; omega)]
          exact hT.2 k hkl
        have htm := getD_mem hkl
        have et := take_snoc hkl
        generalize L.getD k 0 = t at e28 htm et
        have ht9 := hle t htm
        have et2 : [d0] ++ L.take (k + 1) = ([d0] ++ L.take k) ++ [t] := by rw [et, List.append_assoc]
        refine K _ _ _ _ _ ?_
        unfold lb_X8_firstFree_22
        rw [e0]
        refine br_f (by rw [zI_le (by omega)]; omega) ?_
        rw [zI_eq (by omega)]
        refine br_c (fun q => ?_) (fun q => ⟨zI_in (by omega), ?_⟩)
        · have fin := hp x0 G' hx0 ((ag1.mo (fun _ _ _ z => Or.inr z)).wk ag (fun _ _ _ z => Or.inl z)) hM'
          unfold ffI at fin
          have hp0 : ffB R m d0 d0 = true := by
            rcases hF with ⟨h1, h2⟩ | ⟨e, h1, h2, h3, h4⟩
            · omega
            · rw [show e = d0 by omega] at h3
              exact h3
          have e := fsB_at (p := ffB R m d0) (m := d0) (fun i hi => by unfold ffB; rw [decide_eq_false (by omega)]; rfl) hp0 (9999 - d0)
          rw [show d0 + (9999 - d0) + 1 = 10000 by omega] at e
          rw [e] at fin
          rw [q]
          exact fin
        · have hb0 : fhB R m d0 = false := hb.resolve_left q
          rw [zI_clN (by omega), e28 ag]
          have skip : ∀ {x1 G''}, x1 ≤ 9999 → Ag WHa G1 G'' → MR (flR R m x1) (G'' 24 1) → (G'' 24 0 7 ≠ 0 → LT R (G'' 24)) → (ffB R m d0 t = false ∨ F ≠ -1 ∧ F ≤ t) → P (zI m) (zI d0) (zI F) (zI k + (1 : Int32)) G'' := fun {x1 G''} hx1 ag2 hM2 hl2 hs => by
            rw [show zI (k : Int) + (1 : Int32) = zI ((k + 1 : Nat) : Int) from zI_add _ 1]
            refine ih (k + 1) x1 F (by omega) hx1 ?_ hb G'' ag2 hM2 hl2
            rw [et2]
            exact mnP_skip hF hs
          rw [zI_le (by omega)]
          refine br_c (fun z => skip hx0 ag hM' hL' (Or.inl ?_)) (fun z => ?_)
          · unfold ffB
            by_cases y : t = d0
            · rw [y, hb0, Bool.and_false]
            · rw [decide_eq_false (by omega)]
              rfl
          · have j66 : (F = -1 ∨ (t : Int) < F) → j_X8_firstFree_66 post P (zI m) (zI d0) (zI F) (zI k) G' := by
              intro hFt
              unfold j_X8_firstFree_66
              refine ⟨zI_in (by omega), ?_⟩
              rw [zI_clN (by omega), e28 ag]
              refine wM_holdsAllOn (x0 := x0) hV hn hmR hx0 ht9 hM' hL' (fun G5 ag5 hM5 hL5 => ?_)
              have ag5' := ag.tr ag5
              have ef : ffB R m d0 t = fhB R m t := by
                unfold ffB
                rw [decide_eq_true (by omega), Bool.true_and]
              cases hc : fhB R m t
              · exact br_bf rfl (skip ht9 ag5' hM5 hL5 (Or.inl (by rw [ef, hc])))
              · refine br_bt rfl ⟨zI_in (by omega), ?_⟩
                intro y ey
                rw [e28 ag5'] at ey
                subst ey
                rw [show zI (k : Int) + (1 : Int32) = zI ((k + 1 : Nat) : Int) from zI_add _ 1]
                refine ih (k + 1) t t (by omega) ht9 ?_ (Or.inr hb0) G5 ag5' hM5 hL5
                rw [et2]
                exact mnP_put hF (by rw [ef, hc]) ht9 hFt
            rw [show (-1 : Int32) = zI (-1) from rfl, zI_eq (by omega)]
            refine br_c (fun q3 => j66 (Or.inl q3)) (fun q3 => ⟨zI_in (by omega), ?_⟩)
            rw [zI_lt (by omega)]
            exact br_c (fun q4 => j66 (Or.inr q4)) (fun q4 => skip hx0 ag hM' hL' (Or.inr ⟨q3, by omega⟩))
    exact main L.length 0 d0 F0 (by omega) (by omega) (by simpa using hF0) hb0 G3 ag3 hM3 hL3
  have efd : ffB R m d0 d0 = fhB R m d0 := by
    unfold ffB
    rw [decide_eq_true (Nat.le_refl _), Bool.true_and]
  cases hb : fhB R m d0
  · refine br_bf rfl (loop (-1) (Or.inl ⟨rfl, fun t ht => ?_⟩) (Or.inr hb))
    rw [List.mem_singleton] at ht
    rw [ht, efd, hb]
  · refine br_bt rfl (loop d0 (Or.inr ⟨d0, rfl, by omega, by rw [efd, hb], fun t ht _ => ?_⟩) (Or.inl rfl))
    rw [List.mem_singleton] at ht
    omega
end
