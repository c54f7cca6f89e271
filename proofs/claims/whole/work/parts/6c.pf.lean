/-! ===== lands shared; marks refused ===== -/
/-- two alike of whom one holds the one half alone, the other the other -/
def spB (R : RR) (d l a b : Nat) : Bool := (alS R a).testBit b && ((hoB R d a (2 * l) && !hoB R d a (2 * l + 1)) && (hoB R d b (2 * l + 1) && !hoB R d b (2 * l)))
def shB (R : RR) (d l : Nat) : Bool := (List.range (R 1)).any (fun a => (List.range (R 1)).any (fun b => spB R d l a b))
def o_shared (q : Par) (d : Int) : Oc := if 0 ≤ d ∧ d ≤ 9999 then .inr ((bset (shB (qvR q) d.toNat) (qvR q 0) : Int), q) else .inl 1
theorem any_rg {n : Nat} {p : Nat → Bool} : (List.range n).any p = true ↔ ∃ i, i < n ∧ p i = true := by
  rw [List.any_eq_true]
  exact ⟨fun ⟨x, h1, h2⟩ => ⟨x, List.mem_range.mp h1, h2⟩, fun ⟨x, h1, h2⟩ => ⟨x, List.mem_range.mpr h1, h2⟩⟩
theorem sh_t {R : RR} {d l a b : Nat} (ha : a < R 1) (hb : b < R 1) (h : spB R d l a b = true) : shB R d l = true := any_rg.mpr ⟨a, ha, any_rg.mpr ⟨b, hb, h⟩⟩
theorem sh_f {R : RR} {d l : Nat} (h : ∀ a, a < R 1 → ∀ b, b < R 1 → spB R d l a b = false) : shB R d l = false := by
  refine Bool.eq_false_iff.mpr (fun z => ?_)
  obtain ⟨a, ha, z1⟩ := any_rg.mp z
  obtain ⟨b, hb, z2⟩ := any_rg.mp z1
  rw [h a ha b hb] at z2
  cases z2
theorem and3 (x : Nat) : x &&& 3 = x % 4 := Nat.and_two_pow_sub_one_eq_mod x 2
theorem hld {s k : Nat} (hk : k < 31) (h : s < 2147483648) : ((zI s >>> (zI k &&& 31)) &&& (3 : Int32) = zI ((s / 2 ^ k % 4 : Nat) : Int)) ∧ (s / 2 ^ k % 4 = 1 ↔ s.testBit k = true ∧ s.testBit (k + 1) = false) ∧ (s / 2 ^ k % 4 = 2 ↔ s.testBit k = false ∧ s.testBit (k + 1) = true) := by
  refine ⟨?_, ?_, ?_⟩
  · rw [zI_shr (by omega) h, show (3 : Int32) = zI ((3 : Nat) : Int) from rfl, zI_and, and3]
  · rw [Nat.testBit_eq_decide_div_mod_eq, Nat.testBit_eq_decide_div_mod_eq, Nat.pow_succ, ← Nat.div_div_eq_div_mul, decide_eq_true_iff, decide_eq_false_iff_not]
    omega
  · rw [Nat.testBit_eq_decide_div_mod_eq, Nat.testBit_eq_decide_div_mod_eq, Nat.pow_succ, ← Nat.div_div_eq_div_mul, decide_eq_true_iff, decide_eq_false_iff_not]
    omega
section
variable {R : RR} {G : GH} {n d : Nat}
set_option maxHeartbeats 1000000 in
theorem wI_isShared {post : Bool → GH → Prop} {l : Nat} (hV : VR n R) (hn : n ≤ 13) (hC : CR R (G 8)) (h7 : ∀ i, i < R 1 → G 6 7 i = zI (alS R i)) (h4 : ∀ m, m < R 1 → G 5 5 m = zI (bset (hoB R d m) (2 * R 0))) (hl : l < R 0) (hp : post (shB R d l) G) : wp_X7_isShared post 6 (zI l) G := by
  have h13 := Nat.le_trans hV.mk hn
  have l6 := hV.l6
  have tb : ∀ m h, h < 2 * R 0 → (bset (hoB R d m) (2 * R 0)).testBit h = hoB R d m h := fun m h hh => by
    rw [bset_tb, decide_eq_true hh, Bool.true_and]
  have hh : ∀ (m : Nat) (pt : Int32 → GH → Prop), m < R 1 → (∀ v : Nat, v < 4 → (v = 1 ↔ hoB R d m (2 * l) = true ∧ hoB R d m (2 * l + 1) = false) → (v = 2 ↔ hoB R d m (2 * l) = false ∧ hoB R d m (2 * l + 1) = true) → pt (zI v) G) → wp_X7_halvesHeld pt (zI m) (zI l) G := by
    intro m pt hm hpt
    have hb := bset_lt13 (hoB R d m) (n := 2 * R 0) (by omega)
    obtain ⟨x1, x2, x3⟩ := hld (s := bset (hoB R d m) (2 * R 0)) (k := 2 * l) (by omega) (by omega)
    unfold wp_X7_halvesHeld
    refine ⟨zI_in (by omega), ?_⟩
    rw [zI_clN (by omega), h4 m hm, zl2, zI_mul, show (2 : Int) * (l : Int) = ((2 * l : Nat) : Int) by omega, x1]
    rw [tb m _ (by omega), tb m _ (by omega)] at x2 x3
    exact hpt _ (by omega) x2 x3
  unfold wp_X7_isShared
  intro P2 K2
  have outer : ∀ g i : Nat, i + g = R 1 → (∀ a, a < i → ∀ b, b < R 1 → spB R d l a b = false) → P2 (zI l) (zI i) G := by
    intro g
    induction g with
    | zero =>
      intro i hi hf
      refine K2 _ _ _ ?_
      unfold lb_X7_isShared_2
      rw [hC.mk]
      refine br_t (by rw [zI_le (by omega)]; omega) ?_
      rw [sh_f (fun a ha b hb => hf a (by omega) b hb)] at hp
      exact hp
    | succ g ih =>
      intro i hi hf
      refine K2 _ _ _ ?_
      unfold lb_X7_isShared_2
      rw [hC.mk]
      refine br_f (by rw [zI_le (by omega)]; omega) ?_
      intro P16 K16
      have inner : ∀ u j : Nat, j + u = R 1 → (∀ b, b < j → spB R d l i b = false) → P16 (zI l) (zI i) (zI j) G := by
        intro u
        induction u with
        | zero =>
          intro j hj hb
          refine K16 _ _ _ _ ?_
          unfold lb_X7_isShared_16
          rw [hC.mk]
          refine br_t (by rw [zI_le (by omega)]; omega) ?_
          rw [show zI (i : Int) + (1 : Int32) = zI ((i + 1 : Nat) : Int) from zI_add _ 1]
          refine ih (i + 1) (by omega) (fun a ha b hb2 => ?_)
          by_cases e : a = i
          · subst e
            exact hb b (by omega)
          · exact hf a (by omega) b hb2
        | succ u ihu =>
          intro j hj hb
          have hji : j < R 1 := by omega
          have hal := alS_lt hV hn i (by omega)
          have nx : spB R d l i j = false → P16 (zI l) (zI i) (zI (j : Int) + (1 : Int32)) G := fun z => by
            rw [show zI (j : Int) + (1 : Int32) = zI ((j + 1 : Nat) : Int) from zI_add _ 1]
            refine ihu (j + 1) (by omega) (fun b hb2 => ?_)
            by_cases e : b = j
            · subst e
              exact z
            · exact hb b (by omega)
          refine K16 _ _ _ _ ?_
          unfold lb_X7_isShared_16
          rw [hC.mk]
          refine br_f (by rw [zI_le (by omega)]; omega) ⟨zI_in (by omega), ?_⟩
          rw [zI_clN (n := i) (by omega), h7 i (by omega), wI_isIn (by omega) (by omega)]
          by_cases z : (alS R i).testBit j = true
          · refine br_bt z (hh i _ (by omega) (fun v hv v1 v2 => ?_))
            rw [zl1, zI_eq (by omega)]
            refine br_c (fun w => ?_) (fun w => ?_)
            · refine hh j _ (by omega) (fun v' hv' v1' v2' => ?_)
              rw [zl2, zI_eq (by omega)]
              have w1 := v1.mp (by omega)
              refine br_c (fun y => ?_) (fun y => ?_)
              · have y1 := v2'.mp (by omega)
                have e : spB R d l i j = true := by
                  unfold spB
                  rw [z, w1.1, w1.2, y1.1, y1.2]
                  rfl
                rw [sh_t (by omega) hji e] at hp
                exact hp
              · refine nx ?_
                refine Bool.eq_false_iff.mpr (fun t => y ?_)
                unfold spB at t
                rw [Bool.and_eq_true, Bool.and_eq_true, Bool.and_eq_true, Bool.and_eq_true, Bool.not_eq_true', Bool.not_eq_true'] at t
                have := v2'.mpr ⟨t.2.2.2, t.2.2.1⟩
                omega
            · refine nx ?_
              refine Bool.eq_false_iff.mpr (fun t => w ?_)
              unfold spB at t
              rw [Bool.and_eq_true, Bool.and_eq_true, Bool.and_eq_true, Bool.and_eq_true, Bool.not_eq_true', Bool.not_eq_true'] at t
              have := v1.mpr t.2.1
              omega
          · refine br_bf (Bool.eq_false_iff.mpr z) (nx ?_)
            refine Bool.eq_false_iff.mpr (fun t => z ?_)
            unfold spB at t
            rw [Bool.and_eq_true] at t
            exact t.1
      exact inner (R 1) 0 (by omega) (fun b hb => by omega)
  exact outer (R 1) 0 (by omega) (fun a ha => by omega)
end
section
variable {q : Par} {G : GH}
theorem bset_s {p : Nat → Bool} {n : Nat} : bset p (n + 1) = bset p n ||| (if p n then 2 ^ n else 0) := rfl
theorem cI_shared {d : Int} (hd : I32 d) (h : IC q G) : wp_X7_shared (CO (o_shared q d) G) (CQ (o_shared q d) q G) (zI d) G := by
  have hV := h.V
  have h12 := hV.mk
  have l6 := hV.l6
  unfold wp_X7_shared
  refine wI_needDay hd (fun d1 => ?_) (fun d1 => CQ.s h (o_not d1 rfl))
  obtain ⟨dy, rfl⟩ := Int.eq_ofNat_of_zero_le d1.1
  refine wI_likeness h (fun G1 ag h1 k1 k2 k3 => ?_)
  rw [wI_allMarks h1.C (hV.to13)]
  refine wI_settleAll hV (by omega) h1.C (by decide) (by decide) (fun i hi => (k3 i hi).2) (by omega) (pw13 (by omega)) (all_clo _) (fun G2 ag2 hS => ?_)
  have h5 : ∀ (x : Nat) (_c _j : Nat), x = 5 → x = 5 := fun x c j z => z
  have h2 := h1.f5 ag2 h5
  have e24 : G2 24 = G 24 := (h5o ag2 h5 (by omega)).trans (WLk.o ag (by omega))
  have e25 : G2 25 = G 25 := (h5o ag2 h5 (by omega)).trans (WLk.o ag (by omega))
  have h7 : ∀ i, i < qvR q 1 → G2 6 7 i = zI (alS (qvR q) i) := fun i hi => by
    rw [h5o ag2 h5 (by omega)]
    exact (k3 i hi).2
  intro P K
  have main : ∀ g l : Nat, l + g = qvR q 0 → P (zI (bset (shB (qvR q) dy) l)) (zI l) G2 := by
    intro g
    induction g with
    | zero =>
      intro l hl
      have : l = qvR q 0 := by omega
      subst this
      refine K _ _ _ ?_
      unfold lb_X7_shared_34
      rw [h2.C.ld]
      refine br_t (by rw [zI_le (by omega)]; omega) ?_
      exact CO.mk (o_yes d1 rfl) rfl h2 e24 e25
    | succ g ih =>
      intro l hl
      refine K _ _ _ ?_
      unfold lb_X7_shared_34
      rw [h2.C.ld]
      refine br_f (by rw [zI_le (by omega)]; omega) ?_
      refine wI_isShared (d := dy) hV (by omega) h2.C h7 (fun m hm => (hS m hm (all_tb hm)).2.1) (by omega) ?_
      have e := ih (l + 1) (by omega)
      rw [bset_s] at e
      rw [show zI (l : Int) + (1 : Int32) = zI ((l + 1 : Nat) : Int) from zI_add _ 1]
      by_cases z : shB (qvR q) dy l = true
      · refine br_bt z ?_
        intro y ey
        rw [zI_bit (by omega), zI_or] at ey
        subst ey
        rw [if_pos z] at e
        exact e
      · refine br_bf (Bool.eq_false_iff.mpr z) ?_
        rw [if_neg z, Nat.or_zero] at e
        exact e
  exact main (qvR q 0) 0 (by omega)
set_option maxHeartbeats 1000000 in
theorem cM_shared {d : Int} (hd : I32 d) (hP : PV q) (h : IR q G) : wp_X8_shared (MO kc1 (o_shared q d) q G) (zI d) G := by
  have hV := hP.1
  have h12 := hV.mk
  have l6 := hV.l6
  unfold wp_X8_shared
  rw [wM_isDay hd]
  by_cases d1 : 0 ≤ d ∧ d ≤ 9999
  case neg => exact br_bf (decide_eq_false d1) (cdN (i := 1) h (o_not d1 rfl) rfl (by decide))
  refine br_bt (decide_eq_true d1) (cd0 h (fun G1 s1 => ?_))
  obtain ⟨dy, rfl⟩ := Int.eq_ofNat_of_zero_le d1.1
  intro P K
  have main : ∀ g l : Nat, l + g = qvR q 0 → ∀ G2, S0 q G G2 → P (zI dy) (zI (bset (shB (qvR q) dy) l)) (zI l) G2 := by
    intro g
    induction g with
    | zero =>
      intro l hl G2 s2
      have : l = qvR q 0 := by omega
      subst this
      refine K _ _ _ _ ?_
      unfold lb_X8_shared_29
      rw [s2.I.M.at (by omega)]
      refine br_t (by rw [zI_le (by omega)]; omega) ?_
      exact s2.ok (o_yes d1 rfl) rfl
    | succ g ih =>
      intro l hl G2 s2
      refine K _ _ _ _ ?_
      unfold lb_X8_shared_29
      rw [s2.I.M.at (by omega)]
      refine br_f (by rw [zI_le (by omega)]; omega) ?_
      have e1 : (2 : Int32) * zI (l : Int) = zI ((2 * l : Nat) : Int) := by
        rw [zl2, zI_mul]
        exact zI_cg (by omega)
      rw [e1, show zI ((2 * l : Nat) : Int) + (1 : Int32) = zI ((2 * l + 1 : Nat) : Int) from zI_add _ 1]
      unfold wp_X8_holdersOf
      refine wM_layHalf hV (by omega) s2.I.M s2.I.L (by omega) (by omega) (fun G3 ag3 hH3 => ?_)
      have s3 := s2.h ag3 (fun _ => hH3.1)
      have f3 := hH3.2.2.2.2.1
      rw [f3]
      refine wM_layHalf hV (by omega) s3.I.M s3.I.L (by omega) (by omega) (fun G4 ag4 hH4 => ?_)
      have s4 := s3.h ag4 (fun _ => hH4.1)
      have f4 := hH4.2.2.2.2.1
      rw [f4]
      have hM := s4.I.M
      have hA := stl_lt (R := qvR q) (L := orS (qvR q) (2 * l) dy (fun _ => true) (qvR q 1)) (H := 0) (fun x hx => by have := (orS_mem.mp hx).1; omega) (by omega)
      have hB := stl_lt (R := qvR q) (L := orS (qvR q) (2 * l + 1) dy (fun _ => true) (qvR q 1)) (H := 0) (fun x hx => by have := (orS_mem.mp hx).1; omega) (by omega)
      have tA : ∀ m, (stl (qvR q) 0 (orS (qvR q) (2 * l) dy (fun _ => true) (qvR q 1))).testBit m = hoB (qvR q) dy m (2 * l) := fun m => rfl
      have tB : ∀ m, (stl (qvR q) 0 (orS (qvR q) (2 * l + 1) dy (fun _ => true) (qvR q 1))).testBit m = hoB (qvR q) dy m (2 * l + 1) := fun m => rfl
      generalize stl (qvR q) 0 (orS (qvR q) (2 * l) dy (fun _ => true) (qvR q 1)) = A at hA tA
      generalize stl (qvR q) 0 (orS (qvR q) (2 * l + 1) dy (fun _ => true) (qvR q 1)) = B at hB tB
      intro P64 K64
      have inner : ∀ u j : Nat, j + u = qvR q 1 → ∀ acc : Nat, (acc = bset (shB (qvR q) dy) l ∧ (∀ a, a < j → ∀ b, b < qvR q 1 → spB (qvR q) dy l a b = false) ∨ acc = bset (shB (qvR q) dy) l ||| 2 ^ l ∧ shB (qvR q) dy l = true) → P64 (zI dy) (zI acc) (zI l) (zI A) (zI B) (zI j) G4 := by
        intro u
        induction u with
        | zero =>
          intro j hj acc ha
          refine K64 _ _ _ _ _ _ _ ?_
          unfold lb_X8_shared_64
          rw [wM_marks hM]
          refine br_t (by rw [zI_le (by omega)]; omega) ?_
          rw [show zI (l : Int) + (1 : Int32) = zI ((l + 1 : Nat) : Int) from zI_add _ 1]
          have e := ih (l + 1) (by omega) G4 s4
          rw [bset_s] at e
          rcases ha with ⟨x1, x2⟩ | ⟨x1, x2⟩
          · rw [sh_f (fun a ha b hb => x2 a (by omega) b hb), if_neg (by decide), Nat.or_zero] at e
            rw [x1]
            exact e
          · rw [x2, if_pos rfl] at e
            rw [x1]
            exact e
        | succ u ihu =>
          intro j hj acc ha
          have hj1 : j < qvR q 1 := by omega
          have hal := alS_lt hV (by omega) j hj1
          have hbd := bdf_le A B
          have nx : (∀ b, b < qvR q 1 → spB (qvR q) dy l j b = false) → P64 (zI dy) (zI acc) (zI l) (zI A) (zI B) (zI (j : Int) + (1 : Int32)) G4 := fun z => by
            rw [show zI (j : Int) + (1 : Int32) = zI ((j + 1 : Nat) : Int) from zI_add _ 1]
            refine ihu (j + 1) (by omega) acc (ha.imp (fun ⟨x1, x2⟩ => ⟨x1, fun a ha b hb => ?_⟩) id)
            by_cases e : a = j
            · subst e
              exact z b hb
            · exact x2 a (by omega) b hb
          refine K64 _ _ _ _ _ _ _ ?_
          unfold lb_X8_shared_64
          rw [wM_marks hM]
          refine br_f (by rw [zI_le (by omega)]; omega) ?_
          rw [zI_difX (by omega), wM_has (by omega) (by omega), bdf_tb (by omega), tA, tB]
          by_cases z : (hoB (qvR q) dy j (2 * l) && !hoB (qvR q) dy j (2 * l + 1)) = true
          · refine br_bt z ⟨zI_in (by omega), ?_⟩
            rw [zI_clN (n := j) (by omega), (hH4.1.2.2 j hj1).2.2, zI_and, zI_difX (by omega)]
            have hle : alS (qvR q) j &&& B ≤ B := Nat.and_le_right
            have hlb := bdf_le (alS (qvR q) j &&& B) A
            have key : bdf (alS (qvR q) j &&& B) A = 0 ↔ ∀ b, b < qvR q 1 → spB (qvR q) dy l j b = false := by
              refine ⟨fun z0 b hb => ?_, fun z0 => ?_⟩
              · have t := bdf_tb (s := alS (qvR q) j &&& B) (t := A) (i := b) (by omega)
                rw [z0, Nat.zero_testBit, Nat.testBit_and, tA, tB] at t
                unfold spB
                rw [z, Bool.true_and, ← Bool.and_assoc]
                exact t.symm
              · apply Nat.eq_of_testBit_eq
                intro b
                rw [bdf_tb (by omega), Nat.zero_testBit, Nat.testBit_and, tA, tB]
                by_cases hb : b < qvR q 1
                · have t := z0 b hb
                  unfold spB at t
                  rw [z, Bool.true_and, ← Bool.and_assoc] at t
                  exact t
                · have : (alS (qvR q) j).testBit b = false := by
                    unfold alS
                    rw [bset_tb, decide_eq_false hb, Bool.false_and]
                  rw [this]
                  rfl
            rw [zl0, zI_eq (by omega)]
            refine br_c (fun w => nx (key.mp (by omega))) (fun w => ?_)
            intro y ey
            rw [zI_bit (by omega), zI_or] at ey
            subst ey
            rw [show zI (j : Int) + (1 : Int32) = zI ((j + 1 : Nat) : Int) from zI_add _ 1]
            have hsh : shB (qvR q) dy l = true := by
              apply Classical.byContradiction
              intro c
              refine w ?_
              have : bdf (alS (qvR q) j &&& B) A = 0 := key.mpr (fun b hb => Bool.eq_false_iff.mpr (fun t => c (sh_t hj1 hb t)))
              omega
            refine ihu (j + 1) (by omega) _ (Or.inr ⟨?_, hsh⟩)
            rcases ha with ⟨x1, x2⟩ | ⟨x1, x2⟩
            · rw [x1]
            · rw [x1, Nat.or_assoc, Nat.or_self]
          · refine br_bf (Bool.eq_false_iff.mpr z) (nx (fun b hb => ?_))
            unfold spB
            rw [Bool.eq_false_iff.mpr z, Bool.false_and, Bool.and_false]
      exact inner (qvR q 1) 0 (by omega) _ (Or.inl ⟨rfl, fun a ha => by omega⟩)
  exact main (qvR q 0) 0 (by omega) G1 s1
end
