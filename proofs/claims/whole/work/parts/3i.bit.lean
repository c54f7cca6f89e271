/-! ===== sets by a test; how many there are ===== -/
def bset (p : Nat → Bool) : Nat → Nat
  | 0 => 0
  | n + 1 => bset p n ||| (if p n then 2 ^ n else 0)
theorem bset_tb {p : Nat → Bool} {i : Nat} : ∀ n, (bset p n).testBit i = (decide (i < n) && p i)
  | 0 => by
    unfold bset
    rw [Nat.zero_testBit, decide_eq_false (by omega)]
    rfl
  | n + 1 => by
    unfold bset
    rw [Nat.testBit_or, bset_tb n]
    by_cases q : i = n
    · subst q
      rw [decide_eq_false (by omega), decide_eq_true (by omega)]
      cases h : p i
      · rw [if_neg (by decide), Nat.zero_testBit]
        rfl
      · rw [if_pos rfl, Nat.testBit_two_pow_self]
        rfl
    · have e : (if p n = true then 2 ^ n else 0).testBit i = false := by
        split
        · exact Nat.testBit_two_pow_of_ne (by omega)
        · exact Nat.zero_testBit _
      rw [e, Bool.or_false]
      by_cases q2 : i < n
      · rw [decide_eq_true q2, decide_eq_true (by omega)]
      · rw [decide_eq_false q2, decide_eq_false (by omega)]
theorem bset_lt (p : Nat → Bool) (n : Nat) : bset p n < 2 ^ n := by
  apply lt_tb
  intro i hi
  rw [bset_tb, Bool.and_eq_true, decide_eq_true_eq] at hi
  exact hi.1
theorem bset_lt13 (p : Nat → Bool) {n : Nat} (h : n ≤ 13) : bset p n < 8192 := Nat.lt_of_lt_of_le (bset_lt p n) (pow_le13 h)
theorem bset_eq {p : Nat → Bool} {n s : Nat} (h : ∀ i, s.testBit i = (decide (i < n) && p i)) : s = bset p n := by
  apply Nat.eq_of_testBit_eq
  intro i
  rw [h, bset_tb]
def cntB (p : Nat → Bool) : Nat → Nat
  | 0 => 0
  | n + 1 => cntB p n + if p n then 1 else 0
theorem cntB_le (p : Nat → Bool) : ∀ n, cntB p n ≤ n
  | 0 => Nat.le_refl _
  | n + 1 => by
    have := cntB_le p n
    unfold cntB
    split <;> omega
theorem cntB_cg {p q : Nat → Bool} : ∀ n, (∀ i, i < n → p i = q i) → cntB p n = cntB q n
  | 0, _ => rfl
  | n + 1, h => by
    unfold cntB
    rw [cntB_cg n (fun i hi => h i (by omega)), h n (by omega)]
theorem cntB_ext {p : Nat → Bool} {n : Nat} : ∀ d, (∀ i, n ≤ i → p i = false) → cntB p (n + d) = cntB p n
  | 0, _ => rfl
  | d + 1, h => by
    show cntB p (n + d + 1) = _
    unfold cntB
    rw [cntB_ext d h, h (n + d) (by omega)]
    cases n <;> rfl
theorem cntB_bset {p : Nat → Bool} {n : Nat} (h : n ≤ 13) : cntB (bset p n).testBit 13 = cntB p n := by
  have e := cntB_ext (p := (bset p n).testBit) (n := n) (13 - n) (fun i hi => by rw [bset_tb, decide_eq_false (by omega)]; rfl)
  rw [show n + (13 - n) = 13 by omega] at e
  rw [e]
  exact cntB_cg n (fun i hi => by rw [bset_tb, decide_eq_true hi]; rfl)
def bcI (x0 : Int32) : Int32 :=
  let y1 := x0 - ((((x0).toUInt32 >>> (((1 : Int32)).toUInt32 &&& Int32.toUInt32 31)).toInt32) &&& (1431655765 : Int32))
  let y2 := (y1 &&& (858993459 : Int32)) + ((((y1).toUInt32 >>> (((2 : Int32)).toUInt32 &&& Int32.toUInt32 31)).toInt32) &&& (858993459 : Int32))
  let y3 := (y2 + (((y2).toUInt32 >>> (((4 : Int32)).toUInt32 &&& Int32.toUInt32 31)).toInt32)) &&& (252645135 : Int32)
  let y4 := y3 + (((y3).toUInt32 >>> (((8 : Int32)).toUInt32 &&& Int32.toUInt32 31)).toInt32)
  let y5 := y4 + (((y4).toUInt32 >>> (((16 : Int32)).toUInt32 &&& Int32.toUInt32 31)).toInt32)
  y5 &&& (63 : Int32)
set_option maxRecDepth 100000 in
theorem bcI_all : (List.range 8192).all (fun s => decide (bcI (Int32.ofNat s) = Int32.ofNat (cntB s.testBit 13))) = true := by decide +kernel
theorem wI_bitCount {G : GH} {s : Nat} {post : Int32 → GH → Prop} (hs : s < 8192) (hp : post (zI (cntB s.testBit 13)) G) : wp_J6_bitCount_0f7a4 post (zI s) G := by
  have h := List.all_eq_true.mp bcI_all s (List.mem_range.mpr hs)
  rw [decide_eq_true_eq] at h
  have h : bcI (zI s) = zI (cntB s.testBit 13) := by
    rw [← zI_nI, ← zI_nI]
    exact h
  rw [← h] at hp
  unfold wp_J6_bitCount_0f7a4
  rintro _ rfl _ rfl _ rfl _ rfl _ rfl
  exact hp
set_option maxRecDepth 100000 in
theorem bof_all : (List.range 8192).all (fun s => decide (s = 0 ∨ (cntB s.testBit 13 = cntB (s &&& (s - 1)).testBit 13 + 1 ∧ s &&& (s - 1) < s))) = true := by decide +kernel
theorem wM_bitsOf {G : GH} {s : Nat} {post : Int32 → GH → Prop} (hs : s < 8192) (hp : post (zI (cntB s.testBit 13)) G) : wp_X8_bitsOf post (zI s) G := by
  unfold wp_X8_bitsOf
  intro P4 K4
  have main : ∀ f k t : Nat, t < 8192 → t ≤ f → k ≤ 13 → k + cntB t.testBit 13 = cntB s.testBit 13 → P4 (zI k) (zI t) G := by
    intro f
    induction f with
    | zero =>
      intro k t ht hf hk he
      have : t = 0 := by omega
      subst this
      refine K4 _ _ _ ?_
      unfold lb_X8_bitsOf_4
      refine br_t rfl ?_
      have e : cntB (Nat.testBit 0) 13 = 0 := by decide
      rw [← he, e] at hp
      exact hp
    | succ f ih =>
      intro k t ht hf hk he
      have hc := cntB_le s.testBit 13
      refine K4 _ _ _ ?_
      unfold lb_X8_bitsOf_4
      by_cases q : t = 0
      · subst q
        refine br_t rfl ?_
        have e : cntB (Nat.testBit 0) 13 = 0 := by decide
        rw [← he, e] at hp
        exact hp
      · refine br_f (by rw [zl0, zI_eq (by omega)]; omega) ?_
        have h := List.all_eq_true.mp bof_all t (List.mem_range.mpr ht)
        rw [decide_eq_true_eq] at h
        have h := h.resolve_left q
        rintro _ rfl
        rw [zl1, zI_sub, zI_add, show ((t : Int) - 1) = ((t - 1 : Nat) : Int) by omega, zI_and]
        exact ih (k + 1) (t &&& (t - 1)) (by omega) (by omega) (by omega) (by omega)
  exact main s 0 s hs (Nat.le_refl _) (by omega) (by omega)
