/-! ===== the register changed: as rows of numbers ===== -/
def cpl (y : Bool) (s k : Nat) : Nat := if y then s ||| 2 ^ k else bdf s (2 ^ k)
theorem cpl_tb {y : Bool} {s k i : Nat} (hs : s < 4294967296) : (cpl y s k).testBit i = if i = k then y else s.testBit i := by
  unfold cpl
  cases y
  · rw [if_neg (by decide), bdf_tb hs, Nat.testBit_two_pow]
    by_cases w : i = k
    · rw [if_pos w, decide_eq_true w.symm]
      simp
    · rw [if_neg w, decide_eq_false (fun z => w z.symm)]
      simp
  · rw [if_pos rfl, Nat.testBit_or, Nat.testBit_two_pow]
    by_cases w : i = k
    · rw [if_pos w, decide_eq_true w.symm]
      simp
    · rw [if_neg w, decide_eq_false (fun z => w z.symm)]
      simp
theorem cpl_lt {y : Bool} {s k N : Nat} (hs : s < 2 ^ N) (hN : N ≤ 32) (hk : k < N) : cpl y s k < 2 ^ N := by
  have h32 : s < 4294967296 := Nat.lt_of_lt_of_le hs (Nat.pow_le_pow_right (n := 2) (by decide) hN)
  apply lt_tb
  intro i hi
  rw [cpl_tb h32] at hi
  by_cases w : i = k
  · omega
  · rw [if_neg w] at hi
    exact tb_lt hs hi
def jnR (y : Bool) (R : RR) (a c : Nat) : RR := fun i => if i = 8 + a then cpl y (R i) c else if i = 8 + c then cpl y (R i) a else R i
def cnR (y : Bool) (R : RR) (a c : Nat) : RR := fun i => if i = 18 + 51 * a + 50 then cpl y (R i) c else if i = 18 + 51 * c + 50 then cpl y (R i) a else R i
def ruR (R : RR) (k v : Nat) : RR := fun i => if i = 2 + k then v else R i
def ldR (R : RR) (v : Nat) : RR := fun i => if i = 0 then v else R i
def usR (R : RR) (m h f t : Nat) : RR := fun i => if i = 18 + 51 * m + (14 + 3 * qq R m 13) then h else if i = 18 + 51 * m + (15 + 3 * qq R m 13) then f else if i = 18 + 51 * m + (16 + 3 * qq R m 13) then t else if i = 18 + 51 * m + 13 then qq R m 13 + 1 else R i
def mkR (R : RR) (g : Nat → Nat) (len d s : Nat) : RR := fun i => if i = 1 then R 1 + 1 else if i < 18 + 51 * R 1 then R i else if i = 18 + 51 * R 1 then len else if i < 18 + 51 * R 1 + 1 + len then g (i - (18 + 51 * R 1 + 1)) else if i = 18 + 51 * R 1 + 11 then s else if i = 18 + 51 * R 1 + 12 then d else if i < 18 + 51 * R 1 + 51 then 0 else R i
section
variable {n : Nat} {R : RR}
/-! marks -/
section
variable {g : Nat → Nat} {len d s : Nat}
theorem mkR_lo {i : Nat} (h1 : i ≠ 1) (h : i < 18) : mkR R g len d s i = R i := by
  unfold mkR
  rw [if_neg h1, if_pos (by omega)]
theorem mkR_1 : mkR R g len d s 1 = R 1 + 1 := by
  unfold mkR
  rw [if_pos rfl]
theorem mkR_old {m w : Nat} (hm : m < R 1) (hw : w < 51) : qq (mkR R g len d s) m w = qq R m w := by
  unfold qq mkR
  rw [if_neg (by omega), if_pos (by omega)]
theorem mkR_n0 : qq (mkR R g len d s) (R 1) 0 = len := by
  unfold qq mkR
  rw [if_neg (by omega), if_neg (by omega), if_pos (by omega)]
theorem mkR_nk {k : Nat} (hk : k < len) : qq (mkR R g len d s) (R 1) (1 + k) = g k := by
  unfold qq mkR
  rw [if_neg (by omega), if_neg (by omega), if_neg (by omega), if_pos (by omega)]
  congr 1
  omega
theorem mkR_n11 (hl : len ≤ 10) : qq (mkR R g len d s) (R 1) 11 = s := by
  unfold qq mkR
  rw [if_neg (by omega), if_neg (by omega), if_neg (by omega), if_neg (by omega), if_pos rfl]
theorem mkR_n12 (hl : len ≤ 10) : qq (mkR R g len d s) (R 1) 12 = d := by
  unfold qq mkR
  rw [if_neg (by omega), if_neg (by omega), if_neg (by omega), if_neg (by omega), if_neg (by omega), if_pos rfl]
theorem mkR_z {w : Nat} (hl : len ≤ 10) (h1 : 13 ≤ w) (h2 : w < 51) : qq (mkR R g len d s) (R 1) w = 0 := by
  unfold qq mkR
  rw [if_neg (by omega), if_neg (by omega), if_neg (by omega), if_neg (by omega), if_neg (by omega), if_neg (by omega), if_pos (by omega)]
theorem mkR_V (hV : VR n R) (h1 : R 1 < n) (hl : 1 ≤ len ∧ len ≤ 10) (hg : ∀ k, k < len → 97 ≤ g k ∧ g k ≤ 122) (hd : d ≤ 9999) (hs : s < 1024) : VR n (mkR R g len d s) := by
  refine ⟨?_, ?_, ?_, ?_, ?_, ?_⟩
  · rw [mkR_lo (by decide) (by decide)]
    exact hV.1
  · rw [mkR_1]
    omega
  · intro w hw
    rw [mkR_lo (by omega) (by omega)]
    exact hV.rl hw
  · intro c hc
    rw [mkR_lo (by omega) (by omega)]
    exact hV.nb hc
  · intro c d hc hd
    rw [mkR_lo (by omega) (by omega), mkR_lo (by omega) (by omega)]
    exact hV.ns hc hd
  · intro m hm
    rw [mkR_1] at hm
    by_cases w : m = R 1
    · subst w
      rw [mkR_n0, mkR_n11 hl.2, mkR_n12 hl.2, mkR_z hl.2 (by decide) (by decide), mkR_z hl.2 (by decide) (by decide)]
      refine ⟨hl, fun k hk => ?_, hs, hd, by omega, fun k hk => by omega, by omega⟩
      rw [mkR_nk hk]
      exact hg k hk
    · have hm2 : m < R 1 := by omega
      have h := hV.2.2.2.2.2 m hm2
      have hln := hV.ln hm2
      have huc := hV.uc hm2
      rw [mkR_old hm2 (by decide), mkR_old hm2 (by decide), mkR_old hm2 (by decide), mkR_old hm2 (by decide), mkR_old hm2 (by decide)]
      refine ⟨h.1, fun k hk => ?_, h.2.2.1, h.2.2.2.1, h.2.2.2.2.1, fun k hk => ?_, h.2.2.2.2.2.2⟩
      · rw [mkR_old hm2 (by omega)]
        exact h.2.1 k hk
      · rw [mkR_old hm2 (by omega), mkR_old hm2 (by omega), mkR_old hm2 (by omega)]
        exact h.2.2.2.2.2.1 k hk
end
/-! neighbours, consents, rules, uses -/
theorem jnR_ne {y : Bool} {a c i : Nat} (h : i < 8 ∨ 18 ≤ i) (ha : a < 10) (hc : c < 10) : jnR y R a c i = R i := by
  unfold jnR
  rw [if_neg (by omega), if_neg (by omega)]
theorem jnR_tb {y : Bool} {a c x d : Nat} (hV : VR n R) (ha : a < 10) (hc : c < 10) (hx : x < 10) (hac : a ≠ c) : (jnR y R a c (8 + x)).testBit d = if (x = a ∧ d = c ∨ x = c ∧ d = a) then y else (R (8 + x)).testBit d := by
  have h1 := hV.nb hx
  unfold jnR
  by_cases w : x = a
  · subst w
    rw [if_pos rfl, cpl_tb (by omega)]
    by_cases z : d = c
    · rw [if_pos z, if_pos (Or.inl ⟨rfl, z⟩)]
    · rw [if_neg z, if_neg (by omega)]
  · rw [if_neg (by omega)]
    by_cases u : x = c
    · subst u
      rw [if_pos rfl, cpl_tb (by omega)]
      by_cases z : d = a
      · rw [if_pos z, if_pos (Or.inr ⟨rfl, z⟩)]
      · rw [if_neg z, if_neg (by omega)]
    · rw [if_neg (by omega), if_neg (by omega)]
theorem jnR_V {y : Bool} {a c : Nat} (hV : VR n R) (ha : a < 10) (hc : c < 10) (hac : a ≠ c) : VR n (jnR y R a c) := by
  have hq : ∀ m w, qq (jnR y R a c) m w = qq R m w := fun m w => jnR_ne (by omega) ha hc
  refine ⟨?_, ?_, ?_, ?_, ?_, ?_⟩
  · rw [jnR_ne (by omega) ha hc]
    exact hV.1
  · rw [jnR_ne (by omega) ha hc]
    exact hV.2.1
  · intro w hw
    rw [jnR_ne (by omega) ha hc]
    exact hV.rl hw
  · intro x hx
    have h1 := hV.nb hx
    unfold jnR
    split
    · exact cpl_lt (N := 10) h1 (by omega) hc
    · split
      · exact cpl_lt (N := 10) h1 (by omega) ha
      · exact h1
  · intro x d hx hd
    rw [jnR_tb hV ha hc hx hac, jnR_tb hV ha hc hd hac, hV.ns hx hd]
    by_cases w : x = a ∧ d = c ∨ x = c ∧ d = a
    · rw [if_pos w, if_pos (by omega)]
    · rw [if_neg w, if_neg (by omega)]
  · simp only [hq]
    rw [jnR_ne (by omega) ha hc]
    exact hV.2.2.2.2.2
theorem cnR_lo {y : Bool} {a c i : Nat} (h : i < 18) : cnR y R a c i = R i := by
  unfold cnR
  rw [if_neg (by omega), if_neg (by omega)]
theorem cnR_q {y : Bool} {a c m w : Nat} (hw : w < 50) : qq (cnR y R a c) m w = qq R m w := by
  unfold qq cnR
  rw [if_neg (by omega), if_neg (by omega)]
theorem cnR_50 {y : Bool} {a c m : Nat} : qq (cnR y R a c) m 50 = if m = a then cpl y (qq R m 50) c else if m = c then cpl y (qq R m 50) a else qq R m 50 := by
  unfold qq cnR
  by_cases w : m = a
  · rw [if_pos (by omega), if_pos w]
  · rw [if_neg (by omega), if_neg w]
    by_cases z : m = c
    · rw [if_pos (by omega), if_pos z]
    · rw [if_neg (by omega), if_neg z]
theorem cnR_V {y : Bool} {a c : Nat} (hV : VR n R) (ha : a < 13) (hc : c < 13) : VR n (cnR y R a c) := by
  refine ⟨?_, ?_, ?_, ?_, ?_, ?_⟩
  · rw [cnR_lo (by omega)]
    exact hV.1
  · rw [cnR_lo (by omega)]
    exact hV.2.1
  · intro w hw
    rw [cnR_lo (by omega)]
    exact hV.rl hw
  · intro x hx
    rw [cnR_lo (by omega)]
    exact hV.nb hx
  · intro x d hx hd
    rw [cnR_lo (by omega), cnR_lo (by omega)]
    exact hV.ns hx hd
  · intro m hm
    rw [cnR_lo (by omega)] at hm
    have h := hV.2.2.2.2.2 m hm
    have hln := hV.ln hm
    have huc := hV.uc hm
    rw [cnR_q (by omega), cnR_q (by omega), cnR_q (by omega), cnR_q (by omega)]
    refine ⟨h.1, fun k hk => ?_, h.2.2.1, h.2.2.2.1, h.2.2.2.2.1, fun k hk => ?_, ?_⟩
    · rw [cnR_q (by omega)]
      exact h.2.1 k hk
    · rw [cnR_q (by omega), cnR_q (by omega), cnR_q (by omega)]
      exact h.2.2.2.2.2.1 k hk
    · rw [cnR_50]
      have h5 := hV.cn hm
      split
      · exact cpl_lt (N := 13) h5 (by omega) hc
      · split
        · exact cpl_lt (N := 13) h5 (by omega) ha
        · exact h5
theorem ruR_q {k v m w : Nat} (hk : k < 6) : qq (ruR R k v) m w = qq R m w := by
  unfold qq ruR
  rw [if_neg (by omega)]
theorem ruR_ne {k v i : Nat} (h : i ≠ 2 + k) : ruR R k v i = R i := by
  unfold ruR
  rw [if_neg h]
theorem ruR_V {k v : Nat} (hV : VR n R) (hk : k < 6) (hv : v ≤ mst k) : VR n (ruR R k v) := by
  have hq : ∀ m w, qq (ruR R k v) m w = qq R m w := fun m w => ruR_q hk
  refine ⟨?_, ?_, ?_, ?_, ?_, ?_⟩
  · rw [ruR_ne (by omega)]
    exact hV.1
  · rw [ruR_ne (by omega)]
    exact hV.2.1
  · intro w hw
    unfold ruR
    split
    · rename_i z
      have : w = k := by omega
      subst this
      exact hv
    · exact hV.rl hw
  · intro x hx
    rw [ruR_ne (by omega)]
    exact hV.nb hx
  · intro x d hx hd
    rw [ruR_ne (by omega), ruR_ne (by omega)]
    exact hV.ns hx hd
  · simp only [hq]
    rw [ruR_ne (by omega)]
    exact hV.2.2.2.2.2
theorem usR_lo {m h f t i : Nat} (hi : i < 18) : usR R m h f t i = R i := by
  unfold usR
  rw [if_neg (by omega), if_neg (by omega), if_neg (by omega), if_neg (by omega)]
theorem usR_q {m h f t m' w : Nat} (hw : w < 51) (hu : qq R m 13 < 12) (hx : m' ≠ m ∨ w ≠ 13 ∧ w ≠ 14 + 3 * qq R m 13 ∧ w ≠ 15 + 3 * qq R m 13 ∧ w ≠ 16 + 3 * qq R m 13) : qq (usR R m h f t) m' w = qq R m' w := by
  show usR R m h f t (18 + 51 * m' + w) = _
  unfold usR
  rw [if_neg (by omega), if_neg (by omega), if_neg (by omega), if_neg (by omega)]
  rfl
theorem usR_13 {m h f t : Nat} : qq (usR R m h f t) m 13 = qq R m 13 + 1 := by
  show usR R m h f t (18 + 51 * m + 13) = _
  unfold usR
  rw [if_neg (by omega), if_neg (by omega), if_neg (by omega), if_pos rfl]
theorem usR_k {m h f t : Nat} : qq (usR R m h f t) m (14 + 3 * qq R m 13) = h ∧ qq (usR R m h f t) m (15 + 3 * qq R m 13) = f ∧ qq (usR R m h f t) m (16 + 3 * qq R m 13) = t := by
  refine ⟨?_, ?_, ?_⟩
  · show usR R m h f t (18 + 51 * m + (14 + 3 * qq R m 13)) = _
    unfold usR
    rw [if_pos rfl]
  · show usR R m h f t (18 + 51 * m + (15 + 3 * qq R m 13)) = _
    unfold usR
    rw [if_neg (by omega), if_pos rfl]
  · show usR R m h f t (18 + 51 * m + (16 + 3 * qq R m 13)) = _
    unfold usR
    rw [if_neg (by omega), if_neg (by omega), if_pos rfl]
theorem usR_V {m h f t : Nat} (hV : VR n R) (hu : qq R m 13 < 12) (hh : h < 12) (hf : f ≤ 9999) (ht : t ≤ 9999) : VR n (usR R m h f t) := by
  refine ⟨?_, ?_, ?_, ?_, ?_, ?_⟩
  · rw [usR_lo (by omega)]
    exact hV.1
  · rw [usR_lo (by omega)]
    exact hV.2.1
  · intro w hw
    rw [usR_lo (by omega)]
    exact hV.rl hw
  · intro x hx
    rw [usR_lo (by omega)]
    exact hV.nb hx
  · intro x d hx hd
    rw [usR_lo (by omega), usR_lo (by omega)]
    exact hV.ns hx hd
  · intro m' hm
    rw [usR_lo (by omega)] at hm
    have h0 := hV.2.2.2.2.2 m' hm
    have hln := hV.ln hm
    have huc := hV.uc hm
    rw [usR_q (w := 0) (by omega) hu (by omega), usR_q (w := 11) (by omega) hu (by omega), usR_q (w := 12) (by omega) hu (by omega), usR_q (w := 50) (by omega) hu (by omega)]
    have hk : ∀ k, k < qq R m' 13 → qq (usR R m h f t) m' (14 + 3 * k) < 12 ∧ qq (usR R m h f t) m' (15 + 3 * k) ≤ 9999 ∧ qq (usR R m h f t) m' (16 + 3 * k) ≤ 9999 := by
      intro k hk
      by_cases w : m' = m ∧ k = qq R m 13
      · obtain ⟨rfl, rfl⟩ := w
        omega
      · by_cases z : m' = m
        · subst z
          rw [usR_q (by omega) hu (by omega), usR_q (by omega) hu (by omega), usR_q (by omega) hu (by omega)]
          exact h0.2.2.2.2.2.1 k hk
        · rw [usR_q (by omega) hu (Or.inl z), usR_q (by omega) hu (Or.inl z), usR_q (by omega) hu (Or.inl z)]
          exact h0.2.2.2.2.2.1 k hk
    refine ⟨h0.1, fun k hk => ?_, h0.2.2.1, h0.2.2.2.1, ?_, fun k hk2 => ?_, h0.2.2.2.2.2.2⟩
    · rw [usR_q (by omega) hu (by omega)]
      exact h0.2.1 k hk
    · by_cases z : m' = m
      · subst z
        rw [usR_13]
        omega
      · rw [usR_q (by omega) hu (Or.inl z)]
        exact huc
    · by_cases z : m' = m
      · subst z
        rw [usR_13] at hk2
        by_cases u : k = qq R m' 13
        · subst u
          have := usR_k (R := R) (m := m') (h := h) (f := f) (t := t)
          rw [this.1, this.2.1, this.2.2]
          exact ⟨hh, hf, ht⟩
        · exact hk k (by omega)
      · rw [usR_q (by omega) hu (Or.inl z)] at hk2
        exact hk k hk2
end
