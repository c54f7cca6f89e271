/-! ===== numbers: an int of the machine as the image of a whole number ===== -/
def zI (z : Int) : Int32 := Int32.ofInt z
theorem zI_lit (n : Nat) : (OfNat.ofNat n : Int32) = zI (OfNat.ofNat n : Int) := (Int32.ofInt_eq_ofNat (n := n)).symm
theorem zl0 : (0 : Int32) = zI 0 := rfl
theorem zl1 : (1 : Int32) = zI 1 := rfl
theorem zl2 : (2 : Int32) = zI 2 := rfl
theorem zl3 : (3 : Int32) = zI 3 := rfl
theorem zl4 : (4 : Int32) = zI 4 := rfl
theorem zl5 : (5 : Int32) = zI 5 := rfl
theorem zl6 : (6 : Int32) = zI 6 := rfl
theorem zl7 : (7 : Int32) = zI 7 := rfl
theorem zl8 : (8 : Int32) = zI 8 := rfl
theorem zl9 : (9 : Int32) = zI 9 := rfl
theorem zl10 : (10 : Int32) = zI 10 := rfl
theorem zl11 : (11 : Int32) = zI 11 := rfl
theorem zl12 : (12 : Int32) = zI 12 := rfl
theorem zl13 : (13 : Int32) = zI 13 := rfl
theorem zl14 : (14 : Int32) = zI 14 := rfl
theorem zl15 : (15 : Int32) = zI 15 := rfl
theorem zl16 : (16 : Int32) = zI 16 := rfl
theorem zl17 : (17 : Int32) = zI 17 := rfl
theorem zl18 : (18 : Int32) = zI 18 := rfl
theorem zl19 : (19 : Int32) = zI 19 := rfl
theorem zl20 : (20 : Int32) = zI 20 := rfl
theorem zl21 : (21 : Int32) = zI 21 := rfl
theorem zl22 : (22 : Int32) = zI 22 := rfl
theorem zl23 : (23 : Int32) = zI 23 := rfl
theorem zl24 : (24 : Int32) = zI 24 := rfl
theorem zl25 : (25 : Int32) = zI 25 := rfl
theorem zl26 : (26 : Int32) = zI 26 := rfl
theorem zl27 : (27 : Int32) = zI 27 := rfl
theorem zl28 : (28 : Int32) = zI 28 := rfl
theorem zl29 : (29 : Int32) = zI 29 := rfl
theorem zl30 : (30 : Int32) = zI 30 := rfl
theorem zl31 : (31 : Int32) = zI 31 := rfl
theorem zl32 : (32 : Int32) = zI 32 := rfl
theorem zl33 : (33 : Int32) = zI 33 := rfl
theorem zl34 : (34 : Int32) = zI 34 := rfl
theorem zl35 : (35 : Int32) = zI 35 := rfl
theorem zl36 : (36 : Int32) = zI 36 := rfl
theorem zl48 : (48 : Int32) = zI 48 := rfl
theorem zl50 : (50 : Int32) = zI 50 := rfl
theorem zl51 : (51 : Int32) = zI 51 := rfl
theorem zl57 : (57 : Int32) = zI 57 := rfl
theorem zl60 : (60 : Int32) = zI 60 := rfl
theorem zl63 : (63 : Int32) = zI 63 := rfl
theorem zl97 : (97 : Int32) = zI 97 := rfl
theorem zl100 : (100 : Int32) = zI 100 := rfl
theorem zl104 : (104 : Int32) = zI 104 := rfl
theorem zl107 : (107 : Int32) = zI 107 := rfl
theorem zl120 : (120 : Int32) = zI 120 := rfl
theorem zl122 : (122 : Int32) = zI 122 := rfl
theorem zl125 : (125 : Int32) = zI 125 := rfl
theorem zl129 : (129 : Int32) = zI 129 := rfl
theorem zl130 : (130 : Int32) = zI 130 := rfl
theorem zl169 : (169 : Int32) = zI 169 := rfl
theorem zl200 : (200 : Int32) = zI 200 := rfl
theorem zl255 : (255 : Int32) = zI 255 := rfl
theorem zl260 : (260 : Int32) = zI 260 := rfl
theorem zl468 : (468 : Int32) = zI 468 := rfl
theorem zl681 : (681 : Int32) = zI 681 := rfl
theorem zl700 : (700 : Int32) = zI 700 := rfl
theorem zl999 : (999 : Int32) = zI 999 := rfl
theorem zl1000000 : (1000000 : Int32) = zI 1000000 := rfl
theorem zl8172 : (8172 : Int32) = zI 8172 := rfl
theorem zl100000 : (100000 : Int32) = zI 100000 := rfl
theorem zl1023 : (1023 : Int32) = zI 1023 := rfl
theorem zl9999 : (9999 : Int32) = zI 9999 := rfl
theorem zl10000 : (10000 : Int32) = zI 10000 := rfl
theorem zI_nI (n : Nat) : nI n = zI n := (Int32.ofInt_eq_ofNat (n := n)).symm
theorem zI_neg (a : Int) : -zI a = zI (-a) := (Int32.ofInt_neg a).symm
theorem zI_add (a b : Int) : zI a + zI b = zI (a + b) := (Int32.ofInt_add a b).symm
theorem zI_sub (a b : Int) : zI a - zI b = zI (a - b) := (Int32.ofInt_sub a b).symm
theorem zI_mul (a b : Int) : zI a * zI b = zI (a * b) := (Int32.ofInt_mul a b).symm
theorem zI_toInt {a : Int} (h : -2147483648 ≤ a ∧ a ≤ 2147483647) : (zI a).toInt = a := Int32.toInt_ofInt_of_le h.1 (by omega)
theorem zI_cl {a : Int} (h : -2147483648 ≤ a ∧ a ≤ 2147483647) : (zI a).toNatClampNeg = a.toNat := by
  show (zI a).toInt.toNat = _
  rw [zI_toInt h]
theorem zI_clN {n : Nat} (h : n ≤ 2147483647) : (zI n).toNatClampNeg = n := by
  rw [zI_cl (by omega)]
  omega
theorem zI_le {a b : Int} (h : (-2147483648 ≤ a ∧ a ≤ 2147483647) ∧ -2147483648 ≤ b ∧ b ≤ 2147483647) : (zI a ≤ zI b) = (a ≤ b) := by
  rw [Int32.le_iff_toInt_le, zI_toInt h.1, zI_toInt h.2]
theorem zI_lt {a b : Int} (h : (-2147483648 ≤ a ∧ a ≤ 2147483647) ∧ -2147483648 ≤ b ∧ b ≤ 2147483647) : (zI a < zI b) = (a < b) := by
  rw [Int32.lt_iff_toInt_lt, zI_toInt h.1, zI_toInt h.2]
theorem zI_eq {a b : Int} (h : (-2147483648 ≤ a ∧ a ≤ 2147483647) ∧ -2147483648 ≤ b ∧ b ≤ 2147483647) : (zI a = zI b) = (a = b) := by
  rw [← Int32.toInt_inj, zI_toInt h.1, zI_toInt h.2]
theorem zI_in {a : Int} {n : Nat} (h : 0 ≤ a ∧ a < n ∧ a ≤ 2147483647) : vp_in (zI a) n := by
  rw [vp_in_iff, zI_toInt (by omega)]
  omega
theorem zI_inI {a : Int} {n : Nat} (h : -2147483648 ≤ a ∧ a ≤ 2147483647) : vp_in (zI a) n = (0 ≤ a ∧ a < n) := by
  rw [vp_in_iff, zI_toInt h]
theorem zI_of (x : Int32) : x = zI x.toInt := (Int32.ofInt_toInt x).symm
theorem zI_rg (x : Int32) : ∃ a : Int, x = zI a ∧ -2147483648 ≤ a ∧ a ≤ 2147483647 := ⟨x.toInt, zI_of x, Int32.le_toInt x, Int32.toInt_le x⟩
theorem zI_div {a b : Int} (h : (0 ≤ a ∧ a ≤ 2147483647) ∧ 0 < b ∧ b ≤ 2147483647) : zI a / zI b = zI (a / b) := by
  have e : a.tdiv b = a / b := Int.tdiv_eq_ediv_of_nonneg h.1.1
  rw [← e]
  exact (Int32.ofInt_tdiv (by show (-2147483648 : Int) ≤ a; omega) (by show a ≤ (2147483647 : Int); omega) (by show (-2147483648 : Int) ≤ b; omega) (by show b ≤ (2147483647 : Int); omega)).symm
theorem zI_max {a b : Int} (h : (-2147483648 ≤ a ∧ a ≤ 2147483647) ∧ -2147483648 ≤ b ∧ b ≤ 2147483647) : imax (zI a) (zI b) = zI (max a b) := by
  unfold imax
  have e := zI_lt h
  by_cases q : a < b
  · rw [if_pos (by rw [e]; exact q)]; congr 1; omega
  · rw [if_neg (by rw [e]; exact q)]; congr 1; omega
theorem zI_min {a b : Int} (h : (-2147483648 ≤ a ∧ a ≤ 2147483647) ∧ -2147483648 ≤ b ∧ b ≤ 2147483647) : imin (zI a) (zI b) = zI (min a b) := by
  unfold imin
  have e := zI_lt ⟨h.2, h.1⟩
  by_cases q : b < a
  · rw [if_pos (by rw [e]; exact q)]; congr 1; omega
  · rw [if_neg (by rw [e]; exact q)]; congr 1; omega
theorem zI_nb {a : Int} (h : -128 ≤ a ∧ a ≤ 127) : nb (zI a) = zI a := by
  rw [nb_eq]
  apply Int32.toInt_inj.mp
  rw [Int8.toInt_toInt32, zI_toInt (by omega)]
  show ((Int32.ofInt a).toInt8).toInt = a
  rw [Int32.toInt8_ofInt]
  exact Int8.toInt_ofInt_of_le (by omega) (by omega)
theorem zI_nbG (a : Int) : nb (zI a) = zI (a.bmod 256) := by
  rw [nb_eq]
  apply Int32.toInt_inj.mp
  have h1 : -128 ≤ a.bmod 256 := by have := @Int.le_bmod a 256 (by decide); omega
  have h2 : a.bmod 256 < 128 := by have := @Int.bmod_lt a 256 (by decide); omega
  rw [Int8.toInt_toInt32, zI_toInt (by omega)]
  show ((Int32.ofInt a).toInt8).toInt = _
  rw [Int32.toInt8_ofInt, Int8.toInt_ofInt]
theorem zI_cg {a b : Int} (h : a = b) : zI a = zI b := congrArg zI h
/-! bits of sets -/
theorem zI_or (s t : Nat) : zI s ||| zI t = zI ((s ||| t : Nat) : Int) := by
  rw [← zI_nI, ← zI_nI, ← zI_nI]
  apply Int32.toBitVec_inj.mp
  exact (BitVec.ofNat_or (w := 32) (x := s) (y := t)).symm
theorem zI_and (s t : Nat) : zI s &&& zI t = zI ((s &&& t : Nat) : Int) := by
  rw [← zI_nI, ← zI_nI, ← zI_nI]
  apply Int32.toBitVec_inj.mp
  exact (BitVec.ofNat_and (w := 32) (x := s) (y := t)).symm
def bdf (s t : Nat) : Nat := s &&& (t ^^^ 4294967295)
theorem bdf_tb {s t i : Nat} (hs : s < 4294967296) : (bdf s t).testBit i = (s.testBit i && !t.testBit i) := by
  unfold bdf
  rw [Nat.testBit_and, Nat.testBit_xor, show (4294967295 : Nat) = 2 ^ 32 - 1 from rfl, Nat.testBit_two_pow_sub_one]
  by_cases h : i < 32
  · simp [h]
  · have : s.testBit i = false := Nat.testBit_lt_two_pow (Nat.lt_of_lt_of_le hs (Nat.pow_le_pow_right (n := 2) (by decide) (by omega : 32 ≤ i)))
    simp [this]
theorem bdf_le (s t : Nat) : bdf s t ≤ s := Nat.and_le_left
theorem zI_dif {s t : Nat} (ht : t < 4294967296) : zI s &&& ~~~ zI t = zI ((bdf s t : Nat) : Int) := by
  rw [← zI_nI, ← zI_nI, ← zI_nI]
  apply Int32.toBitVec_inj.mp
  show BitVec.ofNat 32 s &&& ~~~ BitVec.ofNat 32 t = BitVec.ofNat 32 (bdf s t)
  unfold bdf
  rw [BitVec.ofNat_and]
  congr 1
  apply BitVec.eq_of_getLsbD_eq
  intro i hi
  simp only [BitVec.getLsbD_not, BitVec.getLsbD_ofNat, hi, decide_true, Bool.true_and]
  rw [Nat.testBit_xor, show (4294967295 : Nat) = 2 ^ 32 - 1 from rfl, Nat.testBit_two_pow_sub_one]
  simp [hi]
theorem sm_k {k : Nat} (h : k < 32) : ((zI k &&& 31).toBitVec.smod 32).toNat = k := by
  have := (by decide : ∀ k : Fin 32, ((Int32.ofInt (k.val : Int) &&& 31).toBitVec.smod 32).toNat = k.val) ⟨k, h⟩
  exact this
theorem zI_shl {s k : Nat} (hk : k < 32) (h : s * 2 ^ k < 4294967296) : zI s <<< (zI k &&& 31) = zI ((s * 2 ^ k : Nat) : Int) := by
  rw [← zI_nI s, ← zI_nI (s * 2 ^ k)]
  exact pk_shlN _ k (sm_k hk) h
theorem zI_bit {k : Nat} (hk : k < 32) : (1 : Int32) <<< (zI k &&& 31) = zI ((2 ^ k : Nat) : Int) := by
  have h : 1 * 2 ^ k < 4294967296 := by
    have := Nat.pow_lt_pow_right (a := 2) (by decide) hk
    omega
  have := zI_shl (s := 1) hk h
  rw [Nat.one_mul] at this
  exact this
theorem zI_shr {s k : Nat} (hk : k < 32) (h : s < 2147483648) : zI s >>> (zI k &&& 31) = zI ((s / 2 ^ k : Nat) : Int) := by
  rw [← zI_nI s, ← zI_nI (s / 2 ^ k)]
  exact pk_shrN h _ k (sm_k hk)
theorem zI_tb {s k : Nat} (hk : k < 32) (h : s < 2147483648) : (zI s >>> (zI k &&& 31)) &&& 1 = zI ((s.testBit k).toNat : Int) := by
  rw [zI_shr hk h, show (1 : Int32) = zI ((1 : Nat) : Int) from rfl, zI_and, Nat.and_one_is_mod, Nat.testBit_eq_decide_div_mod_eq]
  congr 2
  rcases Nat.mod_two_eq_zero_or_one (s / 2 ^ k) with e | e <;> simp [e]
theorem wI_isIn {post : Bool → GH → Prop} {k s : Nat} {G : GH} (hk : k < 32) (h : s < 2147483648) : wp_X7_isIn post (zI k) (zI s) G = post (s.testBit k) G := by
  unfold wp_X7_isIn
  rw [zI_tb hk h]
  cases s.testBit k <;> simp [zI]
theorem wM_has {post : Bool → GH → Prop} {k s : Nat} {G : GH} (hk : k < 32) (h : s < 2147483648) : wp_X8_has post (zI s) (zI k) G = post (s.testBit k) G := by
  unfold wp_X8_has
  rw [zI_tb hk h]
  cases s.testBit k <;> simp [zI]
theorem wM_within {post : Bool → GH → Prop} {a b c : Int} {G : GH} (h : (-2147483648 ≤ a ∧ a ≤ 2147483647) ∧ (-2147483648 ≤ b ∧ b ≤ 2147483647) ∧ -2147483648 ≤ c ∧ c ≤ 2147483647) : wp_X8_within post (zI a) (zI b) (zI c) G = post (decide (b ≤ a ∧ a ≤ c)) G := by
  unfold wp_X8_within
  simp only [zI_lt ⟨h.1, h.2.1⟩, zI_lt ⟨h.2.2, h.1⟩]
  by_cases h1 : a < b
  · simp [h1, Int.not_le.mpr h1]
  · by_cases h2 : c < a
    · simp [h1, h2, Int.not_le.mpr h2]
    · simp [h1, h2, Int.not_lt.mp h1, Int.not_lt.mp h2]
