/-! ===== numbers: an int of the machine as the image of a whole number ===== -/
def zI (z : Int) : Int32 := Int32.ofInt z
theorem zI_lit (n : Nat) : (OfNat.ofNat n : Int32) = zI (OfNat.ofNat n : Int) := (Int32.ofInt_eq_ofNat (n := n)).symm
theorem zI_nI (n : Nat) : nI n = zI n := (Int32.ofInt_eq_ofNat (n := n)).symm
theorem zI_neg (a : Int) : -zI a = zI (-a) := (Int32.ofInt_neg a).symm
theorem zI_add (a b : Int) : zI a + zI b = zI (a + b) := (Int32.ofInt_add a b).symm
theorem zI_sub (a b : Int) : zI a - zI b = zI (a - b) := (Int32.ofInt_sub a b).symm
theorem zI_mul (a b : Int) : zI a * zI b = zI (a * b) := (Int32.ofInt_mul a b).symm
theorem zI_toInt {a : Int} (h : -2147483648 ≤ a ∧ a ≤ 2147483647) : (zI a).toInt = a := Int32.toInt_ofInt_of_le h.1 (by omega)
theorem zI_cl {a : Int} (h : -2147483648 ≤ a ∧ a ≤ 2147483647) : (zI a).toNatClampNeg = a.toNat := by
  show (zI a).toInt.toNat = _
  rw [zI_toInt h]
theorem zI_clN {n : Nat} (h : n ≤ 2147483647) : (zI n).toNatClampNeg = n := by
  rw [zI_cl (by omega)]
  omega
theorem zI_le {a b : Int} (h : (-2147483648 ≤ a ∧ a ≤ 2147483647) ∧ -2147483648 ≤ b ∧ b ≤ 2147483647) : (zI a ≤ zI b) = (a ≤ b) := by
  rw [Int32.le_iff_toInt_le, zI_toInt h.1, zI_toInt h.2]
theorem zI_lt {a b : Int} (h : (-2147483648 ≤ a ∧ a ≤ 2147483647) ∧ -2147483648 ≤ b ∧ b ≤ 2147483647) : (zI a < zI b) = (a < b) := by
  rw [Int32.lt_iff_toInt_lt, zI_toInt h.1, zI_toInt h.2]
theorem zI_eq {a b : Int} (h : (-2147483648 ≤ a ∧ a ≤ 2147483647) ∧ -2147483648 ≤ b ∧ b ≤ 2147483647) : (zI a = zI b) = (a = b) := by
  rw [← Int32.toInt_inj, zI_toInt h.1, zI_toInt h.2]
theorem zI_in {a : Int} {n : Nat} (h : 0 ≤ a ∧ a < n ∧ a ≤ 2147483647) : vp_in (zI a) n := by
  rw [vp_in_iff, zI_toInt (by omega)]
  omega
theorem zI_inI {a : Int} {n : Nat} (h : -2147483648 ≤ a ∧ a ≤ 2147483647) : vp_in (zI a) n = (0 ≤ a ∧ a < n) := by
  rw [vp_in_iff, zI_toInt h]
theorem zI_of (x : Int32) : x = zI x.toInt := (Int32.ofInt_toInt x).symm
theorem zI_rg (x : Int32) : ∃ a : Int, x = zI a ∧ -2147483648 ≤ a ∧ a ≤ 2147483647 := ⟨x.toInt, zI_of x, Int32.le_toInt x, Int32.toInt_le x⟩
theorem zI_div {a b : Int} (h : (0 ≤ a ∧ a ≤ 2147483647) ∧ 0 < b ∧ b ≤ 2147483647) : zI a / zI b = zI (a / b) := by
  have e : a.tdiv b = a / b := Int.tdiv_eq_ediv_of_nonneg h.1.1
  rw [← e]
  exact (Int32.ofInt_tdiv (by show (-2147483648 : Int) ≤ a; omega) (by show a ≤ (2147483647 : Int); omega) (by show (-2147483648 : Int) ≤ b; omega) (by show b ≤ (2147483647 : Int); omega)).symm
theorem zI_max {a b : Int} (h : (-2147483648 ≤ a ∧ a ≤ 2147483647) ∧ -2147483648 ≤ b ∧ b ≤ 2147483647) : imax (zI a) (zI b) = zI (max a b) := by
  unfold imax
  have e := zI_lt h
  by_cases q : a < b
  · rw [if_pos (by rw [e]; exact q)]; congr 1; omega
  · rw [if_neg (by rw [e]; exact q)]; congr 1; omega
theorem zI_min {a b : Int} (h : (-2147483648 ≤ a ∧ a ≤ 2147483647) ∧ -2147483648 ≤ b ∧ b ≤ 2147483647) : imin (zI a) (zI b) = zI (min a b) := by
  unfold imin
  have e := zI_lt ⟨h.2, h.1⟩
  by_cases q : b < a
  · rw [if_pos (by rw [e]; exact q)]; congr 1; omega
  · rw [if_neg (by rw [e]; exact q)]; congr 1; omega
theorem zI_nb {a : Int} (h : -128 ≤ a ∧ a ≤ 127) : nb (zI a) = zI a := by
  rw [nb_eq]
  apply Int32.toInt_inj.mp
  rw [Int8.toInt_toInt32, zI_toInt (by omega)]
  show ((Int32.ofInt a).toInt8).toInt = a
  rw [Int32.toInt8_ofInt]
  exact Int8.toInt_ofInt_of_le (by omega) (by omega)
theorem zI_nbG (a : Int) : nb (zI a) = zI (a.bmod 256) := by
  rw [nb_eq]
  apply Int32.toInt_inj.mp
  have h1 : -128 ≤ a.bmod 256 := by have := @Int.le_bmod a 256 (by decide); omega
  have h2 : a.bmod 256 < 128 := by have := @Int.bmod_lt a 256 (by decide); omega
  rw [Int8.toInt_toInt32, zI_toInt (by omega)]
  show ((Int32.ofInt a).toInt8).toInt = _
  rw [Int32.toInt8_ofInt, Int8.toInt_ofInt]
theorem zI_cg {a b : Int} (h : a = b) : zI a = zI b := congrArg zI h
/-! bits of sets -/
theorem zI_or (s t : Nat) : zI s ||| zI t = zI ((s ||| t : Nat) : Int) := by
  rw [← zI_nI, ← zI_nI, ← zI_nI]
  apply Int32.toBitVec_inj.mp
  exact (BitVec.ofNat_or (w := 32) (x := s) (y := t)).symm
theorem zI_and (s t : Nat) : zI s &&& zI t = zI ((s &&& t : Nat) : Int) := by
  rw [← zI_nI, ← zI_nI, ← zI_nI]
  apply Int32.toBitVec_inj.mp
  exact (BitVec.ofNat_and (w := 32) (x := s) (y := t)).symm
def bdf (s t : Nat) : Nat := s &&& (t ^^^ 4294967295)
theorem bdf_tb {s t i : Nat} (hs : s < 4294967296) : (bdf s t).testBit i = (s.testBit i && !t.testBit i) := by
  unfold bdf
  rw [Nat.testBit_and, Nat.testBit_xor, show (4294967295 : Nat) = 2 ^ 32 - 1 from rfl, Nat.testBit_two_pow_sub_one]
  by_cases h : i < 32
  · simp [h]
  · have : s.testBit i = false := Nat.testBit_lt_two_pow (Nat.lt_of_lt_of_le hs (Nat.pow_le_pow_right (n := 2) (by decide) (by omega : 32 ≤ i)))
    simp [this]
theorem bdf_le (s t : Nat) : bdf s t ≤ s := Nat.and_le_left
theorem zI_dif {s t : Nat} (ht : t < 4294967296) : zI s &&& ~~~ zI t = zI ((bdf s t : Nat) : Int) := by
  rw [← zI_nI, ← zI_nI, ← zI_nI]
  apply Int32.toBitVec_inj.mp
  show BitVec.ofNat 32 s &&& ~~~ BitVec.ofNat 32 t = BitVec.ofNat 32 (bdf s t)
  unfold bdf
  rw [BitVec.ofNat_and]
  congr 1
  apply BitVec.eq_of_getLsbD_eq
  intro i hi
  simp only [BitVec.getLsbD_not, BitVec.getLsbD_ofNat, hi, decide_true, Bool.true_and]
  rw [Nat.testBit_xor, show (4294967295 : Nat) = 2 ^ 32 - 1 from rfl, Nat.testBit_two_pow_sub_one]
  simp [hi]
theorem sm_k {k : Nat} (h : k < 32) : ((zI k &&& 31).toBitVec.smod 32).toNat = k := by
  have := (by decide : ∀ k : Fin 32, ((Int32.ofInt (k.val : Int) &&& 31).toBitVec.smod 32).toNat = k.val) ⟨k, h⟩
  exact this
theorem zI_shl {s k : Nat} (hk : k < 32) (h : s * 2 ^ k < 4294967296) : zI s <<< (zI k &&& 31) = zI ((s * 2 ^ k : Nat) : Int) := by
  rw [← zI_nI s, ← zI_nI (s * 2 ^ k)]
  exact pk_shlN _ k (sm_k hk) h
theorem zI_bit {k : Nat} (hk : k < 32) : (1 : Int32) <<< (zI k &&& 31) = zI ((2 ^ k : Nat) : Int) := by
  have h : 1 * 2 ^ k < 4294967296 := by
    have := Nat.pow_lt_pow_right (a := 2) (by decide) hk
    omega
  have := zI_shl (s := 1) hk h
  rw [Nat.one_mul] at this
  exact this
theorem zI_shr {s k : Nat} (hk : k < 32) (h : s < 2147483648) : zI s >>> (zI k &&& 31) = zI ((s / 2 ^ k : Nat) : Int) := by
  rw [← zI_nI s, ← zI_nI (s / 2 ^ k)]
  exact pk_shrN h _ k (sm_k hk)
theorem zI_tb {s k : Nat} (hk : k < 32) (h : s < 2147483648) : (zI s >>> (zI k &&& 31)) &&& 1 = zI ((s.testBit k).toNat : Int) := by
  rw [zI_shr hk h, show (1 : Int32) = zI ((1 : Nat) : Int) from rfl, zI_and, Nat.and_one_is_mod, Nat.testBit_eq_decide_div_mod_eq]
  congr 2
  rcases Nat.mod_two_eq_zero_or_one (s / 2 ^ k) with e | e <;> simp [e]
theorem wI_isIn {post : Bool → GH → Prop} {k s : Nat} {G : GH} (hk : k < 32) (h : s < 2147483648) : wp_X7_isIn post (zI k) (zI s) G = post (s.testBit k) G := by
  unfold wp_X7_isIn
  rw [zI_tb hk h]
  cases s.testBit k <;> simp [zI]
theorem wM_has {post : Bool → GH → Prop} {k s : Nat} {G : GH} (hk : k < 32) (h : s < 2147483648) : wp_X8_has post (zI s) (zI k) G = post (s.testBit k) G := by
  unfold wp_X8_has
  rw [zI_tb hk h]
  cases s.testBit k <;> simp [zI]
theorem wM_within {post : Bool → GH → Prop} {a b c : Int} {G : GH} (h : (-2147483648 ≤ a ∧ a ≤ 2147483647) ∧ (-2147483648 ≤ b ∧ b ≤ 2147483647) ∧ -2147483648 ≤ c ∧ c ≤ 2147483647) : wp_X8_within post (zI a) (zI b) (zI c) G = post (decide (b ≤ a ∧ a ≤ c)) G := by
  unfold wp_X8_within
  simp only [zI_lt ⟨h.1, h.2.1⟩, zI_lt ⟨h.2.2, h.1⟩]
  by_cases h1 : a < b
  · simp [h1, Int.not_le.mpr h1]
  · by_cases h2 : c < a
    · simp [h1, h2, Int.not_le.mpr h2]
    · simp [h1, h2, Int.not_lt.mp h1, Int.not_lt.mp h2]
