/-! ===== the register as a row of numbers (lands, marks, rules, neighbours, then 51 places for each mark) ===== -/
abbrev RR : Type := Nat → Nat
def qq (R : RR) (m w : Nat) : Nat := R (18 + 51 * m + w)
def mst : Nat → Nat
  | 1 => 20 | 2 => 9 | 3 => 5 | 4 => 999 | _ => 100
def VR (n : Nat) (R : RR) : Prop := (1 ≤ R 0 ∧ R 0 ≤ 6) ∧ R 1 ≤ n ∧ (∀ w, w < 6 → R (2 + w) ≤ mst w) ∧ (∀ c, c < 10 → R (8 + c) < 1024) ∧ (∀ c d, c < 10 → d < 10 → (R (8 + c)).testBit d = (R (8 + d)).testBit c) ∧
  (∀ m, m < R 1 → (1 ≤ qq R m 0 ∧ qq R m 0 ≤ 10) ∧ (∀ k, k < qq R m 0 → 97 ≤ qq R m (1 + k) ∧ qq R m (1 + k) ≤ 122) ∧ qq R m 11 < 1024 ∧ qq R m 12 ≤ 9999 ∧ qq R m 13 ≤ 12 ∧ (∀ k, k < qq R m 13 → qq R m (14 + 3 * k) < 12 ∧ qq R m (15 + 3 * k) ≤ 9999 ∧ qq R m (16 + 3 * k) ≤ 9999) ∧ qq R m 50 < 8192)
def CR (R : RR) (A : Nat → Nat → Int32) : Prop := A 0 0 = zI (R 0) ∧ A 0 1 = zI (R 1) ∧ (∀ c, c < 10 → A 10 c = zI (R (8 + c))) ∧ (∀ w, w < 6 → A 11 w = zI (R (2 + w))) ∧
  (∀ m, m < R 1 → A 3 m = zI (qq R m 12) ∧ A 4 m = zI (qq R m 11) ∧ A 5 m = zI (qq R m 0) ∧ A 7 m = zI (qq R m 13) ∧ A 9 m = zI (qq R m 50) ∧ (∀ k, k < qq R m 0 → A 6 (10 * m + k) = zI ((qq R m (1 + k) : Int) - 97)) ∧ (∀ k j, k < qq R m 13 → j < 3 → A 8 (36 * m + 3 * k + j) = zI (qq R m (14 + 3 * k + j))))
def MR (R : RR) (f : Nat → Int32) : Prop := ∀ j, j < 681 → f j = zI (R j)
section
variable {n m : Nat} {R : RR} {A : Nat → Nat → Int32} {f : Nat → Int32}
theorem VR.l1 (h : VR n R) : 1 ≤ R 0 := h.1.1
theorem VR.l6 (h : VR n R) : R 0 ≤ 6 := h.1.2
theorem VR.mk (h : VR n R) : R 1 ≤ n := h.2.1
theorem VR.rl (h : VR n R) {w : Nat} (hw : w < 6) : R (2 + w) ≤ mst w := h.2.2.1 w hw
theorem VR.r0 (h : VR n R) : R 2 ≤ 100 := h.rl (w := 0) (by decide)
theorem VR.r1 (h : VR n R) : R 3 ≤ 20 := h.rl (w := 1) (by decide)
theorem VR.r2 (h : VR n R) : R 4 ≤ 9 := h.rl (w := 2) (by decide)
theorem VR.r3 (h : VR n R) : R 5 ≤ 5 := h.rl (w := 3) (by decide)
theorem VR.r4 (h : VR n R) : R 6 ≤ 999 := h.rl (w := 4) (by decide)
theorem VR.r5 (h : VR n R) : R 7 ≤ 100 := h.rl (w := 5) (by decide)
theorem VR.nb (h : VR n R) {c : Nat} (hc : c < 10) : R (8 + c) < 1024 := h.2.2.2.1 c hc
theorem VR.ns (h : VR n R) {c d : Nat} (hc : c < 10) (hd : d < 10) : (R (8 + c)).testBit d = (R (8 + d)).testBit c := h.2.2.2.2.1 c d hc hd
theorem VR.ln1 (h : VR n R) (hm : m < R 1) : 1 ≤ qq R m 0 := (h.2.2.2.2.2 m hm).1.1
theorem VR.ln (h : VR n R) (hm : m < R 1) : qq R m 0 ≤ 10 := (h.2.2.2.2.2 m hm).1.2
theorem VR.lt1 (h : VR n R) (hm : m < R 1) {k : Nat} (hk : k < qq R m 0) : 97 ≤ qq R m (1 + k) := ((h.2.2.2.2.2 m hm).2.1 k hk).1
theorem VR.lt2 (h : VR n R) (hm : m < R 1) {k : Nat} (hk : k < qq R m 0) : qq R m (1 + k) ≤ 122 := ((h.2.2.2.2.2 m hm).2.1 k hk).2
theorem VR.gd (h : VR n R) (hm : m < R 1) : qq R m 11 < 1024 := (h.2.2.2.2.2 m hm).2.2.1
theorem VR.fl (h : VR n R) (hm : m < R 1) : qq R m 12 ≤ 9999 := (h.2.2.2.2.2 m hm).2.2.2.1
theorem VR.uc (h : VR n R) (hm : m < R 1) : qq R m 13 ≤ 12 := (h.2.2.2.2.2 m hm).2.2.2.2.1
theorem VR.us0 (h : VR n R) (hm : m < R 1) {k : Nat} (hk : k < qq R m 13) : qq R m (14 + 3 * k) < 12 := ((h.2.2.2.2.2 m hm).2.2.2.2.2.1 k hk).1
theorem VR.us1 (h : VR n R) (hm : m < R 1) {k : Nat} (hk : k < qq R m 13) : qq R m (15 + 3 * k) ≤ 9999 := ((h.2.2.2.2.2 m hm).2.2.2.2.2.1 k hk).2.1
theorem VR.us2 (h : VR n R) (hm : m < R 1) {k : Nat} (hk : k < qq R m 13) : qq R m (16 + 3 * k) ≤ 9999 := ((h.2.2.2.2.2 m hm).2.2.2.2.2.1 k hk).2.2
theorem VR.cn (h : VR n R) (hm : m < R 1) : qq R m 50 < 8192 := (h.2.2.2.2.2 m hm).2.2.2.2.2.2
theorem CR.ld (h : CR R A) : A 0 0 = zI (R 0) := h.1
theorem CR.mk (h : CR R A) : A 0 1 = zI (R 1) := h.2.1
theorem CR.nb (h : CR R A) {c : Nat} (hc : c < 10) : A 10 c = zI (R (8 + c)) := h.2.2.1 c hc
theorem CR.rl (h : CR R A) {w : Nat} (hw : w < 6) : A 11 w = zI (R (2 + w)) := h.2.2.2.1 w hw
theorem CR.fl (h : CR R A) (hm : m < R 1) : A 3 m = zI (qq R m 12) := (h.2.2.2.2 m hm).1
theorem CR.gd (h : CR R A) (hm : m < R 1) : A 4 m = zI (qq R m 11) := (h.2.2.2.2 m hm).2.1
theorem CR.ln (h : CR R A) (hm : m < R 1) : A 5 m = zI (qq R m 0) := (h.2.2.2.2 m hm).2.2.1
theorem CR.uc (h : CR R A) (hm : m < R 1) : A 7 m = zI (qq R m 13) := (h.2.2.2.2 m hm).2.2.2.1
theorem CR.cn (h : CR R A) (hm : m < R 1) : A 9 m = zI (qq R m 50) := (h.2.2.2.2 m hm).2.2.2.2.1
theorem CR.lt (h : CR R A) (hm : m < R 1) {k : Nat} (hk : k < qq R m 0) : A 6 (10 * m + k) = zI ((qq R m (1 + k) : Int) - 97) := (h.2.2.2.2 m hm).2.2.2.2.2.1 k hk
theorem CR.us (h : CR R A) (hm : m < R 1) {k j : Nat} (hk : k < qq R m 13) (hj : j < 3) : A 8 (36 * m + 3 * k + j) = zI (qq R m (14 + 3 * k + j)) := (h.2.2.2.2 m hm).2.2.2.2.2.2 k j hk hj
theorem MR.at (h : MR R f) {j : Nat} (hj : j < 681) : f j = zI (R j) := h j hj
theorem MR.q (h : MR R f) {w : Nat} (hm : m < 13) (hw : w < 51) : f (18 + 51 * m + w) = zI (qq R m w) := h _ (by omega)
end
/-! simple methods of the class's register -/
section
variable {R : RR} {G : GH} {n o m : Nat} {post : Int32 → GH → Prop}
theorem wI_halfCount (hC : CR R (G o)) : wp_X4_halfCount post o G = post (zI (2 * R 0)) G := by
  unfold wp_X4_halfCount
  rw [hC.ld, zI_lit, zI_mul]
theorem wI_useAt {k : Nat} : wp_X4_useAt post o (zI m) (zI k) G = post (zI ((36 * m + 3 * k : Nat) : Int)) G := by
  unfold wp_X4_useAt
  rw [zI_lit, zI_lit, zI_mul, zI_mul, zI_add]
  congr 2
  omega
theorem pow_le13 {k : Nat} (h : k ≤ 13) : 2 ^ k ≤ 8192 := Nat.pow_le_pow_right (n := 2) (by decide) h
theorem wI_allMarks (hC : CR R (G o)) (hV : VR 13 R) : wp_X4_allMarks post o G = post (zI ((2 ^ R 1 - 1 : Nat) : Int)) G := by
  unfold wp_X4_allMarks
  have h1 := hV.mk
  have h2 := Nat.two_pow_pos (R 1)
  rw [hC.mk, zI_bit (by omega), zI_lit, zI_sub]
  congr 2
  have : ((2 ^ R 1 : Nat) : Int) - 1 = ((2 ^ R 1 - 1 : Nat) : Int) := by omega
  exact this
theorem wI_allHalves (hC : CR R (G o)) (hV : VR n R) : wp_X4_allHalves post o G = post (zI ((2 ^ (2 * R 0) - 1 : Nat) : Int)) G := by
  unfold wp_X4_allHalves
  have h1 := hV.l6
  have h2 := Nat.two_pow_pos (2 * R 0)
  rw [wI_halfCount hC, show (2 * (R 0 : Int)) = ((2 * R 0 : Nat) : Int) by omega, zI_bit (by omega), zI_lit, zI_sub]
  congr 2
  have : ((2 ^ (2 * R 0) : Nat) : Int) - 1 = ((2 ^ (2 * R 0) - 1 : Nat) : Int) := by omega
  exact this
end
