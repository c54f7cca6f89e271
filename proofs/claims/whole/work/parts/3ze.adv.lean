/-! ===== the next token, in the class ===== -/
def tkS (b : Nat → Nat) (n p : Nat) : Nat := run (fun i => blk (b i)) n n p
def tkK (b : Nat → Nat) (n p : Nat) : Nat := if n ≤ tkS b n p then 0 else if sml (b (tkS b n p)) then 1 else if fig (b (tkS b n p)) then 2 else 3
def tkE (b : Nat → Nat) (n p : Nat) : Nat := if n ≤ tkS b n p then tkS b n p else if sml (b (tkS b n p)) then run (fun i => sml (b i)) n n (tkS b n p) else if fig (b (tkS b n p)) then run (fun i => fig (b i)) n n (tkS b n p) else tkS b n p + 1
/-- the number that its first figures make, never above a cap -/
def vlN (cap : Nat) (b : Nat → Nat) (s : Nat) : Nat → Nat
  | 0 => 0
  | i + 1 => min cap (10 * vlN cap b s i + (b (s + i) - 48))
theorem vlN_le (cap : Nat) (b : Nat → Nat) (s : Nat) : ∀ i, vlN cap b s i ≤ cap
  | 0 => Nat.zero_le _
  | i + 1 => Nat.min_le_left _ _
def TB (b : Nat → Nat) (f : Nat → Int32) : Prop := ∀ j, j < 700 → f j = zI (sb (b j)) ∧ b j < 256
section
variable {G : GH} {b : Nat → Nat} {n p : Nat}
theorem TB.g {f : Nat → Int32} (h : TB b f) {j : Nat} (hj : j < 700) : nb (f j) = zI (sb (b j)) := by
  rw [(h j hj).1]
  apply zI_nb
  have := (h j hj).2
  unfold sb
  split <;> omega
theorem wI_isBlank {post : Bool → GH → Prop} {x : Nat} (hx : x < 256) (hp : post (blk x) G) : wp_X6_isBlank post (zI (sb x)) G := by
  unfold wp_X6_isBlank j_X6_isBlank_12
  have hr : -128 ≤ sb x ∧ sb x ≤ 127 ∧ (sb x = 32 ↔ x = 32) ∧ (sb x = 10 ↔ x = 10) := by
    unfold sb
    split <;> omega
  unfold blk at hp
  rw [zl32, zl10, zI_eq (by omega), zI_eq (by omega)]
  refine br_c (fun q => ?_) (fun q => br_c (fun q1 => ?_) (fun q1 => ?_))
  · rw [decide_eq_true (by omega)] at hp
    exact hp
  · rw [decide_eq_true (by omega)] at hp
    exact hp
  · rw [decide_eq_false (by omega)] at hp
    exact hp
theorem wI_isSmall {post : Bool → GH → Prop} {x : Nat} (hx : x < 256) (hp : post (sml x) G) : wp_X6_isSmall post (zI (sb x)) G := by
  unfold wp_X6_isSmall
  have hr : -128 ≤ sb x ∧ sb x ≤ 127 ∧ ((97 ≤ sb x ∧ sb x ≤ 122) ↔ (97 ≤ x ∧ x ≤ 122)) := by
    unfold sb
    split <;> omega
  unfold sml at hp
  rw [zl97, zl122, zI_lt (by omega), zI_lt (by omega)]
  refine br_c (fun q => ?_) (fun q => br_c (fun q1 => ?_) (fun q1 => ?_))
  · rw [decide_eq_false (by omega)] at hp
    exact hp
  · rw [decide_eq_false (by omega)] at hp
    exact hp
  · rw [decide_eq_true (by omega)] at hp
    exact hp
theorem wI_isFigure {post : Bool → GH → Prop} {x : Nat} (hx : x < 256) (hp : post (fig x) G) : wp_X6_isFigure post (zI (sb x)) G := by
  unfold wp_X6_isFigure
  have hr : -128 ≤ sb x ∧ sb x ≤ 127 ∧ ((48 ≤ sb x ∧ sb x ≤ 57) ↔ (48 ≤ x ∧ x ≤ 57)) := by
    unfold sb
    split <;> omega
  unfold fig at hp
  rw [zl48, zl57, zI_lt (by omega), zI_lt (by omega)]
  refine br_c (fun q => ?_) (fun q => br_c (fun q1 => ?_) (fun q1 => ?_))
  · rw [decide_eq_false (by omega)] at hp
    exact hp
  · rw [decide_eq_false (by omega)] at hp
    exact hp
  · rw [decide_eq_true (by omega)] at hp
    exact hp
end
