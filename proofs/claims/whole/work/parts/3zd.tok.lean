/-! ===== bytes and tokens ===== -/
def sb (x : Nat) : Int := if x < 128 then (x : Int) else (x : Int) - 256
def blk (x : Nat) : Bool := decide (x = 32 ∨ x = 10)
def sml (x : Nat) : Bool := decide (97 ≤ x ∧ x ≤ 122)
def fig (x : Nat) : Bool := decide (48 ≤ x ∧ x ≤ 57)
/-- the first place from p on, below n, where it isn't so -/
def run (q : Nat → Bool) (n : Nat) : Nat → Nat → Nat
  | 0, p => p
  | f + 1, p => if p < n ∧ q p = true then run q n f (p + 1) else p
theorem run_ge (q : Nat → Bool) (n : Nat) : ∀ f p, p ≤ run q n f p
  | 0, p => Nat.le_refl _
  | f + 1, p => by
    unfold run
    split
    · exact Nat.le_trans (Nat.le_succ p) (run_ge q n f (p + 1))
    · exact Nat.le_refl _
theorem run_le (q : Nat → Bool) (n : Nat) : ∀ f p, p ≤ n → run q n f p ≤ n
  | 0, p, h => h
  | f + 1, p, h => by
    unfold run
    split
    · rename_i w
      exact run_le q n f (p + 1) w.1
    · exact h
theorem run_st (q : Nat → Bool) (n : Nat) : ∀ f p, n ≤ p + f → ¬ (run q n f p < n ∧ q (run q n f p) = true)
  | 0, p, h => by
    unfold run
    omega
  | f + 1, p, h => by
    unfold run
    split
    · exact run_st q n f (p + 1) (by omega)
    · rename_i w
      exact w
theorem run_mo (q : Nat → Bool) (n : Nat) : ∀ f g p, n ≤ p + f → n ≤ p + g → run q n f p = run q n g p
  | 0, 0, _, _, _ => rfl
  | 0, g + 1, p, h, _ => by
    unfold run
    rw [if_neg (by omega)]
  | f + 1, 0, p, _, h => by
    unfold run
    rw [if_neg (by omega)]
  | f + 1, g + 1, p, h1, h2 => by
    unfold run
    split
    · exact run_mo q n f g (p + 1) (by omega) (by omega)
    · rfl
