/-! ===== a question, read: as numbers ===== -/
abbrev QE : Type := (Nat → Int) → Bool
abbrev QR : Type := (Nat × Nat) ⊕ (Nat × QE)
def vlW (b : Nat → Nat) (n p : Nat) : Option Nat := if wdB b n p 20 = true then some 0 else if wdB b n p 21 = true then some 1 else if wdB b n p 22 = true then some 2 else if wdB b n p 23 = true then some 3 else if wdB b n p 24 = true then some 4 else if wdB b n p 25 = true then some 5 else if wdB b n p 26 = true then some 6 else if wdB b n p 27 = true then some 7 else if wdB b n p 28 = true then some 8 else none
def vlR (b : Nat → Nat) (n p : Nat) : (Nat × Nat) ⊕ (Int × Nat) := if tkK b n p = 2 then (if tkV b n p ≤ 9999 then .inr ((tkV b n p : Int), tkE b n p) else .inl (2, tkS b n p)) else match vlW b n p with
  | none => .inl (1, tkS b n p)
  | some i => .inr (-(i : Int) - 1, tkE b n p)
def vv (v : Int) (W : Nat → Int) : Int := if v < 0 then W (-v - 1).toNat else v
def sgK (b : Nat → Nat) (n p : Nat) : Option Nat := if sgB b n p 60 = true then some 0 else if sgB b n p 61 = true then some 1 else if sgB b n p 62 = true then some 2 else none
def cmpE (k : Nat) (l r : Int) : QE := fun W => if k = 0 then decide (vv l W < vv r W) else if k = 1 then decide (vv l W = vv r W) else decide (vv r W < vv l W)
def cmR2 (b : Nat → Nat) (n : Nat) (k : Nat) (x : Int × Nat) : QR := sB (vlR b n (tkE b n x.2)) fun y => .inr (y.2, cmpE k x.1 y.1)
def cmR1 (b : Nat → Nat) (n : Nat) (x : Int × Nat) : QR := match sgK b n x.2 with
  | none => .inl (1, tkS b n x.2)
  | some k => cmR2 b n k x
def cmR (b : Nat → Nat) (n p : Nat) : QR := sB (vlR b n p) (cmR1 b n)
def lpT (b : Nat → Nat) (n : Nat) (F : Nat → QR) : Nat → QE → QE → Nat → QR
  | 0, ms, bo, q => .inr (q, fun W => ms W || bo W)
  | f + 1, ms, bo, q => if wdB b n q 17 = true then (sB (F (tkE b n q)) fun x => lpT b n F f ms (fun W => bo W && x.2 W) x.1) else if wdB b n q 18 = true then (sB (F (tkE b n q)) fun x => lpT b n F f (fun W => ms W || bo W) x.2 x.1) else .inr (q, fun W => ms W || bo W)
def tsR (b : Nat → Nat) (n : Nat) (F : Nat → QR) (p : Nat) : QR := sB (F p) fun x => lpT b n F 201 (fun _ => false) x.2 x.1
def psF (b : Nat → Nat) (n : Nat) : Nat → Nat → QR
  | 0, p => if wdB b n p 19 = true ∨ sgB b n p 40 = true then .inl (3, tkS b n p) else cmR b n p
  | k + 1, p => if wdB b n p 19 = true then (sB (psF b n k (tkE b n p)) fun x => .inr (x.1, fun W => !x.2 W)) else if sgB b n p 40 = true then (sB (tsR b n (psF b n k) (tkE b n p)) fun x => sB (smi b n x.1 41) fun q => .inr (q, x.2)) else cmR b n p
def qsR2 (b : Nat → Nat) (n : Nat) (x : Nat × QE) : (Nat × Nat) ⊕ QE := if tkK b n x.1 = 0 then .inr x.2 else .inl (1, tkS b n x.1)
def qsR (b : Nat → Nat) (n : Nat) : (Nat × Nat) ⊕ QE := if wdB b n 0 15 = true ∨ wdB b n 0 16 = true then sB (tsR b n (psF b n 6) (tkE b n 0)) (qsR2 b n) else .inl (1, tkS b n 0)
def vW (R : RR) (day i m : Nat) : Int := if i = 0 then m else if i = 1 then qq R m 12 else if i = 2 then cntB (qq R m 11).testBit 13 else if i = 3 then qq R m 13 else if i = 4 then qq R m 0 else if i = 5 then (snd R m).length else if i = 6 then fnS R m else if i = 7 then cntB (hvS R day m 1).testBit 13 else cntB (hvS R day m 2).testBit 13
section
variable {b : Nat → Nat} {n p : Nat} {R : RR}
theorem vW_rg {day i m : Nat} {N : Nat} (hV : VR N R) (hN : N ≤ 13) (hm : m < R 1) : 0 ≤ vW R day i m ∧ vW R day i m ≤ 9999 := by
  have h1 := hV.fl hm
  have h2 := hV.uc hm
  have h3 := hV.ln hm
  have h4 := cntB_le (qq R m 11).testBit 13
  have h5 := snd_len R m
  have h6 := fnS_le hV hN m
  have h7 := cntB_le (hvS R day m 1).testBit 13
  have h8 := cntB_le (hvS R day m 2).testBit 13
  have h9 := Nat.le_trans hV.mk hN
  unfold vW
  repeat' split
  all_goals omega
theorem vlW_lt {i : Nat} (h : vlW b n p = some i) : i < 9 := by
  unfold vlW at h
  repeat' split at h
  all_goals first | (cases h; omega) | cases h
theorem vlR_ok {v : Int} {q : Nat} (h : vlR b n p = .inr (v, q)) : q = tkE b n p ∧ -9 ≤ v ∧ v ≤ 9999 ∧ tkK b n p ≠ 0 := by
  unfold vlR at h
  split at h
  · rename_i w
    split at h
    · cases h
      exact ⟨rfl, by omega, by omega, by omega⟩
    · cases h
  · split at h
    · cases h
    · rename_i i hi
      have h9 := vlW_lt hi
      cases h
      refine ⟨rfl, by omega, by omega, fun z => ?_⟩
      have k0 : ∀ w, wdB b n p w = false := fun w => by
        unfold wdB
        exact decide_eq_false (fun y => by omega)
      unfold vlW at hi
      simp [k0] at hi
theorem vlR_c {c s : Nat} (h : vlR b n p = .inl (c, s)) : (1 ≤ c ∧ c ≤ 4) ∧ s = tkS b n p := by
  unfold vlR at h
  split at h
  · split at h
    · cases h
    · cases h
      exact ⟨by omega, rfl⟩
  · split at h
    · cases h
      exact ⟨by omega, rfl⟩
    · cases h
theorem wd_kind {w : Nat} (h : wdB b n p w = true) : tkK b n p = 1 := by
  unfold wdB at h
  exact (of_decide_eq_true h).1
theorem sg_kind {c : Nat} (h : sgB b n p c = true) : tkK b n p = 3 := by
  unfold sgB at h
  exact (of_decide_eq_true h).1
theorem cmR_ok {q : Nat} {E : QE} (hp : p ≤ n) (h : cmR b n p = .inr (q, E)) : p < q ∧ q ≤ n := by
  unfold cmR at h
  obtain ⟨⟨v, q1⟩, h1, h⟩ := sB_ok h
  unfold cmR1 at h
  split at h
  · cases h
  · rename_i k hk
    unfold cmR2 at h
    obtain ⟨⟨v2, q2⟩, h2, h⟩ := sB_ok h
    have hq : q2 = q := congrArg Prod.fst (Sum.inr.inj h)
    have a1 := vlR_ok h1
    have a2 := vlR_ok h2
    have a1' : q1 = tkE b n p := a1.1
    have a2' : q2 = tkE b n (tkE b n q1) := a2.1
    have r0 := tk_rg (b := b) hp
    have r0' := r0.2.2.2.1 a1.2.2.2
    have r1 := tk_rg (b := b) (n := n) (p := q1) (by omega)
    have r2 := tk_rg (b := b) (n := n) (p := tkE b n q1) (by omega)
    omega
/-- what is read of a fact lies behind its beginning -/
def FO (b : Nat → Nat) (n : Nat) (F : Nat → QR) : Prop := ∀ p q E, p ≤ n → F p = .inr (q, E) → p < q ∧ q ≤ n
theorem lpT_ok {F : Nat → QR} (hF : FO b n F) : ∀ (f : Nat) (ms bo : QE) (q : Nat) {q' : Nat} {E : QE}, q ≤ n → lpT b n F f ms bo q = .inr (q', E) → q ≤ q' ∧ q' ≤ n
  | 0, ms, bo, q, q', E, hq, h => by
    unfold lpT at h
    cases h
    exact ⟨Nat.le_refl _, hq⟩
  | f + 1, ms, bo, q, q', E, hq, h => by
    have r := tk_rg (b := b) hq
    unfold lpT at h
    split at h
    · obtain ⟨⟨q1, E1⟩, h1, h⟩ := sB_ok h
      have a1 := hF _ _ _ r.2.2.1 h1
      have a2 := lpT_ok hF f _ _ q1 a1.2 h
      omega
    · split at h
      · obtain ⟨⟨q1, E1⟩, h1, h⟩ := sB_ok h
        have a1 := hF _ _ _ r.2.2.1 h1
        have a2 := lpT_ok hF f _ _ q1 a1.2 h
        omega
      · cases h
        exact ⟨Nat.le_refl _, hq⟩
theorem tsR_ok {F : Nat → QR} (hF : FO b n F) : FO b n (tsR b n F) := by
  intro p q E hp h
  unfold tsR at h
  obtain ⟨⟨q1, E1⟩, h1, h⟩ := sB_ok h
  have a1 := hF _ _ _ hp h1
  have a2 := lpT_ok hF 201 _ _ q1 a1.2 h
  omega
theorem psF_ok : ∀ k, FO b n (psF b n k)
  | 0 => by
    intro p q E hp h
    unfold psF at h
    split at h
    · cases h
    · exact cmR_ok hp h
  | k + 1 => by
    intro p q E hp h
    have ih := psF_ok k
    have r := tk_rg (b := b) hp
    unfold psF at h
    split at h
    · obtain ⟨⟨q1, E1⟩, h1, h⟩ := sB_ok h
      have hq : q1 = q := congrArg Prod.fst (Sum.inr.inj h)
      have a1 := ih _ _ _ r.2.2.1 h1
      omega
    · split at h
      · obtain ⟨⟨q1, E1⟩, h1, h⟩ := sB_ok h
        obtain ⟨q2, h2, h⟩ := sB_ok h
        have hq : q2 = q := congrArg Prod.fst (Sum.inr.inj h)
        have a1 := tsR_ok ih _ _ _ r.2.2.1 h1
        have a2 : q2 = tkE b n q1 := (smi_ok h2).1
        have r2 := tk_rg (b := b) a1.2
        omega
      · exact cmR_ok hp h
end
/-! sets of bits, joined -/
theorem bset_and (p q : Nat → Bool) (n : Nat) : bset p n &&& bset q n = bset (fun i => p i && q i) n := by
  apply bset_eq
  intro i
  rw [Nat.testBit_and, bset_tb, bset_tb]
  cases decide (i < n) <;> simp
theorem bset_or (p q : Nat → Bool) (n : Nat) : bset p n ||| bset q n = bset (fun i => p i || q i) n := by
  apply bset_eq
  intro i
  rw [Nat.testBit_or, bset_tb, bset_tb]
  cases decide (i < n) <;> simp
theorem bset_not (p : Nat → Bool) {n : Nat} (hn : n ≤ 13) : bdf (2 ^ n - 1) (bset p n) = bset (fun i => !p i) n := by
  have h := pow_le13 hn
  apply bset_eq
  intro i
  rw [bdf_tb (by omega), bset_tb, Nat.testBit_two_pow_sub_one]
  cases decide (i < n) <;> simp
theorem bset_dif (p q : Nat → Bool) {n : Nat} (hn : n ≤ 13) : bdf (bset p n) (bset q n) = bset (fun i => p i && !q i) n := by
  have h := bset_lt13 p hn
  apply bset_eq
  intro i
  rw [bdf_tb (by omega), bset_tb, bset_tb]
  cases decide (i < n) <;> simp
theorem bset_f (n : Nat) : bset (fun _ => false) n = 0 := by
  induction n with
  | zero => rfl
  | succ n ih =>
    show bset (fun _ => false) n ||| (if false = true then 2 ^ n else 0) = 0
    rw [ih, if_neg (by decide)]
    rfl
