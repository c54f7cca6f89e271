/-! ===== between events nothing changes ===== -/
theorem lvB_stay {R : RR} {m h d e : Nat} (hde : d ≤ e) (hq : qui R (some h) m d (e + 1)) : lvB R m h e = lvB R m h d := by
  have key : ∀ k, k < qq R m 13 → qq R m (14 + 3 * k) = h → ((qq R m (15 + 3 * k) ≤ e ∧ e ≤ qq R m (16 + 3 * k) + R 6) ↔ (qq R m (15 + 3 * k) ≤ d ∧ d ≤ qq R m (16 + 3 * k) + R 6)) := by
    intro k hk hh
    have := hq.2 k hk (Or.inr (by rw [hh]))
    omega
  cases h1 : lvB R m h e
  · cases h2 : lvB R m h d
    · rfl
    · obtain ⟨k, a, b, c⟩ := lvB_iff.mp h2
      have := lvB_iff.mpr ⟨k, a, b, (key k a b).mpr c⟩
      rw [h1] at this
      cases this
  · obtain ⟨k, a, b, c⟩ := lvB_iff.mp h1
    exact (lvB_iff.mpr ⟨k, a, b, (key k a b).mp c⟩).symm
theorem snc_s (R : RR) (m h d : Nat) : snc R m h (d + 1) = if lvB R m h (d + 1) then (if lvB R m h d then snc R m h d else ((d + 1 : Nat) : Int)) else -1 := rfl
theorem snc_stay {R : RR} {m h d : Nat} : ∀ t, qui R (some h) m d (d + t + 1) → snc R m h (d + t) = snc R m h d
  | 0, _ => rfl
  | t + 1, hq => by
    have ih := snc_stay t (hq.le (by omega))
    have e1 := lvB_stay (show d ≤ d + t by omega) (hq.le (show d + t + 1 ≤ d + (t + 1) + 1 by omega))
    have e2 := lvB_stay (show d ≤ d + (t + 1) by omega) hq
    show snc R m h (d + t + 1) = _
    rw [snc_s, show d + t + 1 = d + (t + 1) by omega, e2, e1]
    cases hl : lvB R m h d
    · rw [if_neg (by decide), snc_no hl]
    · rw [if_pos rfl, if_pos rfl, ih]
theorem pri_stay {R : RR} {m h d e : Nat} (hde : d ≤ e) (hq : qui R (some h) m d (e + 1)) : pri R m h e = pri R m h d := by
  have e1 : snc R m h e = snc R m h d := by
    have := snc_stay (R := R) (m := m) (h := h) (d := d) (e - d) (by rw [show d + (e - d) + 1 = e + 1 by omega]; exact hq)
    rwa [show d + (e - d) = e by omega] at this
  unfold pri
  rw [e1]
  have := hq.1
  by_cases w : qq R m 12 ≤ d
  · rw [if_pos w, if_pos (by omega)]
  · rw [if_neg w, if_neg (by omega)]
theorem inS_cg {key key' : Nat → Int} {x : Nat} : ∀ {L : List Nat}, key x = key' x → (∀ y, y ∈ L → key y = key' y) → inS key x L = inS key' x L
  | [], _, _ => rfl
  | y :: ys, hx, hL => by
    rw [inS_cons, inS_cons, hx, hL y (List.mem_cons_self ..), inS_cg hx (fun z hz => hL z (List.mem_cons_of_mem _ hz))]
theorem orS_stay {R : RR} {h d e : Nat} {am : Nat → Bool} : ∀ n, (∀ x, x < n → am x = true → pri R x h e = pri R x h d) → orS R h e am n = orS R h d am n
  | 0, _ => rfl
  | n + 1, hx => by
    have ih := orS_stay n (fun x hx1 hx2 => hx x (by omega) hx2)
    unfold orS
    rw [ih]
    by_cases w : am n = true
    · have e1 := hx n (by omega) w
      rw [e1]
      split
      · refine inS_cg e1 (fun y hy => ?_)
        have := orS_mem.mp hy
        exact hx y (by omega) this.2.1
      · rfl
    · rw [if_neg (fun z => w z.1), if_neg (fun z => w z.1)]
/-- who holds among a closed set does not change between events of that set -/
theorem hoB_stay {n : Nat} {R : RR} (hV : VR n R) (hn : n ≤ 13) {h d e s m : Nat} (hcl : clo R s) (hsm : s.testBit m = true) (hde : d ≤ e) (hq : ∀ x, x < R 1 → s.testBit x = true → qui R (some h) x d (e + 1)) : hoB R e m h = hoB R d m h := by
  have h13 := Nat.le_trans hV.mk hn
  have hal : ∀ m, alS R m < 8192 := fun m => bset_lt13 _ h13
  have cut : ∀ t, (stl R 0 (orS R h t s.testBit (R 1))).testBit m = hoB R t m h := fun t => by
    rw [orS_filter, stl_cut hal hcl (fun x hx => (orS_mem.mp hx).1) (H := 0) (fun i => by rw [Nat.zero_testBit]; rfl), hsm, Bool.and_true]
    rfl
  rw [← cut e, ← cut d, orS_stay (R 1) (fun x hx1 hx2 => pri_stay hde (hq x hx1 hx2))]
