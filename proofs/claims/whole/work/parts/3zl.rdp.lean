/-! ===== the text of a register, read: as numbers ===== -/
def sB {α β : Type} (x : (Nat × Nat) ⊕ α) (f : α → (Nat × Nat) ⊕ β) : (Nat × Nat) ⊕ β := match x with
  | .inl e => .inl e
  | .inr a => f a
theorem sB_l {α β : Type} {x : (Nat × Nat) ⊕ α} {f : α → (Nat × Nat) ⊕ β} {e : Nat × Nat} (h : x = .inl e) : sB x f = .inl e := by
  rw [h]
  rfl
theorem sB_r {α β : Type} {x : (Nat × Nat) ⊕ α} {f : α → (Nat × Nat) ⊕ β} {a : α} (h : x = .inr a) : sB x f = f a := by
  rw [h]
  rfl
theorem sB_ok {α β : Type} {x : (Nat × Nat) ⊕ α} {f : α → (Nat × Nat) ⊕ β} {c : β} (h : sB x f = .inr c) : ∃ a, x = .inr a ∧ f a = .inr c := by
  cases x with
  | inl e => cases h
  | inr a => exact ⟨a, rfl, h⟩
abbrev PR : Type := (Nat × Nat) ⊕ (Nat × RR)
def rdCpl (b : Nat → Nat) (n p : Nat) (hi : Int) (u : Nat → Nat → RR) : PR := sB (numR b n (tkE b n p) 0 hi (-1)) fun x => sB (numR b n x.2 0 hi x.1) fun y => .inr (y.2, u x.1 y.1)
def rdUs (b : Nat → Nat) (n p : Nat) (R : RR) : PR := sB (numR b n p 0 ((R 1 : Int) - 1) (-1)) fun x => sB (numR b n x.2 0 (2 * (R 0 : Int) - 1) (-1)) fun h => sB (numR b n h.2 0 9999 (-1)) fun f => sB (numR b n f.2 f.1 9999 (-1)) fun t => .inr (t.2, usR R x.1 h.1 f.1 t.1)
def rdUse (b : Nat → Nat) (n p : Nat) (R : RR) : PR :=
  if tkK b n (tkE b n p) = 2 ∧ tkV b n (tkE b n p) < R 1 ∧ qq R (tkV b n (tkE b n p)) 13 = 12 then .inl (4, tkS b n (tkE b n p)) else rdUs b n (tkE b n p) R
def rdCls (b : Nat → Nat) (n : Nat) : Nat → Nat → Nat → NR
  | 0, s, q => .inr (s, q)
  | f + 1, s, q => if tkK b n q = 2 then (if tkV b n q < 10 ∧ s.testBit (tkV b n q) = true then .inl (2, tkS b n q) else sB (numR b n q 0 9 (-1)) fun x => rdCls b n f (s ||| 2 ^ x.1) x.2) else .inr (s, q)
def rdNm (b : Nat → Nat) (n p : Nat) (R : RR) : PR :=
  if tkK b n p = 1 then (if tkE b n p - tkS b n p ≤ 10 then (sB (numR b n (tkE b n p) 0 9999 (-1)) fun d => sB (rdCls b n 11 0 d.2) fun c => .inr (c.2, mkR R (fun k => b (tkS b n p + k)) (tkE b n p - tkS b n p) d.1 c.1)) else .inl (3, tkS b n p)) else .inl (1, tkS b n p)
def rdMark (b : Nat → Nat) (n p : Nat) (R : RR) : PR := if R 1 < 12 then rdNm b n (tkE b n p) R else .inl (4, tkS b n p)
def rlW (b : Nat → Nat) (n p : Nat) : Option Nat := if wdB b n p 34 = true then some 0 else if wdB b n p 35 = true then some 1 else if wdB b n p 36 = true then some 2 else if wdB b n p 37 = true then some 3 else if wdB b n p 38 = true then some 4 else if wdB b n p 39 = true then some 5 else none
def rdRl (b : Nat → Nat) (n p k : Nat) (R : RR) : PR := sB (numR b n (tkE b n p) 0 (mst k) (-1)) fun v => .inr (v.2, ruR R k v.1)
def rdRule (b : Nat → Nat) (n p : Nat) (R : RR) : PR := match rlW b n p with
  | none => .inl (1, tkS b n p)
  | some k => rdRl b n p k R
def rdLine (b : Nat → Nat) (n p : Nat) (R : RR) : PR := if wdB b n p 30 = true then rdMark b n p R else if wdB b n p 31 = true then rdUse b n p R else if wdB b n p 32 = true then rdCpl b n p 9 (jnR true R) else if wdB b n p 33 = true then rdCpl b n p ((R 1 : Int) - 1) (cnR true R) else rdRule b n p R
def rdLns (b : Nat → Nat) (n : Nat) : Nat → Nat → RR → PR
  | 0, p, R => .inr (p, R)
  | f + 1, p, R => if tkK b n p = 0 then .inr (p, R) else sB (rdLine b n p R) fun x => sB (smi b n x.1 59) fun q => rdLns b n f q x.2
def rdAll (b : Nat → Nat) (n : Nat) : PR := if wdB b n 0 29 = true then (sB (numR b n (tkE b n 0) 1 6 (-1)) fun v => sB (smi b n v.2 59) fun q => rdLns b n 701 q (emR v.1)) else .inl (1, tkS b n 0)
/-- behind the last mark all is 0 -/
def tz (R : RR) : Prop := ∀ i, 18 + 51 * R 1 ≤ i → R i = 0
section
variable {b : Nat → Nat} {n p : Nat} {R : RR}
theorem numR_ok {lo hi un : Int} {v q : Nat} (h : numR b n p lo hi un = .inr (v, q)) : tkK b n p = 2 ∧ lo ≤ (v : Int) ∧ (v : Int) ≤ hi ∧ (v : Int) ≠ un ∧ q = tkE b n p ∧ v = tkV b n p := by
  unfold numR at h
  split at h
  · rename_i w
    split at h
    · rename_i z
      cases h
      exact ⟨w, z.1, z.2.1, z.2.2, rfl, rfl⟩
    · cases h
  · cases h
theorem numR_le {lo hi un : Int} {v q : Nat} (hp : p ≤ n) (h : numR b n p lo hi un = .inr (v, q)) : p ≤ q ∧ q ≤ n := by
  have h1 := numR_ok h
  have h2 := tk_rg (b := b) hp
  omega
theorem numR_c {lo hi un : Int} {c s : Nat} (h : numR b n p lo hi un = .inl (c, s)) : 1 ≤ c ∧ c ≤ 4 := by
  unfold numR at h
  split at h
  · split at h
    · cases h
    · cases h
      omega
  · cases h
    omega
theorem smi_ok {c q : Nat} (h : smi b n p c = .inr q) : q = tkE b n p ∧ tkK b n p = 3 := by
  unfold smi at h
  split at h
  · rename_i w
    cases h
    unfold sgB at w
    exact ⟨rfl, (of_decide_eq_true w).1⟩
  · cases h
theorem rdCls_ok : ∀ (f s q : Nat) {s' q' : Nat}, q ≤ n → s < 1024 → rdCls b n f s q = .inr (s', q') → s' < 1024 ∧ q ≤ q' ∧ q' ≤ n
  | 0, s, q, s', q', hq, hs, h => by
    unfold rdCls at h
    cases h
    exact ⟨hs, Nat.le_refl _, hq⟩
  | f + 1, s, q, s', q', hq, hs, h => by
    unfold rdCls at h
    split at h
    · split at h
      · cases h
      · obtain ⟨⟨v, q2⟩, h1, h2⟩ := sB_ok h
        have h3 := numR_ok h1
        have h4 := numR_le hq h1
        have h5 := rdCls_ok f (s ||| 2 ^ v) q2 h4.2 (Nat.or_lt_two_pow (n := 10) hs (Nat.pow_lt_pow_right (a := 2) (by decide) (by omega))) h2
        omega
    · cases h
      exact ⟨hs, Nat.le_refl _, hq⟩
theorem rdLine_ok {q : Nat} {R' : RR} (hV : VR 12 R) (hz : tz R) (hp : p ≤ n) (h : rdLine b n p R = .inr (q, R')) : VR 12 R' ∧ tz R' ∧ p ≤ q ∧ q ≤ n := by
  have hr := tk_rg (b := b) hp
  have hm := hV.mk
  unfold rdLine at h
  split at h
  · unfold rdMark at h
    split at h
    · rename_i w1
      unfold rdNm at h
      split at h
      · rename_i w2
        split at h
        · rename_i w3
          obtain ⟨⟨d, q1⟩, h1, h2⟩ := sB_ok h
          obtain ⟨⟨s, q2⟩, h3, h4⟩ := sB_ok h2
          cases h4
          have hr2 := tk_rg (b := b) (p := tkE b n p) hr.2.2.1
          have h5 := numR_ok h1
          have h6 := numR_le hr2.2.2.1 h1
          have h7 := rdCls_ok 11 0 q1 h6.2 (by omega) h3
          refine ⟨mkR_V hV w1 ⟨by have := hr2.2.2.2.1 (by omega); omega, w3⟩ (fun k hk => tk_sml w2 (by omega) (by omega)) (by omega) h7.1, ?_, by omega, by omega⟩
          intro i hi
          rw [mkR_1] at hi
          unfold mkR
          rw [if_neg (by omega), if_neg (by omega), if_neg (by omega), if_neg (by omega), if_neg (by omega), if_neg (by omega), if_neg (by omega)]
          exact hz i (by omega)
        · cases h
      · cases h
    · cases h
  · split at h
    · unfold rdUse at h
      split at h
      · cases h
      · rename_i w0
        unfold rdUs at h
        obtain ⟨⟨m, q1⟩, h1, h⟩ := sB_ok h
        obtain ⟨⟨hf, q2⟩, h2, h⟩ := sB_ok h
        obtain ⟨⟨f, q3⟩, h3, h⟩ := sB_ok h
        obtain ⟨⟨t, q4⟩, h4, h⟩ := sB_ok h
        cases h
        have a1 := numR_ok h1
        have a2 := numR_ok h2
        have a3 := numR_ok h3
        have a4 := numR_ok h4
        have c1 := numR_le hr.2.2.1 h1
        have c2 := numR_le c1.2 h2
        have c3 := numR_le c2.2 h3
        have c4 := numR_le c3.2 h4
        have hl := hV.l6
        have hu := hV.uc (m := m) (by omega)
        have hu2 : qq R m 13 < 12 := by
          by_cases w : qq R m 13 = 12
          · refine absurd ⟨a1.1, ?_, ?_⟩ w0
            · rw [← a1.2.2.2.2.2]
              omega
            · rw [← a1.2.2.2.2.2]
              exact w
          · omega
        refine ⟨usR_V hV hu2 (by omega) (by omega) (by omega), ?_, by omega, by omega⟩
        intro i hi
        rw [usR_lo (by omega)] at hi
        show usR R m hf f t i = 0
        unfold usR
        rw [if_neg (by omega), if_neg (by omega), if_neg (by omega), if_neg (by omega)]
        exact hz i hi
    · split at h
      · unfold rdCpl at h
        obtain ⟨⟨a, q1⟩, h1, h⟩ := sB_ok h
        obtain ⟨⟨c, q2⟩, h2, h⟩ := sB_ok h
        cases h
        have a1 := numR_ok h1
        have a2 := numR_ok h2
        have c1 := numR_le hr.2.2.1 h1
        have c2 := numR_le c1.2 h2
        refine ⟨jnR_V hV (by omega) (by omega) (by omega), ?_, by omega, by omega⟩
        intro i hi
        show jnR true R a c i = 0
        have e1 : jnR true R a c 1 = R 1 := jnR_ne (by omega) (by omega) (by omega)
        rw [e1] at hi
        rw [jnR_ne (by omega) (by omega) (by omega)]
        exact hz i hi
      · split at h
        · unfold rdCpl at h
          obtain ⟨⟨a, q1⟩, h1, h⟩ := sB_ok h
          obtain ⟨⟨c, q2⟩, h2, h⟩ := sB_ok h
          cases h
          have a1 := numR_ok h1
          have a2 := numR_ok h2
          have c1 := numR_le hr.2.2.1 h1
          have c2 := numR_le c1.2 h2
          refine ⟨cnR_V hV (by omega) (by omega), ?_, by omega, by omega⟩
          intro i hi
          show cnR true R a c i = 0
          have e1 : cnR true R a c 1 = R 1 := cnR_lo (by omega)
          rw [e1] at hi
          unfold cnR
          rw [if_neg (by omega), if_neg (by omega)]
          exact hz i hi
        · unfold rdRule at h
          split at h
          · cases h
          · rename_i k hk
            have hk6 : k < 6 := by
              unfold rlW at hk
              repeat' split at hk
              all_goals first | (cases hk; omega) | cases hk
            unfold rdRl at h
            obtain ⟨⟨v, q1⟩, h1, h⟩ := sB_ok h
            cases h
            have a1 := numR_ok h1
            have c1 := numR_le hr.2.2.1 h1
            refine ⟨ruR_V hV hk6 (by omega), ?_, by omega, by omega⟩
            intro i hi
            show ruR R k v i = 0
            have e1 : ruR R k v 1 = R 1 := ruR_ne (by omega)
            rw [e1] at hi
            rw [ruR_ne (by omega)]
            exact hz i hi
theorem emR_tz (v : Nat) : tz (emR v) := by
  intro i hi
  have hi : 18 + 51 * 0 ≤ i := hi
  unfold emR
  rw [if_neg (by omega), if_neg (by omega), if_neg (by omega), if_neg (by omega), if_neg (by omega), if_neg (by omega)]
theorem rdLns_ok : ∀ (f p : Nat) (R : RR) {q : Nat} {R' : RR}, VR 12 R → tz R → p ≤ n → rdLns b n f p R = .inr (q, R') → VR 12 R' ∧ tz R'
  | 0, p, R, q, R', hV, hz, hp, h => by
    unfold rdLns at h
    cases h
    exact ⟨hV, hz⟩
  | f + 1, p, R, q, R', hV, hz, hp, h => by
    unfold rdLns at h
    split at h
    · cases h
      exact ⟨hV, hz⟩
    · obtain ⟨⟨q1, R1⟩, h1, h⟩ := sB_ok h
      obtain ⟨q2, h2, h⟩ := sB_ok h
      have a1 := rdLine_ok hV hz hp h1
      have a2 : q2 = tkE b n q1 := (smi_ok h2).1
      have a3 := tk_rg (b := b) a1.2.2.2
      exact rdLns_ok f q2 R1 a1.1 a1.2.1 (by omega) h
theorem rdAll_ok {q : Nat} {R' : RR} (h : rdAll b n = .inr (q, R')) : VR 12 R' := by
  unfold rdAll at h
  split at h
  · obtain ⟨⟨v, q1⟩, h1, h⟩ := sB_ok h
    obtain ⟨q2, h2, h⟩ := sB_ok h
    have a1 := numR_ok h1
    have hr := tk_rg (b := b) (Nat.zero_le n)
    have c1 := numR_le hr.2.2.1 h1
    have a2 : q2 = tkE b n q1 := (smi_ok h2).1
    have a3 := tk_rg (b := b) c1.2
    exact (rdLns_ok 701 q2 (emR v) (emR_V (by omega)) (emR_tz v) (by omega) h).1
  · cases h
/-- which two words can't be the same -/
theorem wdB_ne {w w' : Nat} (h : (decide (sxL w = sxL w') && (List.range (sxL w)).all (fun k => decide (sxC w k = sxC w' k))) = false) (h1 : wdB b n p w = true) : wdB b n p w' = false := by
  rw [Bool.eq_false_iff]
  intro h2
  unfold wdB at h1 h2
  have h1 := of_decide_eq_true h1
  have h2 := of_decide_eq_true h2
  rw [Bool.and_eq_false_iff] at h
  rcases h with h | h
  · exact of_decide_eq_false h (by omega)
  · rw [← Bool.not_eq_true, List.all_eq_true] at h
    apply h
    intro k hk
    have hk := List.mem_range.mp hk
    exact decide_eq_true ((h1.2.2 k hk).symm.trans (h2.2.2 k (by omega)))
end
