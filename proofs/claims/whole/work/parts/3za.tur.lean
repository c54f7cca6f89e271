/-! ===== the reference's turns, the least reason ===== -/
theorem wM_isDay {G : GH} {post : Bool → GH → Prop} {a : Int} (h : -2147483648 ≤ a ∧ a ≤ 2147483647) : wp_X8_isDay post (zI a) G = post (decide (0 ≤ a ∧ a ≤ 9999)) G := by
  unfold wp_X8_isDay
  rw [zl0, zl9999, wM_within (by omega)]
def adT (d : Nat) (L : List Nat) : List Nat := if d ≤ 9999 then L ++ [d] else L
theorem adT_len (d : Nat) (L : List Nat) : (adT d L).length ≤ L.length + 1 := by
  unfold adT
  split <;> simp
def WT (x c j : Nat) : Prop := x = 24 ∧ (c = 28 ∨ c = 0 ∧ j = 28)
def TS (A : Nat → Nat → Int32) (L : List Nat) : Prop := A 0 28 = zI L.length ∧ OL (A 28) L
def tnU (R : RR) (m : Nat) (L : List Nat) : Nat → List Nat
  | 0 => L
  | k + 1 => adT (qq R m (16 + 3 * k) + R 6 + 1) (adT (qq R m (15 + 3 * k)) (tnU R m L k))
def tnM (R : RR) : Nat → List Nat
  | 0 => []
  | m + 1 => tnU R m (adT (qq R m 12) (tnM R m)) (qq R m 13)
theorem tnU_len (R : RR) (m : Nat) (L : List Nat) : ∀ k, (tnU R m L k).length ≤ L.length + 2 * k
  | 0 => Nat.le_refl _
  | k + 1 => by
    have h1 := tnU_len R m L k
    have h2 := adT_len (qq R m (15 + 3 * k)) (tnU R m L k)
    have h3 := adT_len (qq R m (16 + 3 * k) + R 6 + 1) (adT (qq R m (15 + 3 * k)) (tnU R m L k))
    show (adT _ _).length ≤ _
    omega
theorem adT_mem {d x : Nat} {L : List Nat} : x ∈ adT d L ↔ x ∈ L ∨ x = d ∧ d ≤ 9999 := by
  unfold adT
  split
  · rename_i h
    rw [List.mem_append, List.mem_singleton]
    exact ⟨fun z => z.imp id (fun y => ⟨y, h⟩), fun z => z.imp id (fun y => y.1)⟩
  · rename_i h
    exact ⟨Or.inl, fun z => z.elim id (fun y => absurd y.2 h)⟩
theorem tnU_mem {R : RR} {m x : Nat} {L : List Nat} : ∀ {n : Nat}, x ∈ tnU R m L n ↔ x ∈ L ∨ ∃ k, k < n ∧ x ≤ 9999 ∧ (x = qq R m (15 + 3 * k) ∨ x = qq R m (16 + 3 * k) + R 6 + 1)
  | 0 => ⟨Or.inl, fun z => z.elim id (fun ⟨k, hk, _⟩ => by omega)⟩
  | n + 1 => by
    have ih := tnU_mem (R := R) (m := m) (x := x) (L := L) (n := n)
    show x ∈ adT _ (adT _ (tnU R m L n)) ↔ _
    rw [adT_mem, adT_mem, ih]
    constructor
    · rintro (((h | ⟨k, a, b, c⟩) | ⟨rfl, h⟩) | ⟨rfl, h⟩)
      · exact Or.inl h
      · exact Or.inr ⟨k, by omega, b, c⟩
      · exact Or.inr ⟨n, by omega, h, Or.inl rfl⟩
      · exact Or.inr ⟨n, by omega, h, Or.inr rfl⟩
    · rintro (h | ⟨k, a, b, c⟩)
      · exact Or.inl (Or.inl (Or.inl h))
      · by_cases w : k = n
        · subst w
          rcases c with rfl | rfl
          · exact Or.inl (Or.inr ⟨rfl, b⟩)
          · exact Or.inr ⟨rfl, b⟩
        · exact Or.inl (Or.inl (Or.inr ⟨k, by omega, b, c⟩))
theorem tnM_mem {R : RR} {x : Nat} : ∀ {n : Nat}, x ∈ tnM R n ↔ x ≤ 9999 ∧ ∃ m, m < n ∧ (x = qq R m 12 ∨ ∃ k, k < qq R m 13 ∧ (x = qq R m (15 + 3 * k) ∨ x = qq R m (16 + 3 * k) + R 6 + 1))
  | 0 => ⟨fun z => (by cases z), fun ⟨_, m, hm, _⟩ => by omega⟩
  | n + 1 => by
    have ih := tnM_mem (R := R) (x := x) (n := n)
    show x ∈ tnU R n (adT (qq R n 12) (tnM R n)) (qq R n 13) ↔ _
    rw [tnU_mem, adT_mem, ih]
    constructor
    · rintro ((⟨a, m, b, c⟩ | ⟨rfl, h⟩) | ⟨k, a, b, c⟩)
      · exact ⟨a, m, by omega, c⟩
      · exact ⟨h, n, by omega, Or.inl rfl⟩
      · exact ⟨b, n, by omega, Or.inr ⟨k, a, c⟩⟩
    · rintro ⟨a, m, b, c⟩
      by_cases w : m = n
      · subst w
        rcases c with c | ⟨k, c1, c2⟩
        · exact Or.inl (Or.inr ⟨c, by omega⟩)
        · exact Or.inr ⟨k, c1, a, c2⟩
      · exact Or.inl (Or.inl ⟨a, m, by omega, c⟩)
section
variable {R : RR} {G : GH} {n : Nat} {post : GH → Prop}
theorem wM_addTurn {d : Nat} {L : List Nat} (hd : d ≤ 20000) (hl : L.length < 325) (hT : TS (G 24) L) (hp : ∀ G', Ag WT G G' → TS (G' 24) (adT d L) → post G') : wp_X8_addTurn post (zI d) G := by
  unfold wp_X8_addTurn
  rw [wM_isDay (by omega)]
  by_cases w : d ≤ 9999
  · refine br_bt (decide_eq_true (by omega)) ?_
    rw [hT.1]
    refine ⟨zI_in (by omega), ?_⟩
    rintro _ rfl _ rfl
    rw [zI_clN (by omega)]
    refine hp _ (((Ag.rf G).up ⟨rfl, Or.inl rfl⟩).up ⟨rfl, Or.inr ⟨rfl, rfl⟩⟩) ⟨?_, ?_⟩
    · rw [gs_eq, gs_ne (by decide), hT.1]
      unfold upd adT
      rw [if_pos rfl, if_pos w, zl1, zI_add, List.length_append]
      rfl
    · rw [gs_ne (by decide), gs_eq]
      unfold adT
      rw [if_pos w]
      intro j hj
      rw [List.length_append, List.length_singleton] at hj
      unfold upd
      by_cases q : j = L.length
      · subst q
        rw [if_pos rfl, List.getD_eq_getElem?_getD, List.getElem?_append_right (Nat.le_refl _)]
        simp
      · rw [if_neg q, hT.2 j (by omega), List.getD_eq_getElem?_getD, List.getD_eq_getElem?_getD, List.getElem?_append_left (by omega)]
  · refine br_bf (decide_eq_false (by omega)) ?_
    refine hp G (Ag.rf G) ?_
    unfold adT
    rw [if_neg w]
    exact hT
end
