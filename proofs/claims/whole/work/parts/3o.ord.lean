/-! ===== the order of those with priority ===== -/
def inS (key : Nat → Int) (x : Nat) : List Nat → List Nat
  | [] => [x]
  | y :: ys => if key x < key y then x :: y :: ys else y :: inS key x ys
def srt (key : Nat → Int) : List Nat → Prop
  | [] => True
  | y :: ys => (∀ z, z ∈ ys → key y ≤ key z) ∧ srt key ys
theorem inS_mem {key : Nat → Int} {x z : Nat} : ∀ {L : List Nat}, z ∈ inS key x L ↔ z = x ∨ z ∈ L
  | [] => by simp [inS]
  | y :: ys => by
    unfold inS
    split
    · simp
    · have := inS_mem (key := key) (x := x) (z := z) (L := ys)
      simp only [List.mem_cons, this]
      constructor
      · rintro (h | h | h)
        · exact Or.inr (Or.inl h)
        · exact Or.inl h
        · exact Or.inr (Or.inr h)
      · rintro (h | h | h)
        · exact Or.inr (Or.inl h)
        · exact Or.inl h
        · exact Or.inr (Or.inr h)
theorem inS_len {key : Nat → Int} {x : Nat} : ∀ L : List Nat, (inS key x L).length = L.length + 1
  | [] => rfl
  | y :: ys => by
    unfold inS
    split
    · simp
    · simp [inS_len ys]
theorem inS_srt {key : Nat → Int} {x : Nat} : ∀ {L : List Nat}, srt key L → srt key (inS key x L)
  | [], _ => ⟨fun z hz => (by cases hz), trivial⟩
  | y :: ys, h => by
    unfold inS
    split
    · rename_i hlt
      refine ⟨fun z hz => ?_, h⟩
      rcases List.mem_cons.mp hz with rfl | hz
      · omega
      · have := h.1 z hz
        omega
    · rename_i hlt
      refine ⟨fun z hz => ?_, inS_srt h.2⟩
      rcases inS_mem.mp hz with rfl | hz
      · omega
      · exact h.1 z hz
theorem inS_head {key : Nat → Int} {x : Nat} : ∀ {L : List Nat}, (∀ z, z ∈ L → key x < key z) → inS key x L = x :: L
  | [], _ => rfl
  | y :: ys, h => by
    unfold inS
    rw [if_pos (h y (List.mem_cons_self ..))]
theorem inS_cons (key : Nat → Int) (x y : Nat) (ys : List Nat) : inS key x (y :: ys) = if key x < key y then x :: y :: ys else y :: inS key x ys := rfl
theorem inS_filter {key : Nat → Int} {x : Nat} {q : Nat → Bool} (hx : q x = true) : ∀ {L : List Nat}, srt key L → (inS key x L).filter q = inS key x (L.filter q)
  | [], _ => by simp [inS, hx]
  | y :: ys, h => by
    rw [inS_cons]
    by_cases hlt : key x < key y
    · rw [if_pos hlt, List.filter_cons, if_pos hx]
      symm
      apply inS_head
      intro z hz
      have hz := (List.mem_filter.mp hz).1
      rcases List.mem_cons.mp hz with rfl | hz
      · exact hlt
      · have := h.1 z hz
        omega
    · rw [if_neg hlt, List.filter_cons, List.filter_cons, inS_filter hx h.2]
      by_cases qy : q y = true
      · rw [if_pos qy, if_pos qy, inS_cons, if_neg hlt]
      · rw [if_neg qy, if_neg qy]
theorem inS_filterN {key : Nat → Int} {x : Nat} {q : Nat → Bool} (hx : q x = false) : ∀ {L : List Nat}, (inS key x L).filter q = L.filter q
  | [] => by simp [inS, hx]
  | y :: ys => by
    unfold inS
    split
    · rw [List.filter_cons, if_neg (by rw [hx]; decide)]
    · rw [List.filter_cons, List.filter_cons, inS_filterN hx]
/-- where it comes to stand -/
theorem inS_pos {key : Nat → Int} {x : Nat} : ∀ {L : List Nat}, srt key L → ∃ p, p ≤ L.length ∧ (∀ j, j < p → key (L.getD j 0) ≤ key x) ∧ (∀ j, p ≤ j → j < L.length → key x < key (L.getD j 0)) ∧ ∀ j, j ≤ L.length → (inS key x L).getD j 0 = if j < p then L.getD j 0 else if j = p then x else L.getD (j - 1) 0
  | [], _ => ⟨0, by simp, fun j hj => by omega, fun j _ hj => by simp at hj, fun j hj => by
    have : j = 0 := by simpa using hj
    subst this
    simp [inS]⟩
  | y :: ys, h => by
    by_cases hlt : key x < key y
    · refine ⟨0, by omega, fun j hj => by omega, fun j _ hj => ?_, fun j hj => ?_⟩
      · cases j with
        | zero => exact hlt
        | succ j =>
          have hj : j < ys.length := by simpa using hj
          have hm : ys.getD j 0 ∈ ys := by
            rw [List.getD_eq_getElem?_getD, List.getElem?_eq_getElem hj]
            exact List.getElem_mem hj
          have := h.1 _ hm
          have e : (y :: ys).getD (j + 1) 0 = ys.getD j 0 := by simp
          rw [e]
          omega
      · unfold inS
        rw [if_pos hlt, if_neg (by omega)]
        cases j with
        | zero => simp
        | succ j =>
          rw [if_neg (by omega)]
          simp
    · obtain ⟨p, p1, p2, p3, p4⟩ := inS_pos (key := key) (x := x) h.2
      refine ⟨p + 1, by simp; omega, fun j hj => ?_, fun j hj hj2 => ?_, fun j hj => ?_⟩
      · cases j with
        | zero =>
          have e : (y :: ys).getD 0 0 = y := by simp
          rw [e]
          omega
        | succ j =>
          have e : (y :: ys).getD (j + 1) 0 = ys.getD j 0 := by simp
          rw [e]
          exact p2 j (by omega)
      · cases j with
        | zero => omega
        | succ j =>
          have e : (y :: ys).getD (j + 1) 0 = ys.getD j 0 := by simp
          rw [e]
          exact p3 j (by omega) (by simpa using hj2)
      · unfold inS
        rw [if_neg hlt]
        cases j with
        | zero =>
          rw [if_pos (by omega)]
          simp
        | succ j =>
          have e : ∀ L : List Nat, (y :: L).getD (j + 1) 0 = L.getD j 0 := fun L => by simp
          rw [e, e, p4 j (by simpa using hj)]
          by_cases w : j < p
          · rw [if_pos w, if_pos (by omega)]
          · rw [if_neg w, if_neg (show ¬ j + 1 < p + 1 by omega)]
            by_cases w2 : j = p
            · rw [if_pos w2, if_pos (by omega)]
            · rw [if_neg w2, if_neg (by omega)]
              obtain ⟨i, rfl⟩ : ∃ i, j = i + 1 := ⟨j - 1, by omega⟩
              simp
def orS (R : RR) (h d : Nat) (am : Nat → Bool) : Nat → List Nat
  | 0 => []
  | m + 1 => if am m = true ∧ pri R m h d ≠ -1 then inS (fun x => pri R x h d) m (orS R h d am m) else orS R h d am m
theorem orS_mem {R : RR} {h d : Nat} {am : Nat → Bool} {z : Nat} : ∀ {n : Nat}, z ∈ orS R h d am n ↔ z < n ∧ am z = true ∧ pri R z h d ≠ -1
  | 0 => by simp [orS]
  | m + 1 => by
    have ih := orS_mem (R := R) (h := h) (d := d) (am := am) (z := z) (n := m)
    unfold orS
    split
    · rename_i q
      rw [inS_mem, ih]
      constructor
      · rintro (rfl | ⟨a, b⟩)
        · exact ⟨by omega, q⟩
        · exact ⟨by omega, b⟩
      · rintro ⟨a, b⟩
        by_cases w : z = m
        · exact Or.inl w
        · exact Or.inr ⟨by omega, b⟩
    · rename_i q
      rw [ih]
      constructor
      · rintro ⟨a, b⟩
        exact ⟨by omega, b⟩
      · rintro ⟨a, b⟩
        refine ⟨?_, b⟩
        by_cases w : z = m
        · subst w; exact absurd b q
        · omega
theorem orS_srt (R : RR) (h d : Nat) (am : Nat → Bool) : ∀ n, srt (fun x => pri R x h d) (orS R h d am n)
  | 0 => trivial
  | m + 1 => by
    unfold orS
    split
    · exact inS_srt (orS_srt R h d am m)
    · exact orS_srt R h d am m
theorem orS_len (R : RR) (h d : Nat) (am : Nat → Bool) : ∀ n, (orS R h d am n).length ≤ n
  | 0 => Nat.le_refl _
  | m + 1 => by
    have := orS_len R h d am m
    unfold orS
    split
    · rw [inS_len]
      omega
    · omega
theorem orS_filter (R : RR) (h d : Nat) (am : Nat → Bool) : ∀ n, orS R h d am n = (orS R h d (fun _ => true) n).filter am
  | 0 => rfl
  | m + 1 => by
    have ih := orS_filter R h d am m
    unfold orS
    by_cases q : pri R m h d ≠ -1
    · rw [if_pos (show (fun _ => true) m = true ∧ _ from ⟨rfl, q⟩)]
      by_cases w : am m = true
      · rw [if_pos ⟨w, q⟩, inS_filter w (orS_srt R h d _ m), ih]
      · rw [if_neg (fun z => w z.1), inS_filterN (by simpa using w), ih]
    · rw [if_neg (fun z => q z.2), if_neg (fun z => q z.2), ih]
theorem orS_nodup {R : RR} {h d : Nat} {am : Nat → Bool} : ∀ n, (orS R h d am n).Nodup
  | 0 => List.nodup_nil
  | m + 1 => by
    have ih := orS_nodup (R := R) (h := h) (d := d) (am := am) m
    have ins : ∀ (L : List Nat), L.Nodup → m ∉ L → (inS (fun x => pri R x h d) m L).Nodup := by
      intro L
      induction L with
      | nil => intro _ _; simp [inS]
      | cons y ys ihL =>
        intro hn hm
        have hn' := List.nodup_cons.mp hn
        unfold inS
        split
        · exact List.nodup_cons.mpr ⟨hm, hn⟩
        · refine List.nodup_cons.mpr ⟨fun z => ?_, ihL hn'.2 (fun z => hm (List.mem_cons_of_mem _ z))⟩
          rcases inS_mem.mp z with e | z
          · exact hm (e ▸ List.mem_cons_self ..)
          · exact hn'.1 z
    unfold orS
    split
    · refine ins _ ih (fun z => ?_)
      have := (orS_mem.mp z).1
      omega
    · exact ih
