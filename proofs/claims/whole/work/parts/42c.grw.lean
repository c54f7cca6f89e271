/-! ===== one register more ===== -/
theorem pl_of {A : Nat → Prop} {w : va_W} (hD : va_D A w) : ∃ f : Nat → va_E, va_pl (w.map Prod.fst) f = w ∧ ∀ (k : Nat) (q : Nat × va_E), w[k]? = some q → q.1 ∈ w.map Prod.fst ∧ f q.1 = q.2 := by
  have key : ∀ (k : Nat) (q : Nat × va_E), w[k]? = some q → (match w.find? (fun r => r.1 == q.1) with | some r => r.2 | none => (.inr (0, []) : va_E)) = q.2 := by
    intro k q hk
    have hm : q ∈ w := List.mem_of_getElem? hk
    cases hf : w.find? (fun r => r.1 == q.1) with
    | none =>
      have := List.find?_eq_none.mp hf q hm
      simp at this
    | some r =>
      have h1 := List.find?_some hf
      have h2 : r ∈ w := List.mem_of_find?_eq_some hf
      obtain ⟨i, hi⟩ := List.getElem?_of_mem h2
      have e : r.1 = q.1 := by simpa using h1
      have := hD.1 i k r q hi hk e
      subst this
      rw [hi] at hk
      cases hk
      rfl
  refine ⟨fun a => match w.find? (fun r => r.1 == a) with | some r => r.2 | none => .inr (0, []), ?_, fun k q hk => ⟨List.mem_map.mpr ⟨q, List.mem_of_getElem? hk, rfl⟩, key k q hk⟩⟩
  unfold va_pl
  rw [List.map_map]
  apply List.ext_getElem?
  intro k
  rw [List.getElem?_map]
  cases hk : w[k]? with
  | none => rfl
  | some q =>
    exact congrArg some (Prod.ext rfl (key k q hk))
theorem hd_mk {E : Ev} {ad : Nat → Nat → Nat} {G : GH} {H : Heap} {w : va_W} (hP : va_P E.1 vwCl w H) (hD : va_D (rg E) w) (hw : ∀ o k, lo G o → lk o k = true → ∃ j : Nat, w[j]? = some (ad o k, ct E ad G o k)) (hi : ∀ o k o2 k2, lo G o → lk o k = true → lo G o2 → lk o2 k2 = true → ad o k = ad o2 k2 → o = o2 ∧ k = k2) : Hd E ad G H := by
  obtain ⟨f, h1, h2⟩ := pl_of hD
  refine ⟨⟨w.map Prod.fst, f, fun o k ho hk => ?_, by rw [h1]; exact hP, by rw [h1]; exact hD⟩, hi⟩
  obtain ⟨j, hj⟩ := hw o k ho hk
  exact h2 j _ hj
theorem al4 {k : Nat} (h : (al 4 k).isSome = true) : 3 ≤ k ∧ k ≤ 11 := by
  unfold al at h
  split at h <;> first | omega | (simp_all; done)
/-- the cells of a new register, by their places -/
theorem rgW_at {E : Ev} {ad : Nat → Nat → Nat} {G : GH} {x : Nat} {A : Nat → Nat} (hx : oc x = 4) (hG : G x = rI) (hA : ∀ k, ad x k = A k) {k : Nat} (hk : lk x k = true) : (rgW E A)[if k = 0 then 0 else k - 2]? = some (ad x k, ct E ad G x k) := by
  have hk2 : k = 0 ∨ 3 ≤ k ∧ k ≤ 11 := by
    unfold lk at hk
    rw [hx] at hk
    by_cases h0 : k = 0
    · exact Or.inl h0
    · right
      apply al4
      simpa [h0] using hk
  rcases hk2 with rfl | hk2
  · rw [if_pos rfl, ct0, hx, hA 0]
    show some (A 0, _) = some (A 0, Sum.inr (4, fv ad G x 4))
    unfold rgF fv
    rw [hG, hA 3, hA 4, hA 5, hA 6, hA 7, hA 8, hA 9, hA 10, hA 11]
    rfl
  · have k9 : k = 3 ∨ k = 4 ∨ k = 5 ∨ k = 6 ∨ k = 7 ∨ k = 8 ∨ k = 9 ∨ k = 10 ∨ k = 11 := by omega
    have e : ∀ (k : Nat) (t : Nat × Nat), al 4 k = some t → ct E ad G x k = cr E ad (rI k) t := fun k t ht => by
      rw [ctk (t := t) (by rw [hx]; exact ht), hG]
    rcases k9 with rfl | rfl | rfl | rfl | rfl | rfl | rfl | rfl | rfl
    · rw [e 3 (0, 13) rfl, hA]; rfl
    · rw [e 4 (0, 13) rfl, hA]; rfl
    · rw [e 5 (0, 13) rfl, hA]; rfl
    · rw [e 6 (1, 130) rfl, hA]; rfl
    · rw [e 7 (0, 13) rfl, hA]; rfl
    · rw [e 8 (0, 468) rfl, hA]; rfl
    · rw [e 9 (0, 13) rfl, hA]; rfl
    · rw [e 10 (0, 10) rfl, hA]; rfl
    · rw [e 11 (0, 6) rfl, hA]; rfl
theorem lk4 {x k : Nat} (hx : oc x = 4) (hk : lk x k = true) : k = 0 ∨ 3 ≤ k ∧ k ≤ 11 := by
  unfold lk at hk
  rw [hx] at hk
  by_cases h0 : k = 0
  · exact Or.inl h0
  · right
    apply al4
    simpa [h0] using hk
theorem hd_grow {E : Ev} {ad ad' : Nat → Nat → Nat} {G G' : GH} {H1 : Heap} {x o0 k0 j : Nat} {A : Nat → Nat} {w0 : va_W}
    (hw0 : ∀ o k, lo G o → lk o k = true → ∃ j : Nat, w0[j]? = some (ad o k, ct E ad G o k)) (hi : ∀ o k o2 k2, lo G o → lk o k = true → lo G o2 → lk o2 k2 = true → ad o k = ad o2 k2 → o = o2 ∧ k = k2)
    (hx : ¬ lo G x) (hx4 : oc x = 4) (hlo : ∀ o, lo G' o → o = x ∨ lo G o) (h0 : lo G o0) (hk0 : lk o0 k0 = true) (hj : w0[j]? = some (ad o0 k0, ct E ad G o0 k0)) (hct : ∀ o k, lo G o → lk o k = true → ¬ (o = o0 ∧ k = k0) → ct E ad' G' o k = ct E ad G o k) (hG : G' x = rI)
    (had : ∀ o k, ad' o k = if o = x then A k else ad o k) (hP : va_P E.1 vwCl ((w0 ++ rgW E A).set j (ad o0 k0, ct E ad' G' o0 k0)) H1) (hD : va_D (rg E) ((w0 ++ rgW E A).set j (ad o0 k0, ct E ad' G' o0 k0))) : Hd E ad' G' H1 := by
  have jl : j < w0.length := (List.getElem?_eq_some_iff.mp hj).1
  have hnx : ∀ o, lo G o → o ≠ x := fun o ho e => hx (e ▸ ho)
  have adx : ∀ k, ad' x k = A k := fun k => by rw [had, if_pos rfl]
  have ado : ∀ o k, o ≠ x → ad' o k = ad o k := fun o k h => by rw [had, if_neg h]
  -- where the cells stand
  have old : ∀ o k, lo G o → lk o k = true → ∃ i : Nat, i < w0.length ∧ ((w0 ++ rgW E A).set j (ad o0 k0, ct E ad' G' o0 k0))[i]? = some (ad' o k, ct E ad' G' o k) ∧ w0[i]? = some (ad o k, ct E ad G o k) := by
    intro o k ho hk
    obtain ⟨i, hii⟩ := hw0 o k ho hk
    have il : i < w0.length := (List.getElem?_eq_some_iff.mp hii).1
    refine ⟨i, il, ?_, hii⟩
    rw [ado o k (hnx o ho)]
    by_cases e : o = o0 ∧ k = k0
    · obtain ⟨rfl, rfl⟩ := e
      have : i = j := by
        have d2 : ∀ (a b : Nat), a = j → b = i → a ≠ b → False := fun a b ea eb hab => by
          subst ea; subst eb
          have g1 : ((w0 ++ rgW E A).set a (ad o k, ct E ad' G' o k))[a]? = some (ad o k, ct E ad' G' o k) := List.getElem?_set_self (by rw [List.length_append]; omega)
          have g2 : ((w0 ++ rgW E A).set a (ad o k, ct E ad' G' o k))[b]? = some (ad o k, ct E ad G o k) := by
            rw [List.getElem?_set_ne hab, List.getElem?_append_left il]
            exact hii
          exact hab (hD.1 a b _ _ g1 g2 rfl)
        apply Classical.byContradiction
        intro hne
        exact d2 j i rfl rfl (Ne.symm hne)
      subst this
      exact List.getElem?_set_self (by rw [List.length_append]; omega)
    · have hne : j ≠ i := by
        intro e2
        subst e2
        rw [hj] at hii
        have := congrArg (fun z => z.1) (Option.some.inj hii)
        exact e (hi o k o0 k0 ho hk h0 hk0 this.symm)
      rw [List.getElem?_set_ne hne, List.getElem?_append_left il, hct o k ho hk e]
      exact hii
  have new : ∀ k, lk x k = true → ((w0 ++ rgW E A).set j (ad o0 k0, ct E ad' G' o0 k0))[w0.length + (if k = 0 then 0 else k - 2)]? = some (ad' x k, ct E ad' G' x k) := by
    intro k hk
    rw [List.getElem?_set_ne (by omega)]
    exact lw_at (rgW_at hx4 hG adx hk)
  refine hd_mk hP hD (fun o k ho hk => ?_) (fun o k o2 k2 ho hk ho2 hk2 he => ?_)
  · rcases hlo o ho with rfl | h
    · exact ⟨_, new k hk⟩
    · obtain ⟨i, -, h2, -⟩ := old o k h hk
      exact ⟨i, h2⟩
  · rcases hlo o ho with e1 | h1
    · rcases hlo o2 ho2 with e2 | h2
      · subst e1; subst e2
        have := hD.1 _ _ _ _ (new k hk) (new k2 hk2) he
        have a1 := lk4 hx4 hk
        have a2 := lk4 hx4 hk2
        refine ⟨rfl, ?_⟩
        rcases a1 with rfl | a1
        · rcases a2 with rfl | a2
          · rfl
          · rw [if_pos rfl, if_neg (by omega)] at this
            omega
        · rcases a2 with rfl | a2
          · rw [if_pos rfl, if_neg (by omega)] at this
            omega
          · rw [if_neg (by omega), if_neg (by omega)] at this
            omega
      · subst e1
        obtain ⟨i, il, g, -⟩ := old o2 k2 h2 hk2
        have := hD.1 _ _ _ _ (new k hk) g he
        omega
    · rcases hlo o2 ho2 with e2 | h2
      · subst e2
        obtain ⟨i, il, g, -⟩ := old o k h1 hk
        have := hD.1 _ _ _ _ g (new k2 hk2) he
        omega
      · rw [ado o k (hnx o h1), ado o2 k2 (hnx o2 h2)] at he
        exact hi o k o2 k2 h1 hk h2 hk2 he
