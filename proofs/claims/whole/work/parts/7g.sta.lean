/-! ===== the start: what the new objects hold ===== -/
def G0 : GH := fun o k j => match o with
  | 0 => if k = 0 then (if j = 11 then -1 else if j = 12 then 3 else 0) else 0
  | 2 => if k = 0 then (if j = 4 then -1 else 0) else 0
  | 3 => if k = 0 then (if j = 5 then -1 else 0) else 0
  | 8 => rI k j
  | 9 => rI k j
  | 10 => rI k j
  | 24 => if k = 1 then mdR 1 j else if k = 0 then (if j = 40 then -1 else 0) else 0
  | _ => 0
def ad0 (a q : Nat) (A1 A2 A3 A4 A5 A6 A7 A8 A9 A10 Am : Nat → Nat) : Nat → Nat → Nat := fun o k => match o with
  | 0 => a
  | 1 => A1 k
  | 2 => A9 k
  | 3 => A10 k
  | 4 => A5 k
  | 5 => A8 k
  | 6 => A6 k
  | 7 => A7 k
  | 8 => A2 k
  | 9 => A3 k
  | 10 => A4 k
  | 24 => Am k
  | 25 => q
  | _ => 0
def t0A : List (Nat × Nat) := [(0, 0), (1, 0), (1, 1), (8, 0), (8, 3), (8, 4), (8, 5), (8, 6), (8, 7), (8, 8), (8, 9), (8, 10), (8, 11), (9, 0), (9, 3), (9, 4), (9, 5), (9, 6), (9, 7), (9, 8), (9, 9), (9, 10), (9, 11), (10, 0), (10, 3), (10, 4), (10, 5), (10, 6), (10, 7), (10, 8), (10, 9), (10, 10), (10, 11), (4, 0), (4, 1), (6, 0), (6, 1), (6, 2), (6, 3), (6, 4), (6, 5), (6, 6), (6, 7), (6, 8), (7, 0), (7, 1), (7, 2), (7, 3), (7, 4), (7, 5), (7, 6), (7, 7), (7, 8), (5, 0), (5, 1), (5, 2), (5, 3), (5, 4), (5, 5), (5, 6), (5, 7), (2, 0), (3, 0)]
def t0B : List (Nat × Nat) := [(24, 0), (24, 1), (24, 2), (24, 3), (24, 4), (24, 9), (24, 10), (24, 11), (24, 12), (24, 13), (24, 14), (24, 15), (24, 16), (24, 17), (24, 18), (24, 19), (24, 20), (24, 21), (24, 22), (24, 23), (24, 24), (24, 28), (24, 30), (24, 32)]
def t0 : List (Nat × Nat) := (t0A ++ t0B) ++ [(25, 1)]
def w0L (E : Ev) (a q : Nat) (A1 A2 A3 A4 A5 A6 A7 A8 A9 A10 Am : Nat → Nat) : va_W := (mfW E a A1 A2 A3 A4 A5 A6 A7 A8 A9 A10 ++ mdW E Am) ++ [(q, .inl (E.2.1 2, 1, .inr (.inl (fun _ => 0))))]
theorem nb0 : nb 0 = 0 := by decide
theorem al_le {c k : Nat} (h : (al c k).isSome = true) : k ≤ 32 := by
  unfold al at h
  split at h <;> first | omega | (simp_all; done)
theorem lk_le {o k : Nat} (h : lk o k = true) : k ≤ 32 := by
  unfold lk at h
  by_cases h0 : k = 0
  · omega
  · apply al_le (c := oc o)
    simpa [h0] using h
theorem t0_all : (List.range 26).all (fun o => (List.range 33).all (fun k => !(stt o && lk o k) || t0.contains (o, k))) = true := by decide +kernel
theorem lo0 {o : Nat} (h : lo G0 o) : stt o = true := by
  rcases h with h | h | h
  · exact h
  · exact absurd rfl h.2
  · exact absurd rfl h.2.2
theorem t0_mem {o k : Nat} (ho : stt o = true) (hk : lk o k = true) : (o, k) ∈ t0 := by
  have h1 : o < 26 := by
    unfold stt at ho
    simp at ho
    omega
  have h2 := lk_le hk
  have h := List.all_eq_true.mp (List.all_eq_true.mp t0_all o (List.mem_range.mpr h1)) k (List.mem_range.mpr (by omega))
  rw [ho, hk] at h
  simpa using h
section
variable {E : Ev} {a q : Nat} {A1 A2 A3 A4 A5 A6 A7 A8 A9 A10 Am : Nat → Nat}
abbrev cE0 (E : Ev) (ad : Nat → Nat → Nat) (z : Nat × Nat) : Nat × va_E := (ad z.1 z.2, ct E ad G0 z.1 z.2)
set_option maxRecDepth 100000 in
theorem w0A : mfW E a A1 A2 A3 A4 A5 A6 A7 A8 A9 A10 = t0A.map (cE0 E (ad0 a q A1 A2 A3 A4 A5 A6 A7 A8 A9 A10 Am)) := by rfl
set_option maxRecDepth 100000 in
theorem w0B : mdW E Am = t0B.map (cE0 E (ad0 a q A1 A2 A3 A4 A5 A6 A7 A8 A9 A10 Am)) := by rfl
theorem w0C : ([(q, .inl (E.2.1 2, 1, .inr (.inl (fun _ => 0))))] : va_W) = [(25, 1)].map (cE0 E (ad0 a q A1 A2 A3 A4 A5 A6 A7 A8 A9 A10 Am)) := by rfl
theorem w0M : w0L E a q A1 A2 A3 A4 A5 A6 A7 A8 A9 A10 Am = t0.map (cE0 E (ad0 a q A1 A2 A3 A4 A5 A6 A7 A8 A9 A10 Am)) := by
  unfold w0L t0
  rw [List.map_append, List.map_append, ← w0A, ← w0B, ← w0C]
theorem hd0 {H : Heap} (hP : va_P E.1 vwCl (w0L E a q A1 A2 A3 A4 A5 A6 A7 A8 A9 A10 Am) H) (hD : va_D (rg E) (w0L E a q A1 A2 A3 A4 A5 A6 A7 A8 A9 A10 Am)) : Hd E (ad0 a q A1 A2 A3 A4 A5 A6 A7 A8 A9 A10 Am) G0 H := by
  rw [w0M] at hP hD
  have pos : ∀ o k, lo G0 o → lk o k = true → ∃ j : Nat, (t0.map (cE0 E (ad0 a q A1 A2 A3 A4 A5 A6 A7 A8 A9 A10 Am)))[j]? = some (ad0 a q A1 A2 A3 A4 A5 A6 A7 A8 A9 A10 Am o k, ct E (ad0 a q A1 A2 A3 A4 A5 A6 A7 A8 A9 A10 Am) G0 o k) ∧ t0[j]? = some (o, k) := by
    intro o k ho hk
    obtain ⟨j, hj⟩ := List.getElem?_of_mem (t0_mem (lo0 ho) hk)
    refine ⟨j, ?_, hj⟩
    rw [List.getElem?_map, hj]
    rfl
  refine hd_mk hP hD (fun o k ho hk => ?_) (fun o k o2 k2 ho hk ho2 hk2 he => ?_)
  · obtain ⟨j, h, -⟩ := pos o k ho hk
    exact ⟨j, h⟩
  · obtain ⟨j, h, g⟩ := pos o k ho hk
    obtain ⟨j2, h2, g2⟩ := pos o2 k2 ho2 hk2
    have e := hD.1 j j2 _ _ h h2 he
    subst e
    rw [g] at g2
    have := Option.some.inj g2
    exact ⟨congrArg Prod.fst this, congrArg Prod.snd this⟩
end
/-! ===== what holds at the start ===== -/
theorem emR_0 {j : Nat} (h : 8 ≤ j) : emR 1 j = 0 := by
  unfold emR
  rw [if_neg (by omega), if_neg (by omega), if_neg (by omega), if_neg (by omega), if_neg (by omega), if_neg (by omega)]
theorem cr_rI : CR (emR 1) rI := by
  refine ⟨rfl, rfl, fun c hc => ?_, fun w hw => ?_, fun m hm => ?_⟩
  · rw [emR_0 (by omega)]
    rfl
  · exact (by decide : ∀ w : Fin 6, (sTb 0).getD w.val 0 = zI (emR 1 (2 + w.val))) ⟨w, hw⟩
  · have : emR 1 1 = 0 := rfl
    omega
def q0P : Par := (emR 1, fun _ => 0, 0, -1, (0, 0, fun _ => emR 1), (false, emR 1))
theorem inv0 : Inv G0 := by
  refine ⟨q0P, ⟨emR_V (by omega), cr_rI, ⟨3, by omega, rfl, by omega, by omega, by omega⟩, ⟨fun j hj => ⟨rfl, by show 0 < 256; omega⟩, rfl, by show 0 ≤ 700; omega⟩, rfl, ⟨⟨by show 0 < 12; omega, by show 0 ≤ 12; omega⟩, rfl, rfl, fun i hi => absurd hi (Nat.not_lt_zero i)⟩, ?_, fun h => by cases h⟩, ?_⟩
  · constructor
    · intro h
      cases h
    · intro h
      exact absurd rfl h
  · refine ⟨fun j hj => rfl, fun h => absurd rfl h, ⟨fun j hj => ⟨rfl, by show 0 < 256; omega⟩, rfl⟩, rfl, ⟨rfl, fun i j hi => absurd hi (Nat.not_lt_zero i)⟩, ?_, fun h => by cases h⟩
    constructor
    · intro h
      cases h
    · intro h
      exact absurd rfl h
