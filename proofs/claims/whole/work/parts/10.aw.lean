/-! ===== the words that every method of the claim has: the tables' good words ===== -/
def tb : List Cond := lw_tbl.filter goodWord
theorem tb_of {w : Cond} (h : w ∈ tables_1) (hg : goodWord w = true) : w ∈ tb := List.mem_filter.mpr ⟨List.mem_append_right _ h, hg⟩
theorem tb_sel {w : Cond} (h : w ∈ k2_sels lw_privs) (hg : goodWord w = true) : w ∈ tb := List.mem_filter.mpr ⟨List.mem_append_left _ h, hg⟩
theorem tb_good {w : Cond} (h : w ∈ tb) : (w.onTables && w.keeps) = true ∨ ∃ ty, w = .arrayClass ty := good_of_word (List.mem_filter.mp h).2
theorem tb_in {c0 c1 : Cond} (h : c1 ∈ tb) : GoodIn (c0 :: tb) (c1 :: tb) := by
  intro w hw
  rcases List.mem_cons.mp hw with rfl | hw
  · exact ⟨List.mem_cons_of_mem _ h, tb_good h⟩
  · exact ⟨List.mem_cons_of_mem _ hw, tb_good hw⟩
theorem tb_in0 {c1 : Cond} (h : c1 ∈ tb) : GoodIn tb (c1 :: tb) := by
  intro w hw
  rcases List.mem_cons.mp hw with rfl | hw
  · exact ⟨h, tb_good h⟩
  · exact ⟨hw, tb_good hw⟩
/-! ===== the abstract heap: object o, cell k (0: its fields of numbers; a field's place and one: the row in it), place j ===== -/
abbrev GH : Type := Nat → Nat → Nat → Int32
def gs (G : GH) (o k : Nat) (f : Nat → Int32) : GH := fun o2 k2 => if o2 = o ∧ k2 = k then f else G o2 k2
theorem gs_eq (G : GH) (o k : Nat) (f : Nat → Int32) : gs G o k f o k = f := by simp [gs]
theorem gs_ne {G : GH} {o k o2 k2 : Nat} {f : Nat → Int32} (h : ¬ (o2 = o ∧ k2 = k)) : gs G o k f o2 k2 = G o2 k2 := by simp [gs, h]
def nb (x : Int32) : Int32 := vp_nar .byte x
theorem nb_eq (x : Int32) : nb x = x.toInt8.toInt32 := vp_nar_byte x
/-- what an object is, by its number: 0 the register, 1 tape, 2 reader, 3 question, 4 acts, 5 standing, 6 known, 7 imagined, 8 now, 9 trial, 10 told, 11 kept, 12 to 23 before, 24 the reference, 25 the law's row -/
def oc : Nat → Nat
  | 0 => 7 | 1 => 6 | 2 => 3 | 3 => 2 | 4 => 0 | 5 => 5 | 6 => 1 | 7 => 1 | 24 => 8 | 25 => 9 | _ => 4
/-- the row in a cell: its kind (0 int, 1 byte, 2 long, 3 registers), its length -/
def al : Nat → Nat → Option (Nat × Nat)
  | 0, 1 => some (3, 12)
  | 1, 1 => some (1, 260) | 1, 2 => some (0, 13) | 1, 3 => some (0, 169) | 1, 4 => some (0, 169) | 1, 5 => some (0, 169) | 1, 6 => some (0, 13) | 1, 7 => some (0, 13) | 1, 8 => some (0, 21)
  | 4, 3 => some (0, 13) | 4, 4 => some (0, 13) | 4, 5 => some (0, 13) | 4, 6 => some (1, 130) | 4, 7 => some (0, 13) | 4, 8 => some (0, 468) | 4, 9 => some (0, 13) | 4, 10 => some (0, 10) | 4, 11 => some (0, 6)
  | 5, 1 => some (0, 156) | 5, 2 => some (0, 12) | 5, 3 => some (0, 13) | 5, 4 => some (0, 13) | 5, 5 => some (0, 13) | 5, 6 => some (0, 13) | 5, 7 => some (0, 13)
  | 6, 1 => some (1, 700)
  | 8, 1 => some (0, 681) | 8, 2 => some (0, 681) | 8, 3 => some (0, 681) | 8, 4 => some (0, 8172) | 8, 9 => some (0, 260) | 8, 10 => some (0, 13) | 8, 11 => some (0, 20) | 8, 12 => some (0, 20) | 8, 13 => some (0, 441)
  | 8, 14 => some (0, 169) | 8, 15 => some (0, 169) | 8, 16 => some (0, 169) | 8, 17 => some (0, 169) | 8, 18 => some (0, 13) | 8, 19 => some (0, 13) | 8, 20 => some (0, 13) | 8, 21 => some (0, 10)
  | 8, 22 => some (0, 13) | 8, 23 => some (0, 13) | 8, 24 => some (0, 13) | 8, 28 => some (0, 325) | 8, 30 => some (0, 10) | 8, 32 => some (0, 700)
  | 9, 1 => some (2, 1)
  | _, _ => none
def stt (o : Nat) : Bool := decide (o < 11) || o == 24 || o == 25
/-- the objects that are there -/
def lo (G : GH) (o : Nat) : Prop := stt o = true ∨ (o = 11 ∧ ¬ G 0 0 10 = 0) ∨ (12 ≤ o ∧ o < 24 ∧ ¬ G 4 1 (o - 12) = 0)
def lk (o k : Nat) : Bool := (k == 0 && decide (oc o < 9)) || (al (oc o) k).isSome
theorem lo_s {G : GH} {o : Nat} (h : stt o = true) : lo G o := Or.inl h
/-- an object's fields, by what it is -/
def fv (ad : Nat → Nat → Nat) (G : GH) (o : Nat) : Nat → List Value
  | 0 => [.ref (ad o 1), .int (G o 0 1), .int (G o 0 2)]
  | 1 => [.ref (ad o 1), .ref (ad o 2), .ref (ad o 3), .ref (ad o 4), .ref (ad o 5), .ref (ad o 6), .ref (ad o 7), .ref (ad o 8)]
  | 2 => [.ref (ad 1 0), .ref (ad 8 0), .ref (ad 6 0), .ref (ad 5 0), .int (G o 0 4), .int (G o 0 5), .int (G o 0 6)]
  | 3 => [.ref (ad 1 0), .ref (ad 10 0), .int (G o 0 2), .int (G o 0 3), .int (G o 0 4)]
  | 4 => [.int (G o 0 0), .int (G o 0 1), .ref (ad o 3), .ref (ad o 4), .ref (ad o 5), .ref (ad o 6), .ref (ad o 7), .ref (ad o 8), .ref (ad o 9), .ref (ad o 10), .ref (ad o 11)]
  | 5 => [.ref (ad o 1), .ref (ad o 2), .ref (ad o 3), .ref (ad o 4), .ref (ad o 5), .ref (ad o 6), .ref (ad o 7), .int (G o 0 7)]
  | 6 => [.ref (ad o 1), .int (G o 0 1), .int (G o 0 2), .int (G o 0 3), .int (G o 0 4), .int (G o 0 5), .int (G o 0 6)]
  | 7 => [.ref (ad 1 0), .ref (ad 2 0), .ref (ad 3 0), .ref (ad 4 0), .ref (ad 5 0), .ref (ad 6 0), .ref (ad 7 0), .ref (ad 8 0), .ref (ad 9 0), .ref (ad 10 0), va_rf (if G o 0 10 = 0 then none else some (ad 11 0)), .int (G o 0 11), .int (G o 0 12)]
  | 8 => [.ref (ad o 1), .ref (ad o 2), .ref (ad o 3), .ref (ad o 4), .int (G o 0 4), .int (G o 0 5), .int (G o 0 6), .int (G o 0 7), .ref (ad o 9), .ref (ad o 10), .ref (ad o 11), .ref (ad o 12), .ref (ad o 13), .ref (ad o 14), .ref (ad o 15), .ref (ad o 16), .ref (ad o 17), .ref (ad o 18), .ref (ad o 19), .ref (ad o 20), .ref (ad o 21), .ref (ad o 22), .ref (ad o 23), .ref (ad o 24), .int (G o 0 24), .int (G o 0 25), .int (G o 0 26), .ref (ad o 28), .int (G o 0 28), .ref (ad o 30), .int (G o 0 30), .ref (ad o 32), .int (G o 0 32), .int (G o 0 33), .int (G o 0 34), .int (G o 0 35), .int (G o 0 36), .int (G o 0 37), .int (G o 0 38), .int (G o 0 39), .int (G o 0 40), .int (G o 0 41), .int (G o 0 42), .int (G o 0 43)]
  | _ => []
/-- kinds and slots, kinds of rows, rows of statics, texts (object, bytes), where the law's own cells begin -/
abbrev Ev : Type := va_G × (Nat → ClassId) × (Nat → Nat) × (Nat → Nat) × (Nat → Nat) × Nat
def rg (E : Ev) : Nat → Prop := fun q => E.2.2.2.2.2 ≤ q
/-- what is in a row -/
def cr (E : Ev) (ad : Nat → Nat → Nat) (f : Nat → Int32) (t : Nat × Nat) : va_E := match t.1 with
  | 0 => .inl (E.2.1 0, t.2, .inl f)
  | 1 => .inl (E.2.1 1, t.2, .inl (fun j => nb (f j)))
  | 2 => .inl (E.2.1 2, t.2, .inr (.inl (fun j => (f j).toInt64)))
  | _ => .inl (E.2.1 3, t.2, .inr (.inr (.inr (.inr (fun j => if f j = 0 then none else some (ad (12 + j) 0))))))
def ct (E : Ev) (ad : Nat → Nat → Nat) (G : GH) (o k : Nat) : va_E := match al (oc o) k with
  | some t => cr E ad (G o k) t
  | none => .inr (oc o, fv ad G o (oc o))
abbrev tyE (E : Ev) : List (ClassId × FieldType) := [(E.2.1 0, .int), (E.2.1 1, .byte), (E.2.1 2, .long), (E.2.1 3, .object RX4)]
def KE (E : Ev) (U : State) : Prop := va_K E.1 vwCl (tyE E) U
/-- the heap holds what G says: every cell that is there, at an address of its own -/
def Hd (E : Ev) (ad : Nat → Nat → Nat) (G : GH) (H : Heap) : Prop :=
  (∃ (L : List Nat) (f : Nat → va_E), (∀ o k, lo G o → lk o k = true → ad o k ∈ L ∧ f (ad o k) = ct E ad G o k) ∧ va_P E.1 vwCl (va_pl L f) H ∧ va_D (rg E) (va_pl L f)) ∧
  ∀ o k o2 k2, lo G o → lk o k = true → lo G o2 → lk o2 k2 = true → ad o k = ad o2 k2 → o = o2 ∧ k = k2
theorem al0 (c : Nat) : al c 0 = none := by
  unfold al
  split <;> first | rfl | simp_all
theorem ct0 (E : Ev) (ad : Nat → Nat → Nat) (G : GH) (o : Nat) : ct E ad G o 0 = .inr (oc o, fv ad G o (oc o)) := by
  unfold ct
  rw [al0]
theorem ctk {E : Ev} {ad : Nat → Nat → Nat} {G : GH} {o k : Nat} {t : Nat × Nat} (h : al (oc o) k = some t) : ct E ad G o k = cr E ad (G o k) t := by
  unfold ct
  rw [h]
theorem lk0 {o c : Nat} (h : oc o = c) (hc : c < 9) : lk o 0 = true := by
  simp [lk, h, hc]
theorem lkk {o k : Nat} {t : Nat × Nat} (h : al (oc o) k = some t) : lk o k = true := by
  simp [lk, h]
/-- a cell's place in the world; every other's; and the world once that cell has changed -/
theorem Hd.opn {E : Ev} {ad : Nat → Nat → Nat} {G : GH} {H : Heap} (h : Hd E ad G H) {o k : Nat} (ho : lo G o) (hk : lk o k = true) :
    ∃ (L : List Nat) (f : Nat → va_E) (i : Nat), va_P E.1 vwCl (va_pl L f) H ∧ va_D (rg E) (va_pl L f) ∧ (va_pl L f)[i]? = some (ad o k, ct E ad G o k) ∧
      (∀ o2 k2, lo G o2 → lk o2 k2 = true → ∃ j : Nat, (va_pl L f)[j]? = some (ad o2 k2, ct E ad G o2 k2)) ∧
      ∀ (G' : GH) (H1 : Heap), (∀ x, lo G' x → lo G x) → (∀ o2 k2, lo G' o2 → lk o2 k2 = true → ¬ (o2 = o ∧ k2 = k) → ct E ad G' o2 k2 = ct E ad G o2 k2) →
        va_P E.1 vwCl ((va_pl L f).set i (ad o k, ct E ad G' o k)) H1 → va_D (rg E) ((va_pl L f).set i (ad o k, ct E ad G' o k)) → Hd E ad G' H1 := by
  obtain ⟨⟨L, f, h1, h2, h3⟩, h4⟩ := h
  have place : ∀ o2 k2, lo G o2 → lk o2 k2 = true → ∃ j : Nat, (va_pl L f)[j]? = some (ad o2 k2, ct E ad G o2 k2) := by
    intro o2 k2 g1 g2
    obtain ⟨a1, a2⟩ := h1 o2 k2 g1 g2
    obtain ⟨i, hi⟩ := va_pl_get (X := []) (f := f) a1
    rw [a2] at hi
    exact ⟨i, hi⟩
  obtain ⟨a1, a2⟩ := h1 o k ho hk
  obtain ⟨i, hi⟩ := va_pl_get (X := []) (f := f) a1
  refine ⟨L, f, i, h2, h3, by rw [← a2]; exact hi, place, fun G' H1 hl hc hP hD => ?_⟩
  have e' : (va_pl L f).set i (ad o k, ct E ad G' o k) = va_pl L (va_up f (ad o k) (ct E ad G' o k)) := va_pl_set (X := []) (e := ct E ad G' o k) (k := i) h3 a1 hi
  rw [e'] at hP hD
  refine ⟨⟨L, _, fun o2 k2 g1 g2 => ?_, hP, hD⟩, fun a b c d g1 g2 g3 g4 g5 => h4 a b c d (hl _ g1) g2 (hl _ g3) g4 g5⟩
  obtain ⟨b1, b2⟩ := h1 o2 k2 (hl _ g1) g2
  refine ⟨b1, ?_⟩
  by_cases hq : ad o2 k2 = ad o k
  · obtain ⟨rfl, rfl⟩ := h4 o2 k2 o k (hl _ g1) g2 ho hk hq
    rw [va_up_self]
  · rw [va_up_ne _ _ hq, b2, hc o2 k2 g1 g2]
    rintro ⟨rfl, rfl⟩
    exact hq rfl
theorem Hd.rg {E : Ev} {ad : Nat → Nat → Nat} {G : GH} {H : Heap} (h : Hd E ad G H) {o k : Nat} (ho : lo G o) (hk : lk o k = true) : rg E (ad o k) := by
  obtain ⟨L, f, i, -, h3, hi, -⟩ := h.opn ho hk
  exact h3.2 i _ hi
/-- a cell's contents, by themselves -/
theorem Hd.one {E : Ev} {ad : Nat → Nat → Nat} {G : GH} {H : Heap} (h : Hd E ad G H) {o k : Nat} (ho : lo G o) (hk : lk o k = true) : va_at E.1 vwCl (ad o k, ct E ad G o k) H := by
  obtain ⟨L, f, i, h2, -, hi, -⟩ := h.opn ho hk
  exact h2 i _ hi
theorem fv_eq {ad : Nat → Nat → Nat} {G G' : GH} {o : Nat} (h : ∀ j, G' o 0 j = G o 0 j) (c : Nat) : fv ad G' o c = fv ad G o c := by
  unfold fv
  split <;> simp only [h]
theorem ct_eq {E : Ev} {ad : Nat → Nat → Nat} {G G' : GH} {o k : Nat} (h1 : ∀ j, G' o k j = G o k j) (h0 : ∀ j, G' o 0 j = G o 0 j) : ct E ad G' o k = ct E ad G o k := by
  unfold ct
  rw [fv_eq h0, show G' o k = G o k from funext h1]
/-- a row is set: nothing else changes -/
theorem row_ok {E : Ev} {ad : Nat → Nat → Nat} {G : GH} {o k : Nat} {t : Nat × Nat} {f : Nat → Int32} (hk : al (oc o) k = some t) (h3 : ¬ t.1 = 3) :
    (∀ x, lo (gs G o k f) x → lo G x) ∧ (∀ o2 k2, lo (gs G o k f) o2 → lk o2 k2 = true → ¬ (o2 = o ∧ k2 = k) → ct E ad (gs G o k f) o2 k2 = ct E ad G o2 k2) ∧ ct E ad (gs G o k f) o k = cr E ad f t := by
  have hk0 : ¬ k = 0 := fun q => by rw [q, al0] at hk; cases hk
  have h41 : ¬ (o = 4 ∧ k = 1) := by
    rintro ⟨rfl, rfl⟩
    have e : some (3, 12) = some t := hk
    cases e
    exact h3 rfl
  refine ⟨fun x hx => ?_, fun o2 k2 _ _ hne => ?_, ?_⟩
  · unfold lo at hx ⊢
    rw [gs_ne (fun q => hk0 q.2.symm), gs_ne (fun q => h41 ⟨q.1.symm, q.2.symm⟩)] at hx
    exact hx
  · exact ct_eq (fun j => by rw [gs_ne hne]) (fun j => by rw [gs_ne (fun q => hk0 q.2.symm)])
  · rw [ctk hk, gs_eq]
/-- a field of numbers is set: nothing else changes -/
theorem fld_ok {E : Ev} {ad : Nat → Nat → Nat} {G : GH} {o c j : Nat} {x : Int32} (hc : oc o = c) (h10 : ¬ (c = 7 ∧ j = 10)) :
    (∀ y, lo (gs G o 0 (upd (G o 0) j x)) y → lo G y) ∧ (∀ o2 k2, lo (gs G o 0 (upd (G o 0) j x)) o2 → lk o2 k2 = true → ¬ (o2 = o ∧ k2 = 0) → ct E ad (gs G o 0 (upd (G o 0) j x)) o2 k2 = ct E ad G o2 k2) ∧ ct E ad (gs G o 0 (upd (G o 0) j x)) o 0 = .inr (c, fv ad (gs G o 0 (upd (G o 0) j x)) o c) := by
  refine ⟨fun y hy => ?_, fun o2 k2 _ hlk hne => ?_, by rw [ct0, hc]⟩
  · have e1 : gs G o 0 (upd (G o 0) j x) 0 0 10 = G 0 0 10 := by
      by_cases h0 : (0 : Nat) = o
      · subst h0
        have hj : ¬ 10 = j := fun q => h10 ⟨hc.symm, q.symm⟩
        rw [gs_eq]
        simp [upd, hj]
      · rw [gs_ne (fun q => h0 q.1)]
    have e2 : gs G o 0 (upd (G o 0) j x) 4 1 = G 4 1 := gs_ne (fun q => by omega)
    unfold lo at hy ⊢
    rw [e1, e2] at hy
    exact hy
  · by_cases hk2 : k2 = 0
    · subst hk2
      exact ct_eq (fun j => by rw [gs_ne hne]) (fun j => by rw [gs_ne hne])
    · have h1 : gs G o 0 (upd (G o 0) j x) o2 k2 = G o2 k2 := gs_ne (fun q => hk2 q.2)
      unfold lk at hlk
      cases ha : al (oc o2) k2 with
      | none => simp [ha, hk2] at hlk
      | some t => rw [ctk ha, ctk ha, h1]
/-! ===== a method at work: the machine W at every heap that holds G ===== -/
abbrev Cx : Type := Program × Launch × Env × Room × State × MethodId × Array Value × List Frame × Method × Code × (State → Prop) × (Nat → Nat → Nat) × (Nat → Prop)
def sdX (X : Cx) : Nat → Nat → Nat := X.2.2.2.2.2.2.2.2.2.2.2.1
def PX (X : Cx) : Nat → Prop := X.2.2.2.2.2.2.2.2.2.2.2.2
def RX (X : Cx) : Room := X.2.2.2.1
def AW (E : Ev) (X : Cx) (nL pc : Nat) (lv : List (Nat × Value)) (stk : List Value) (G : GH) (n1 n2 : Nat) : Prop := match X with
  | (p, l, e, R, s, m, args, below, meth, c, Q, sd, P) => ∀ (ls : Array Slot) (H : Heap) (locs : List Loc) (ad : Nat → Nat → Nat), (∀ o k, P o → ad o k = sd o k) → lv_has ls nL lv → Hd E ad G H → va_S (rg E) s.heap H locs → W p l e R s m args below meth c H locs n1 n2 Q (F0 m pc ls stk)
