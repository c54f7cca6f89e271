/-! ===== the sounds of a name ===== -/
def Ag (W : Nat → Nat → Nat → Prop) (G G' : GH) : Prop := ∀ a b j, ¬ W a b j → G' a b j = G a b j
theorem Ag.rf {W : Nat → Nat → Nat → Prop} (G : GH) : Ag W G G := fun _ _ _ _ => rfl
theorem Ag.tr {W : Nat → Nat → Nat → Prop} {G G' G'' : GH} (h1 : Ag W G G') (h2 : Ag W G' G'') : Ag W G G'' := fun a b j h => (h2 a b j h).trans (h1 a b j h)
theorem Ag.mo {W W' : Nat → Nat → Nat → Prop} {G G' : GH} (h : Ag W G G') (hw : ∀ a b j, W a b j → W' a b j) : Ag W' G G' := fun a b j q => h a b j (fun z => q (hw a b j z))
theorem Ag.ob {W : Nat → Nat → Nat → Prop} {G G' : GH} (h : Ag W G G') (a : Nat) (hw : ∀ b j, ¬ W a b j) : G' a = G a := by
  funext b j
  exact h a b j (hw b j)
theorem Ag.ce {W : Nat → Nat → Nat → Prop} {G G' : GH} (h : Ag W G G') (a b : Nat) (hw : ∀ j, ¬ W a b j) : G' a b = G a b := by
  funext j
  exact h a b j (hw j)
theorem Ag.up {W : Nat → Nat → Nat → Prop} {G G' : GH} {o k p : Nat} {v : Int32} (h : Ag W G G') (hw : W o k p) : Ag W G (gs G' o k (upd (G' o k) p v)) := by
  intro a b j q
  unfold gs
  split
  · rename_i z
    obtain ⟨rfl, rfl⟩ := z
    unfold upd
    split
    · rename_i z
      subst z
      exact absurd hw q
    · exact h a b j q
  · exact h a b j q
theorem zI_char {a : Int} (h : 0 ≤ a ∧ a < 65536) : ((zI a).toUInt32 % 65536).toInt32 = zI a := by
  obtain ⟨n, rfl⟩ : ∃ n : Nat, a = n := ⟨a.toNat, by omega⟩
  rw [← zI_nI, pk_char, pk_tn (by omega)]
  congr 1
  omega
def prS (a b : Nat) : Int := if b = 104 then (if a = 99 then 2 else if a = 103 then -1 else if a = 112 then 1 else if a = 115 then 8 else if a = 116 then 9 else -2) else if a = 99 ∧ b = 107 then 2 else -2
def tbS (k : Nat) : Int := [0, 6, 2, 9, 0, 1, 2, -1, 0, 2, 2, 3, 4, 5, 0, 6, 2, 7, 8, 9, 0, 1, -1, 2, 0, 8].getD k 0
def sgS (a b : Nat) (fst : Bool) : Int := if a = 99 ∧ (b = 101 ∨ b = 105 ∨ b = 121) then 8 else if tbS (a - 97) = 0 ∧ fst = false then -1 else tbS (a - 97)
def adS (s : Int) (L : List Nat) : List Nat := if s < 0 then L else if L ≠ [] ∧ L.getD (L.length - 1) 0 = s.toNat then L else L ++ [s.toNat]
def ltr (R : RR) (m k : Nat) : Nat := if k < qq R m 0 then qq R m (1 + k) else 0
def hrS (R : RR) (m : Nat) : Nat → Nat → List Nat → List Nat
  | 0, _, L => L
  | f + 1, k, L => if qq R m 0 ≤ k then L else if prS (ltr R m k) (ltr R m (k + 1)) ≠ -2 then hrS R m f (k + 2) (adS (prS (ltr R m k) (ltr R m (k + 1))) L) else if ltr R m k = 120 then hrS R m f (k + 1) (adS 8 (adS 2 L)) else hrS R m f (k + 1) (adS (sgS (ltr R m k) (ltr R m (k + 1)) (k == 0)) L)
def snd (R : RR) (m : Nat) : List Nat := hrS R m 10 0 []
theorem prS_rg (a b : Nat) : -2 ≤ prS a b ∧ prS a b ≤ 9 := by
  unfold prS
  repeat' split
  all_goals omega
theorem tbS_rg (k : Nat) : -1 ≤ tbS k ∧ tbS k ≤ 9 := by
  by_cases h : k < 26
  · exact (by decide : ∀ k : Fin 26, -1 ≤ tbS k.val ∧ tbS k.val ≤ 9) ⟨k, h⟩
  · have : tbS k = 0 := by
      unfold tbS
      rw [List.getD_eq_getElem?_getD, List.getElem?_eq_none (by simp; omega)]
      rfl
    omega
theorem sgS_rg (a b : Nat) (f : Bool) : -1 ≤ sgS a b f ∧ sgS a b f ≤ 9 := by
  have := tbS_rg (a - 97)
  unfold sgS
  repeat' split
  all_goals omega
theorem adS_len (s : Int) (L : List Nat) : (adS s L).length ≤ L.length + 1 := by
  unfold adS
  repeat' split
  all_goals simp
theorem adS_lt {s : Int} (hs : s ≤ 9) {L : List Nat} (hL : ∀ x, x ∈ L → x < 10) : ∀ x, x ∈ adS s L → x < 10 := by
  unfold adS
  intro x hx
  split at hx
  · exact hL x hx
  · split at hx
    · exact hL x hx
    · rcases List.mem_append.mp hx with h | h
      · exact hL x h
      · rw [List.mem_singleton] at h
        omega
/-- a row of lists: how many, and the places from 20 m on -/
def HS (A : Nat → Nat → Int32) (c1 c2 m : Nat) (L : List Nat) : Prop := A c2 m = zI L.length ∧ ∀ j, j < L.length → A c1 (20 * m + j) = zI (L.getD j 0)
def WS (o c1 c2 m : Nat) (a b j : Nat) : Prop := a = o ∧ (b = c1 ∧ 20 * m ≤ j ∧ j < 20 * m + 20 ∨ b = c2 ∧ j = m)
theorem HS_add {A : Nat → Nat → Int32} {c1 c2 m : Nat} {L : List Nat} {s : Nat} {f1 f2 : Nat → Int32} (h : HS A c1 c2 m L) (e1 : f1 = upd (A c1) (20 * m + L.length) (zI s)) (e2 : f2 = upd (A c2) m (zI ((L.length : Int) + 1))) {B : Nat → Nat → Int32} (b1 : B c1 = f1) (b2 : B c2 = f2) : HS B c1 c2 m (L ++ [s]) := by
  refine ⟨?_, fun j hj => ?_⟩
  · rw [b2, e2]
    unfold upd
    rw [if_pos rfl, List.length_append]
    rfl
  · rw [b1, e1]
    unfold upd
    rw [List.length_append, List.length_singleton] at hj
    by_cases q : j = L.length
    · subst q
      rw [if_pos rfl, List.getD_eq_getElem?_getD, List.getElem?_append_right (Nat.le_refl _)]
      simp
    · rw [if_neg (by omega), h.2 j (by omega), List.getD_eq_getElem?_getD, List.getD_eq_getElem?_getD, List.getElem?_append_left (by omega)]
section
variable {R : RR} {G : GH} {n o m : Nat} {post : GH → Prop}
set_option maxHeartbeats 1000000 in
theorem wI_addSound {s : Int} {L : List Nat} (hm : m < 13) (hs : -1 ≤ s ∧ s ≤ 9) (hL : L.length < 20) (hS : HS (G o) 1 2 m L) (hx : ∀ x, x ∈ L → x < 10) (hp : ∀ G', Ag (WS o 1 2 m) G G' → HS (G' o) 1 2 m (adS s L) → post G') : wp_X1_addSound post o (zI m) (zI s) G := by
  have cm : (zI (m : Int)).toNatClampNeg = m := zI_clN (by omega)
  unfold wp_X1_addSound
  rintro _ rfl
  refine ⟨zI_in (by omega), ?_⟩
  rw [cm, hS.1]
  rintro _ rfl
  have stay : adS s L = L → post G := fun e => hp G (Ag.rf G) (by rw [e]; exact hS)
  have put : s ≠ -1 → ¬ (L ≠ [] ∧ L.getD (L.length - 1) 0 = s.toNat) → j_X1_addSound_38 post o (zI m) (zI s) (zI m * (20 : Int32)) (zI L.length) (0 : Int32) G := by
    intro h1 h2
    unfold j_X1_addSound_38
    refine br_f (by rw [zl1, zI_neg, zI_eq (by omega)]; exact h1) ?_
    refine br_t rfl ?_
    refine br_f (by rw [zl20, zI_le (by omega)]; omega) ?_
    rw [zl20, zI_mul, zI_add]
    refine ⟨zI_in (by omega), ?_⟩
    rintro _ rfl
    refine ⟨zI_in (by omega), zI_in (by omega), ?_⟩
    rintro _ rfl
    rw [cm, zI_cl (by omega), show ((m : Int) * 20 + (L.length : Int)).toNat = 20 * m + L.length by omega, zI_nb (by omega)]
    have a1 : Ag (WS o 1 2 m) G (gs G o 1 (upd (G o 1) (20 * m + L.length) (zI s))) := (Ag.rf G).up ⟨rfl, Or.inl ⟨rfl, by omega, by omega⟩⟩
    have a2 := a1.up (k := 2) (p := m) (v := (gs G o 1 (upd (G o 1) (20 * m + L.length) (zI s)) o 2 m) + (1 : Int32)) (o := o) ⟨rfl, Or.inr ⟨rfl, rfl⟩⟩
    refine hp _ a2 ?_
    have e : adS s L = L ++ [s.toNat] := by
      unfold adS
      rw [if_neg (by omega), if_neg h2]
    rw [e]
    refine HS_add (s := s.toNat) hS (f1 := upd (G o 1) (20 * m + L.length) (zI ((s.toNat : Nat) : Int))) rfl rfl ?_ ?_
    · rw [gs_ne (by omega), gs_eq, show ((s.toNat : Nat) : Int) = s by omega]
    · rw [gs_eq, gs_ne (by omega), hS.1, zl1, zI_add]
  refine br_c (fun q => ?_) (fun q => ?_)
  · rw [zl0, zI_le (by omega)] at q
    have e : L = [] := List.eq_nil_of_length_eq_zero (by omega)
    unfold j_X1_addSound_37
    by_cases z : s = -1
    · subst z
      unfold j_X1_addSound_38
      exact br_t rfl (stay (by unfold adS; rw [if_pos (by omega)]))
    · exact put z (fun w => w.1 e)
  · rw [zl0, zI_le (by omega)] at q
    have hne : L ≠ [] := by
      intro e
      rw [e] at q
      exact q (by simp)
    rw [zl20, zI_mul, zI_add, zl1, zI_sub]
    refine ⟨zI_in (by omega), ?_⟩
    rw [zI_cl (by omega), show ((m : Int) * 20 + (L.length : Int) - 1).toNat = 20 * m + (L.length - 1) by omega, hS.2 (L.length - 1) (by omega)]
    have hl : L.getD (L.length - 1) 0 < 10 := by
      rw [List.getD_eq_getElem?_getD, List.getElem?_eq_getElem (by omega)]
      exact hx _ (List.getElem_mem _)
    rw [zI_nb (by omega), zI_eq (by omega)]
    refine br_c (fun q1 => ?_) (fun q1 => ?_)
    · unfold j_X1_addSound_38
      refine br_f (by rw [zl1, zI_neg, zI_eq (by omega)]; omega) ?_
      refine br_f (by decide) ?_
      exact stay (by unfold adS; rw [if_neg (by omega), if_pos ⟨hne, by omega⟩])
    · unfold j_X1_addSound_37
      by_cases z : s = -1
      · subst z
        unfold j_X1_addSound_38
        exact br_t rfl (stay (by unfold adS; rw [if_pos (by omega)]))
      · have := put z (fun w => q1 (by omega))
        rw [zl20, zI_mul] at this
        exact this
set_option maxHeartbeats 1000000 in
theorem wM_hears {s : Int} {L : List Nat} (hm : m < 13) (hs : 0 ≤ s ∧ s ≤ 9) (hL : L.length < 20) (hS : HS (G 24) 9 10 m L) (hx : ∀ x, x ∈ L → x < 10) (hp : ∀ G', Ag (WS 24 9 10 m) G G' → HS (G' 24) 9 10 m (adS s L) → post G') : wp_X8_hears post (zI m) (zI s) G := by
  have cm : (zI (m : Int)).toNatClampNeg = m := zI_clN (by omega)
  unfold wp_X8_hears
  refine ⟨zI_in (by omega), ?_⟩
  rw [cm, hS.1]
  rintro _ rfl
  have stay : adS s L = L → post G := fun e => hp G (Ag.rf G) (by rw [e]; exact hS)
  have put : ¬ (L ≠ [] ∧ L.getD (L.length - 1) 0 = s.toNat) → j_X8_hears_29 post (zI m) (zI s) (zI L.length) G := by
    intro h2
    unfold j_X8_hears_29
    rw [zl20, zI_mul, zI_add]
    refine ⟨zI_in (by omega), ?_⟩
    rintro _ rfl
    refine ⟨zI_in (by omega), zI_in (by omega), ?_⟩
    rintro _ rfl
    rw [cm, zI_cl (by omega), show ((20 : Int) * (m : Int) + (L.length : Int)).toNat = 20 * m + L.length by omega]
    have a1 : Ag (WS 24 9 10 m) G (gs G 24 9 (upd (G 24 9) (20 * m + L.length) (zI s))) := (Ag.rf G).up ⟨rfl, Or.inl ⟨rfl, by omega, by omega⟩⟩
    have a2 := a1.up (k := 10) (p := m) (v := (gs G 24 9 (upd (G 24 9) (20 * m + L.length) (zI s)) 24 10 m) + (1 : Int32)) (o := 24) ⟨rfl, Or.inr ⟨rfl, rfl⟩⟩
    refine hp _ a2 ?_
    have e : adS s L = L ++ [s.toNat] := by
      unfold adS
      rw [if_neg (by omega), if_neg h2]
    rw [e]
    refine HS_add (s := s.toNat) hS (f1 := upd (G 24 9) (20 * m + L.length) (zI ((s.toNat : Nat) : Int))) rfl rfl ?_ ?_
    · rw [gs_ne (by omega), gs_eq, show ((s.toNat : Nat) : Int) = s by omega]
    · rw [gs_eq, gs_ne (by omega), hS.1, zl1, zI_add]
  refine br_c (fun q => ?_) (fun q => ?_)
  · rw [zl0, zI_le (by omega)] at q
    have e : L = [] := List.eq_nil_of_length_eq_zero (by omega)
    exact put (fun w => w.1 e)
  · rw [zl0, zI_le (by omega)] at q
    have hne : L ≠ [] := by
      intro e
      rw [e] at q
      exact q (by simp)
    rw [zl20, zI_mul, zI_add, zl1, zI_sub]
    refine ⟨zI_in (by omega), ?_⟩
    rw [zI_cl (by omega), show ((20 : Int) * (m : Int) + (L.length : Int) - 1).toNat = 20 * m + (L.length - 1) by omega, hS.2 (L.length - 1) (by omega)]
    have hl : L.getD (L.length - 1) 0 < 10 := by
      rw [List.getD_eq_getElem?_getD, List.getElem?_eq_getElem (by omega)]
      exact hx _ (List.getElem_mem _)
    rw [zI_eq (by omega)]
    refine br_c (fun q1 => ?_) (fun q1 => ?_)
    · exact stay (by unfold adS; rw [if_neg (by omega), if_pos ⟨hne, by omega⟩])
    · exact put (fun w => q1 (by omega))
end
