/-! ===== who holds, who is refused for whom ===== -/
def agn (R : RR) (H m : Nat) : Nat := bdf (alS R m) (qq R m 50) &&& H
def stl (R : RR) (H : Nat) : List Nat → Nat
  | [] => H
  | m :: L => if agn R H m = 0 then stl R (H ||| 2 ^ m) L else stl R H L
def fstIn (s : Nat) : List Nat → Int
  | [] => -1
  | x :: L => if s.testBit x then (x : Int) else fstIn s L
def rfF (R : RR) : List Nat → Nat → List Nat → Nat → Int
  | _, _, [], _ => -1
  | pre, H, m :: L, x => if agn R H m = 0 then rfF R (pre ++ [m]) (H ||| 2 ^ m) L x else if x = m then fstIn (agn R H m) pre else rfF R (pre ++ [m]) H L x
theorem rfF_no {R : RR} {x : Nat} : ∀ {L pre : List Nat} {H : Nat}, x ∉ L → rfF R pre H L x = -1
  | [], _, _, _ => rfl
  | m :: L, pre, H, h => by
    have h1 : x ≠ m := fun e => h (e ▸ List.mem_cons_self ..)
    have h2 : x ∉ L := fun e => h (List.mem_cons_of_mem _ e)
    unfold rfF
    split
    · exact rfF_no h2
    · exact rfF_no h2
theorem fstIn_app {s : Nat} {A B : List Nat} : (∃ x, x ∈ A ∧ s.testBit x = true) → fstIn s (A ++ B) = fstIn s A := by
  induction A with
  | nil => rintro ⟨x, h, _⟩; cases h
  | cons y ys ih =>
    rintro ⟨x, h, hx⟩
    show (if s.testBit y = true then (y : Int) else fstIn s (ys ++ B)) = (if s.testBit y = true then (y : Int) else fstIn s ys)
    by_cases w : s.testBit y = true
    · rw [if_pos w, if_pos w]
    · rw [if_neg w, if_neg w]
      apply ih
      rcases List.mem_cons.mp h with rfl | h
      · exact absurd hx w
      · exact ⟨x, h, hx⟩
theorem fstIn_rg {s n : Nat} : ∀ {L : List Nat}, (∀ x, x ∈ L → x < n) → -1 ≤ fstIn s L ∧ fstIn s L < n
  | [], _ => by
    unfold fstIn
    omega
  | x :: L, h => by
    have h1 := h x (List.mem_cons_self ..)
    have h2 := fstIn_rg (s := s) (n := n) (L := L) (fun y hy => h y (List.mem_cons_of_mem _ hy))
    unfold fstIn
    split <;> omega
theorem agn_lt {n : Nat} {R : RR} (hV : VR n R) (hn : n ≤ 13) (H m : Nat) : agn R H m < 8192 := by
  unfold agn
  have h1 : bdf (alS R m) (qq R m 50) < 8192 := Nat.lt_of_le_of_lt (bdf_le _ _) (bset_lt13 _ (Nat.le_trans hV.mk hn))
  exact Nat.lt_of_le_of_lt Nat.and_le_left h1
theorem agn_H {R : RR} {H m i : Nat} (h : (agn R H m).testBit i = true) : H.testBit i = true := by
  unfold agn at h
  rw [Nat.testBit_and, Bool.and_eq_true] at h
  exact h.2
theorem agn_ne {R : RR} {H m : Nat} (h : agn R H m ≠ 0) : ∃ i, (agn R H m).testBit i = true := by
  by_cases w : ∃ i, (agn R H m).testBit i = true
  · exact w
  · exfalso
    apply h
    apply Nat.eq_of_testBit_eq
    intro i
    rw [Nat.zero_testBit, Bool.eq_false_iff]
    exact fun z => w ⟨i, z⟩
theorem stl_lt {R : RR} : ∀ {L : List Nat} {H : Nat}, (∀ x, x ∈ L → x < 13) → H < 8192 → stl R H L < 8192
  | [], _, _, h => h
  | m :: L, H, hL, h => by
    have h2 : ∀ x, x ∈ L → x < 13 := fun x hx => hL x (List.mem_cons_of_mem _ hx)
    unfold stl
    split
    · exact stl_lt h2 (Nat.or_lt_two_pow (n := 13) h (Nat.pow_lt_pow_right (by decide) (hL m (List.mem_cons_self ..))))
    · exact stl_lt h2 h
theorem drop_cons {L : List Nat} {k : Nat} (h : k < L.length) : L.drop k = L.getD k 0 :: L.drop (k + 1) := by
  rw [List.drop_eq_getElem_cons h]
  congr 1
  rw [List.getD_eq_getElem?_getD, List.getElem?_eq_getElem h]
  rfl
theorem take_snoc {L : List Nat} {k : Nat} (h : k < L.length) : L.take (k + 1) = L.take k ++ [L.getD k 0] := by
  rw [List.take_succ_eq_append_getElem h]
  congr 2
  rw [List.getD_eq_getElem?_getD, List.getElem?_eq_getElem h]
  rfl
theorem nodup_at {L : List Nat} {k : Nat} (hn : L.Nodup) (h : k < L.length) : L.getD k 0 ∉ L.take k ∧ L.getD k 0 ∉ L.drop (k + 1) := by
  have e : L.take k ++ (L.getD k 0 :: L.drop (k + 1)) = L := by rw [← drop_cons h]; exact List.take_append_drop k L
  rw [← e] at hn
  have := List.nodup_append.mp hn
  refine ⟨fun z => ?_, (List.nodup_cons.mp this.2.1).1⟩
  exact this.2.2 _ z _ (List.mem_cons_self ..) rfl
def WSt (x c j : Nat) : Prop := x = 5 ∧ (c = 3 ∨ c = 0 ∧ j = 7)
section
variable {R : RR} {G : GH} {n o1 o2 h day s : Nat}
theorem wI_inOrder {post : Int32 → GH → Prop} {k : Nat} {L : List Nat} (hh : h < 12) (hl : L.length ≤ 13) (hr : RKd (G 5) h L) (hk : k < L.length) (hp : post (zI (L.getD k 0 : Nat)) G) : wp_X5_inOrder post (zI h) (zI k) G := by
  unfold wp_X5_inOrder
  have e : (h : Int) * 13 + k = ((13 * h + k : Nat) : Int) := by omega
  rw [zl13, zI_mul, zI_add, e]
  refine ⟨zI_in (by omega), ?_⟩
  have e2 : G 5 1 (13 * h + k) = zI (L.getD k 0 : Nat) := hr.2 k hk
  rw [zI_clN (by omega), e2]
  exact hp
theorem wI_mostSenior {post : Int32 → GH → Prop} {a : Nat} {L : List Nat} (hh : h < 12) (ha : a < 8192) (hl : L.length ≤ 13) (hx : ∀ x, x ∈ L → x < 13) (hr : RKd (G 5) h L) (hp : post (zI (fstIn a L)) G) : wp_X5_mostSenior post (zI h) (zI a) G := by
  unfold wp_X5_mostSenior
  intro P2 K2
  have main : ∀ f k : Nat, k + f = L.length → fstIn a (L.drop k) = fstIn a L → P2 (zI h) (zI a) (zI k) G := by
    intro f
    induction f with
    | zero =>
      intro k hk he
      refine K2 _ _ _ _ ?_
      unfold lb_X5_mostSenior_2
      refine ⟨zI_in (by omega), ?_⟩
      rw [zI_clN (n := h) (by omega), hr.1]
      refine br_t (by rw [zI_le (by omega)]; omega) ?_
      rw [List.drop_of_length_le (by omega)] at he
      rw [← he] at hp
      exact hp
    | succ f ih =>
      intro k hk he
      have hm := hx _ (getD_mem (L := L) (j := k) (by omega))
      refine K2 _ _ _ _ ?_
      unfold lb_X5_mostSenior_2
      refine ⟨zI_in (by omega), ?_⟩
      rw [zI_clN (n := h) (by omega), hr.1]
      refine br_f (by rw [zI_le (by omega)]; omega) ?_
      refine wI_inOrder hh hl hr (by omega) ?_
      rw [wI_isIn (by omega) (by omega)]
      rw [drop_cons (by omega)] at he
      unfold fstIn at he
      by_cases w : a.testBit (L.getD k 0) = true
      · refine br_bt w ?_
        rw [if_pos w] at he
        have hp2 : post (zI ((L.getD k 0 : Nat) : Int)) G := by
          have e2 : fstIn a L = ((L.getD k 0 : Nat) : Int) := by
            rw [he]
            cases L <;> rfl
          rw [← e2]
          exact hp
        exact wI_inOrder hh hl hr (by omega) hp2
      · refine br_bf (by simpa using w) ?_
        rw [if_neg w] at he
        rw [zl1, zI_add]
        refine ih (k + 1) (by omega) ?_
        rw [he]
        cases L <;> rfl
  exact main L.length 0 (by omega) (by simp)
end
