/-! ===== hearing a name, both sides ===== -/
theorem ltr_lt {R : RR} {n m k : Nat} (hV : VR n R) (hm : m < R 1) (hk : k < qq R m 0) : ltr R m k = qq R m (1 + k) ∧ 97 ≤ ltr R m k ∧ ltr R m k ≤ 122 := by
  have e : ltr R m k = qq R m (1 + k) := by
    unfold ltr
    rw [if_pos hk]
  rw [e]
  exact ⟨rfl, hV.lt1 hm hk, hV.lt2 hm hk⟩
theorem ltr_0 {R : RR} {m k : Nat} (hk : qq R m 0 ≤ k) : ltr R m k = 0 := by
  unfold ltr
  rw [if_neg (by omega)]
theorem prS_0 (a : Nat) : prS a 32 = prS a 0 := by simp [prS]
theorem sgS_0 (a : Nat) (f : Bool) : sgS a 32 f = sgS a 0 f := by simp [sgS]
section
variable {R : RR} {G : GH} {n o o1 m : Nat} {post : Int32 → GH → Prop}
theorem ci3 {c A B : Prop} (h : c ∨ ¬ c) (a : c → A) (b : ¬ c → B) : (c → A) ∧ (¬ c → B) := ⟨a, b⟩
theorem wI_soundOfTwo {a b : Nat} (ha : a ≤ 122) (hb : b ≤ 122) (hp : post (zI (prS a b)) G) : wp_X1_soundOfTwo post (zI a) (zI b) G := by
  have L : ∀ (x : Nat), x ≤ 122 → ∀ (c : Nat), c ≤ 122 → ((zI (x : Int) = zI (c : Int)) = (x = c)) := fun x hx c hc => by rw [zI_eq (by omega)]; exact propext (by omega)
  have e (c : Nat) (hc : c ≤ 122) : (zI (a : Int) = zI (c : Int)) = (a = c) := L a ha c hc
  have e' (c : Nat) (hc : c ≤ 122) : (zI (b : Int) = zI (c : Int)) = (b = c) := L b hb c hc
  unfold wp_X1_soundOfTwo
  have c99 : (zI (a : Int) = (99 : Int32)) = (a = 99) := e 99 (by decide)
  have c103 : (zI (a : Int) = (103 : Int32)) = (a = 103) := e 103 (by decide)
  have c112 : (zI (a : Int) = (112 : Int32)) = (a = 112) := e 112 (by decide)
  have c115 : (zI (a : Int) = (115 : Int32)) = (a = 115) := e 115 (by decide)
  have c116 : (zI (a : Int) = (116 : Int32)) = (a = 116) := e 116 (by decide)
  have d104 : (zI (b : Int) = (104 : Int32)) = (b = 104) := e' 104 (by decide)
  have d107 : (zI (b : Int) = (107 : Int32)) = (b = 107) := e' 107 (by decide)
  rw [c99, c103, c112, c115, c116, d104, d107]
  unfold prS at hp
  refine br_c (fun q => ?_) (fun q => ?_)
  · rw [if_pos q] at hp
    refine ⟨fun z => ?_, fun z => ?_, fun z => ?_, fun z => ?_, fun z => ?_, fun z1 z2 z3 z4 z5 => ?_⟩
    · subst z; exact hp
    · subst z; exact hp
    · subst z; exact hp
    · subst z; exact hp
    · subst z; exact hp
    · rw [if_neg z1, if_neg z2, if_neg z3, if_neg z4, if_neg z5] at hp
      exact hp
  · rw [if_neg q] at hp
    refine br_c (fun z => ?_) (fun z => ?_)
    · refine br_c (fun w => ?_) (fun w => ?_)
      · rw [if_pos ⟨z, w⟩] at hp
        exact hp
      · rw [if_neg (fun v => w v.2)] at hp
        exact hp
    · rw [if_neg (fun v => z v.1)] at hp
      exact hp
theorem tb2 {k : Nat} (h : k < 26) : (sTb 2).getD k 0 = zI (tbS k) := (by decide : ∀ k : Fin 26, (sTb 2).getD k.val 0 = zI (tbS k.val)) ⟨k, h⟩
theorem wI_soundOfOne {a b : Nat} {f : Bool} {v : Int32} (hv : v = if f then 1 else 0) (ha : 97 ≤ a ∧ a ≤ 122) (hb : b ≤ 122) (hp : post (zI (sgS a b f)) G) : wp_X1_soundOfOne post (zI a) (zI b) v G := by
  have e (c : Nat) (hc : c ≤ 122) : (zI (a : Int) = zI (c : Int)) = (a = c) := by rw [zI_eq (by omega)]; exact propext (by omega)
  have e' (c : Nat) (hc : c ≤ 122) : (zI (b : Int) = zI (c : Int)) = (b = c) := by rw [zI_eq (by omega)]; exact propext (by omega)
  have c99 : (zI (a : Int) = (99 : Int32)) = (a = 99) := e 99 (by decide)
  have d101 : (zI (b : Int) = (101 : Int32)) = (b = 101) := e' 101 (by decide)
  have d105 : (zI (b : Int) = (105 : Int32)) = (b = 105) := e' 105 (by decide)
  have d121 : (zI (b : Int) = (121 : Int32)) = (b = 121) := e' 121 (by decide)
  have ht := tbS_rg (a - 97)
  have rest : ¬ (a = 99 ∧ (b = 101 ∨ b = 105 ∨ b = 121)) → j_X1_soundOfOne_27 post (zI a) v G := by
    intro h
    unfold sgS at hp
    rw [if_neg h] at hp
    unfold j_X1_soundOfOne_27
    rw [zl97, zI_sub]
    refine ⟨zI_in (by show 0 ≤ (a : Int) - 97 ∧ (a : Int) - 97 < ((26 : Nat) : Int) ∧ _; omega), ?_⟩
    rintro _ rfl
    rw [zI_cl (by omega), show ((a : Int) - 97).toNat = a - 97 by omega, tb2 (by omega)]
    refine br_c (fun q => ?_) (fun q => ?_)
    · rw [zl0, zI_eq (by omega)] at q
      cases f
      · rw [if_pos ⟨q, rfl⟩] at hp
        exact br_t hv hp
      · rw [if_neg (by simp)] at hp
        refine br_f (by rw [hv]; decide) ?_
        exact hp
    · rw [zl0, zI_eq (by omega)] at q
      rw [if_neg (fun z => q z.1)] at hp
      exact hp
  have s8 : (a = 99 ∧ (b = 101 ∨ b = 105 ∨ b = 121)) → post (8 : Int32) G := by
    intro h
    unfold sgS at hp
    rw [if_pos h] at hp
    exact hp
  unfold wp_X1_soundOfOne
  rw [c99, d101, d105, d121]
  refine br_c (fun q => ?_) (fun q => rest (fun z => q z.1))
  refine br_c (fun q1 => s8 ⟨q, Or.inl q1⟩) (fun q1 => ?_)
  refine br_c (fun q2 => s8 ⟨q, Or.inr (Or.inl q2)⟩) (fun q2 => ?_)
  refine br_c (fun q3 => s8 ⟨q, Or.inr (Or.inr q3)⟩) (fun q3 => ?_)
  exact rest (fun z => by omega)
theorem hrS_lt (R : RR) (m : Nat) : ∀ f k (L : List Nat), (∀ x, x ∈ L → x < 10) → ∀ x, x ∈ hrS R m f k L → x < 10
  | 0, _, L, h => h
  | f + 1, k, L, h => by
    unfold hrS
    split
    · exact h
    · split
      · exact hrS_lt R m f _ _ (adS_lt (prS_rg _ _).2 h)
      · split
        · exact hrS_lt R m f _ _ (adS_lt (by omega) (adS_lt (by omega) h))
        · exact hrS_lt R m f _ _ (adS_lt (sgS_rg _ _ _).2 h)
theorem hrS_len (R : RR) (m : Nat) : ∀ f k (L : List Nat), (hrS R m f k L).length ≤ L.length + 2 * f
  | 0, _, L => by simp [hrS]
  | f + 1, k, L => by
    unfold hrS
    split
    · omega
    · split
      · have h1 := hrS_len R m f (k + 2) (adS (prS (ltr R m k) (ltr R m (k + 1))) L)
        have h2 := adS_len (prS (ltr R m k) (ltr R m (k + 1))) L
        omega
      · split
        · have h1 := hrS_len R m f (k + 1) (adS 8 (adS 2 L))
          have h2 := adS_len 8 (adS 2 L)
          have h3 := adS_len 2 L
          omega
        · have h1 := hrS_len R m f (k + 1) (adS (sgS (ltr R m k) (ltr R m (k + 1)) (k == 0)) L)
          have h2 := adS_len (sgS (ltr R m k) (ltr R m (k + 1)) (k == 0)) L
          omega
theorem snd_lt {R : RR} {m x : Nat} (h : x ∈ snd R m) : x < 10 := hrS_lt R m 10 0 [] (fun x hx => by cases hx) x h
theorem snd_len (R : RR) (m : Nat) : (snd R m).length ≤ 20 := by
  have := hrS_len R m 10 0 []
  simp only [List.length_nil] at this
  exact this
theorem hrS_end {R : RR} {m : Nat} {k : Nat} (h : qq R m 0 ≤ k) (f : Nat) (L : List Nat) : hrS R m f k L = L := by
  cases f
  · rfl
  · unfold hrS
    rw [if_pos h]
end
section
variable {R : RR} {G : GH} {n o o1 m : Nat} {post : GH → Prop}
set_option maxHeartbeats 2000000 in
theorem wI_hear (hV : VR n R) (hn : n ≤ 13) (hC : CR R (G o1)) (hm : m < R 1) (ho : o1 ≠ o) (hp : ∀ G', Ag (WS o 1 2 m) G G' → HS (G' o) 1 2 m (snd R m) → post G') : wp_X1_hear post o o1 (zI m) G := by
  have hm13 : m < 13 := Nat.lt_of_lt_of_le hm (Nat.le_trans hV.mk hn)
  have hl := hV.ln hm
  have cm : (zI (m : Int)).toNatClampNeg = m := zI_clN (by omega)
  unfold wp_X1_hear
  rintro _ rfl
  refine ⟨zI_in (by omega), ?_⟩
  rw [cm, hC.ln hm]
  rintro _ rfl
  refine ⟨zI_in (by omega), ?_⟩
  rintro _ rfl
  rw [zl10, zI_mul]
  have hC2 : ∀ G', Ag (WS o 1 2 m) G G' → CR R (G' o1) := fun G' a => by
    rw [a.ob o1 (fun b j w => ho w.1)]
    exact hC
  intro P26 K26
  have main : ∀ f t k : Nat, ∀ L : List Nat, ∀ G', t + f = 10 → t ≤ k → k ≤ qq R m 0 + 1 → Ag (WS o 1 2 m) G G' → HS (G' o) 1 2 m L → (∀ x, x ∈ L → x < 10) → L.length ≤ 2 * t → hrS R m f k L = snd R m → P26 (zI m) (zI ((m : Int) * 10)) (zI (qq R m 0)) (zI k) (zI t) G' := by
    intro f
    induction f with
    | zero =>
      intro t k L G' ht _ _ ag hs _ _ he
      refine K26 _ _ _ _ _ _ ?_
      unfold lb_X1_hear_26
      refine br_t (by rw [zl10, zI_le (by omega)]; omega) ?_
      exact hp G' ag (by rw [← he]; exact hs)
    | succ f ih =>
      intro t k L G' ht htk hk ag hs hx hL he
      refine K26 _ _ _ _ _ _ ?_
      unfold lb_X1_hear_26
      refine br_f (by rw [zl10, zI_le (by omega)]; omega) ?_
      by_cases q : qq R m 0 ≤ k
      · refine br_t (by rw [zI_le (by omega)]; omega) ?_
        rw [hrS_end q] at he
        exact hp G' ag (by rw [← he]; exact hs)
      refine br_f (by rw [zI_le (by omega)]; omega) ?_
      obtain ⟨e0, l1, l2⟩ := ltr_lt hV hm (show k < qq R m 0 by omega)
      have g0 : G' o1 6 (10 * m + k) = zI ((ltr R m k : Int) - 97) := by rw [(hC2 G' ag).lt hm (by omega), e0]
      rw [zI_add]
      refine ⟨zI_in (by omega), ?_⟩
      rw [zI_cl (by omega), show ((m : Int) * 10 + (k : Int)).toNat = 10 * m + k by omega, g0, zI_nb (by omega), zl97, zI_add, zI_char (by omega), show ((97 : Int) + ((ltr R m k : Int) - 97)) = (ltr R m k : Int) by omega]
      rintro _ rfl
      have step : ∀ s0 : Nat, s0 ≤ 122 → prS (ltr R m k) s0 = prS (ltr R m k) (ltr R m (k + 1)) → (∀ b, sgS (ltr R m k) s0 b = sgS (ltr R m k) (ltr R m (k + 1)) b) → j_X1_hear_84 post P26 o o1 (zI m) (zI ((m : Int) * 10)) (zI (qq R m 0)) (zI k) (zI t) (zI (ltr R m k)) (zI s0) G' := by
        intro s0 hs0 hpr hsg
        have nx : ∀ (G'' : GH) (v : Int) (k' : Nat) (L' : List Nat), Ag (WS o 1 2 m) G G'' → -1 ≤ v ∧ v ≤ 9 → HS (G'' o) 1 2 m L' → (∀ x, x ∈ L' → x < 10) → L'.length ≤ 2 * t + 1 → t ≤ k' → k' ≤ qq R m 0 → hrS R m f (k' + 1) (adS v L') = snd R m → j_X1_hear_147 post P26 o o1 (zI m) (zI ((m : Int) * 10)) (zI (qq R m 0)) (zI k') (zI t) (zI v) G'' := by
          intro G'' v k' L' ag' hv hs' hx' hL' hk1 hk2 he'
          unfold j_X1_hear_147
          refine wI_addSound hm13 hv (by omega) hs' hx' (fun G3 ag3 hs3 => ?_)
          rw [zl1, zI_add, zI_add]
          have := adS_len v L'
          exact ih (t + 1) (k' + 1) (adS v L') G3 (by omega) (by omega) (by omega) (ag'.tr ag3) hs3 (adS_lt hv.2 hx') (by omega) he'
        unfold j_X1_hear_84
        refine wI_soundOfTwo (by omega) hs0 ?_
        rw [hpr]
        have hr := prS_rg (ltr R m k) (ltr R m (k + 1))
        unfold hrS at he
        rw [if_neg q] at he
        refine br_c (fun z => ?_) (fun z => ?_)
        · rw [zl2, zI_neg, zI_eq (by omega)] at z
          rw [if_neg (by omega)] at he
          refine br_c (fun w => ?_) (fun w => ?_)
          · rw [zl120, zI_eq (by omega)] at w
            rw [if_pos (by omega)] at he
            refine wI_addSound (s := 2) hm13 (by omega) (by omega) hs hx (fun G3 ag3 hs3 => ?_)
            have := adS_len 2 L
            exact nx G3 8 k (adS 2 L) (ag.tr ag3) (by omega) hs3 (adS_lt (by omega) hx) (by omega) (by omega) (by omega) he
          · rw [zl120, zI_eq (by omega)] at w
            rw [if_neg (by omega)] at he
            have hsr := sgS_rg (ltr R m k) (ltr R m (k + 1)) (k == 0)
            have fin : ∀ v : Int32, v = (if (k == 0) then 1 else 0) → j_X1_hear_142 post P26 o o1 (zI m) (zI ((m : Int) * 10)) (zI (qq R m 0)) (zI k) (zI t) (zI (ltr R m k)) (zI s0) v G' := by
              intro v hv
              unfold j_X1_hear_142
              refine wI_soundOfOne (f := (k == 0)) hv ⟨l1, l2⟩ hs0 ?_
              rw [hsg]
              exact nx G' _ k L ag hsr hs hx (by omega) (by omega) (by omega) he
            refine br_c (fun u => ?_) (fun u => ?_)
            · rw [zl0, zI_eq (by omega)] at u
              exact fin _ (by rw [if_pos (by simp; omega)])
            · rw [zl0, zI_eq (by omega)] at u
              exact fin _ (by rw [if_neg (by simp; omega)])
        · rw [zl2, zI_neg, zI_eq (by omega)] at z
          rw [if_pos (by omega)] at he
          rw [zl1, zI_add]
          exact nx G' _ (k + 1) L ag (by omega) hs hx (by omega) (by omega) (by omega) he
      rw [zl1, zI_add]
      by_cases w : qq R m 0 ≤ k + 1
      · refine br_t (by rw [zI_le (by omega)]; omega) ?_
        have e := ltr_0 (R := R) (m := m) w
        exact step 32 (by omega) (by rw [e]; exact prS_0 _) (fun b => by rw [e]; exact sgS_0 _ _)
      · refine br_f (by rw [zI_le (by omega)]; omega) ?_
        obtain ⟨e1, n1, n2⟩ := ltr_lt hV hm (show k + 1 < qq R m 0 by omega)
        have g1 : G' o1 6 (10 * m + (k + 1)) = zI ((ltr R m (k + 1) : Int) - 97) := by rw [(hC2 G' ag).lt hm (by omega), e1]
        rw [zI_add]
        refine ⟨zI_in (by omega), ?_⟩
        rw [zI_cl (by omega), show ((m : Int) * 10 + (k : Int) + 1).toNat = 10 * m + (k + 1) by omega, g1, zI_nb (by omega), zI_add, zI_char (by omega), show ((97 : Int) + ((ltr R m (k + 1) : Int) - 97)) = (ltr R m (k + 1) : Int) by omega]
        exact step _ (by omega) rfl (fun _ => rfl)
  refine main 10 0 0 [] _ (by omega) (by omega) (by omega) ((Ag.rf G).up ⟨rfl, Or.inr ⟨rfl, rfl⟩⟩) ⟨?_, fun j hj => by simp at hj⟩ (fun x hx => by cases hx) (by simp) rfl
  rw [gs_eq]
  unfold upd
  rw [if_pos rfl]
  rfl
end
