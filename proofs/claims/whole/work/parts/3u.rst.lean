/-! ===== settling among a closed set alone ===== -/
theorem orS_cg {R : RR} {h d : Nat} {am am' : Nat → Bool} : ∀ n, (∀ i, i < n → am i = am' i) → orS R h d am n = orS R h d am' n
  | 0, _ => rfl
  | n + 1, hc => by
    have ih := orS_cg (R := R) (h := h) (d := d) n (fun i hi => hc i (by omega))
    unfold orS
    rw [ih, hc n (by omega)]
theorem stl_mono {R : RR} {i : Nat} : ∀ {L : List Nat} {H : Nat}, H.testBit i = true → (stl R H L).testBit i = true
  | [], _, h => h
  | m :: L, H, h => by
    unfold stl
    split
    · exact stl_mono (by rw [Nat.testBit_or, h]; rfl)
    · exact stl_mono h
theorem stl_sub {R : RR} {i : Nat} : ∀ {L : List Nat} {H : Nat}, (stl R H L).testBit i = true → H.testBit i = true ∨ i ∈ L
  | [], _, h => Or.inl h
  | m :: L, H, h => by
    unfold stl at h
    split at h
    · rcases stl_sub h with q | q
      · rw [Nat.testBit_or, Bool.or_eq_true, Nat.testBit_two_pow, decide_eq_true_eq] at q
        rcases q with q | q
        · exact Or.inl q
        · exact Or.inr (q ▸ List.mem_cons_self ..)
      · exact Or.inr (List.mem_cons_of_mem _ q)
    · rcases stl_sub h with q | q
      · exact Or.inl q
      · exact Or.inr (List.mem_cons_of_mem _ q)
theorem stR_tb {R : RR} {i : Nat} : ∀ {L : List Nat} {H acc : Nat}, L.Nodup → (∀ x, x ∈ L → H.testBit x = false) → (stR R H acc L).testBit i = (acc.testBit i || (decide (i ∈ L) && !(stl R H L).testBit i))
  | [], H, acc, _, _ => by simp [stR]
  | m :: L, H, acc, hn, h0 => by
    have hn' := List.nodup_cons.mp hn
    have h0' : ∀ x, x ∈ L → H.testBit x = false := fun x hx => h0 x (List.mem_cons_of_mem _ hx)
    have hm := h0 m (List.mem_cons_self ..)
    unfold stR stl
    by_cases q : agn R H m = 0
    · rw [if_pos q, if_pos q, stR_tb hn'.2 (fun x hx => by
        rw [Nat.testBit_or, h0' x hx, Nat.testBit_two_pow_of_ne (n := m) (m := x) (fun e => hn'.1 (by rw [e]; exact hx))]
        rfl)]
      by_cases w : i = m
      · subst w
        have : (stl R (H ||| 2 ^ i) L).testBit i = true := stl_mono (by rw [Nat.testBit_or, Nat.testBit_two_pow_self, Bool.or_true])
        rw [this]
        simp
      · have : decide (i ∈ m :: L) = decide (i ∈ L) := decide_eq_decide.mpr (by rw [List.mem_cons]; exact ⟨fun z => z.resolve_left w, Or.inr⟩)
        rw [this]
    · rw [if_neg q, if_neg q, stR_tb hn'.2 h0', Nat.testBit_or]
      by_cases w : i = m
      · subst w
        have : (stl R H L).testBit i = false := by
          rw [Bool.eq_false_iff]
          intro z
          rcases stl_sub z with z | z
          · rw [hm] at z
            cases z
          · exact hn'.1 z
        rw [this, Nat.testBit_two_pow_self, decide_eq_true (List.mem_cons_self ..)]
        simp
      · have : decide (i ∈ m :: L) = decide (i ∈ L) := decide_eq_decide.mpr (by rw [List.mem_cons]; exact ⟨fun z => z.resolve_left w, Or.inr⟩)
        rw [this, Nat.testBit_two_pow_of_ne (fun e => w e.symm), Bool.or_false]
theorem fstIn_filter {a : Nat} {q : Nat → Bool} (h : ∀ i, a.testBit i = true → q i = true) : ∀ L : List Nat, fstIn a (L.filter q) = fstIn a L
  | [] => rfl
  | x :: L => by
    have ih := fstIn_filter h L
    rw [List.filter_cons]
    by_cases w : q x = true
    · rw [if_pos w]
      show (if a.testBit x = true then (x : Int) else fstIn a (L.filter q)) = (if a.testBit x = true then (x : Int) else fstIn a L)
      rw [ih]
    · rw [if_neg w, ih]
      show _ = (if a.testBit x = true then (x : Int) else fstIn a L)
      rw [if_neg (fun z => w (h x z))]
/-- a set of marks that holds all that are alike to one of its own -/
def clo (R : RR) (s : Nat) : Prop := ∀ m, m < R 1 → s.testBit m = true → ∀ i, (alS R m).testBit i = true → s.testBit i = true
theorem agn_cut {R : RR} {s H H' m : Nat} (ha : alS R m < 8192) (hm : ∀ i, (alS R m).testBit i = true → s.testBit i = true) (hH : ∀ i, H'.testBit i = (H.testBit i && s.testBit i)) : agn R H' m = agn R H m := by
  apply Nat.eq_of_testBit_eq
  intro i
  unfold agn
  rw [Nat.testBit_and, Nat.testBit_and, bdf_tb (by omega), hH i]
  cases e : (alS R m).testBit i
  · rfl
  · rw [hm i e]
    simp
theorem stl_cut {R : RR} {s : Nat} (hal : ∀ m, alS R m < 8192) (hc : clo R s) : ∀ {L : List Nat} {H H' : Nat}, (∀ x, x ∈ L → x < R 1) → (∀ i, H'.testBit i = (H.testBit i && s.testBit i)) → ∀ i, (stl R H' (L.filter s.testBit)).testBit i = ((stl R H L).testBit i && s.testBit i)
  | [], _, _, _, h, i => h i
  | m :: L, H, H', hL, h, i => by
    have hL' : ∀ x, x ∈ L → x < R 1 := fun x hx => hL x (List.mem_cons_of_mem _ hx)
    have hm := hL m (List.mem_cons_self ..)
    rw [List.filter_cons]
    by_cases w : s.testBit m = true
    · rw [if_pos w]
      have e := agn_cut (hal m) (hc m hm w) h
      show (if agn R H' m = 0 then stl R (H' ||| 2 ^ m) (L.filter s.testBit) else stl R H' (L.filter s.testBit)).testBit i = ((if agn R H m = 0 then stl R (H ||| 2 ^ m) L else stl R H L).testBit i && s.testBit i)
      rw [e]
      by_cases q : agn R H m = 0
      · rw [if_pos q, if_pos q]
        refine stl_cut hal hc hL' (fun j => ?_) i
        rw [Nat.testBit_or, Nat.testBit_or, h j, Nat.testBit_two_pow]
        by_cases u : m = j
        · subst u
          rw [w]
          simp
        · rw [decide_eq_false u]
          simp
      · rw [if_neg q, if_neg q]
        exact stl_cut hal hc hL' h i
    · rw [if_neg w]
      show _ = ((if agn R H m = 0 then stl R (H ||| 2 ^ m) L else stl R H L).testBit i && s.testBit i)
      split
      · refine stl_cut hal hc hL' (fun j => ?_) i
        rw [Nat.testBit_or, h j, Nat.testBit_two_pow]
        by_cases u : m = j
        · subst u
          rw [show s.testBit m = false by simpa using w]
          simp
        · rw [decide_eq_false u]
          simp
      · exact stl_cut hal hc hL' h i
theorem rfF_cut {R : RR} {s x : Nat} (hal : ∀ m, alS R m < 8192) (hc : clo R s) (hx : s.testBit x = true) : ∀ {L pre : List Nat} {H H' : Nat}, (∀ y, y ∈ L → y < R 1) → (∀ i, H'.testBit i = (H.testBit i && s.testBit i)) → rfF R (pre.filter s.testBit) H' (L.filter s.testBit) x = rfF R pre H L x
  | [], _, _, _, _, _ => rfl
  | m :: L, pre, H, H', hL, h => by
    have hL' : ∀ x, x ∈ L → x < R 1 := fun x hx => hL x (List.mem_cons_of_mem _ hx)
    have hm := hL m (List.mem_cons_self ..)
    have ep : ∀ p : List Nat, (p ++ [m]).filter s.testBit = if s.testBit m = true then p.filter s.testBit ++ [m] else p.filter s.testBit := by
      intro p
      rw [List.filter_append, List.filter_cons]
      split <;> simp
    rw [List.filter_cons]
    by_cases w : s.testBit m = true
    · rw [if_pos w]
      have e := agn_cut (hal m) (hc m hm w) h
      show (if agn R H' m = 0 then rfF R (pre.filter s.testBit ++ [m]) (H' ||| 2 ^ m) (L.filter s.testBit) x else if x = m then fstIn (agn R H' m) (pre.filter s.testBit) else rfF R (pre.filter s.testBit ++ [m]) H' (L.filter s.testBit) x) = (if agn R H m = 0 then rfF R (pre ++ [m]) (H ||| 2 ^ m) L x else if x = m then fstIn (agn R H m) pre else rfF R (pre ++ [m]) H L x)
      have e2 := ep pre
      rw [if_pos w] at e2
      rw [e, ← e2]
      by_cases q : agn R H m = 0
      · rw [if_pos q, if_pos q]
        refine rfF_cut hal hc hx hL' (fun j => ?_)
        rw [Nat.testBit_or, Nat.testBit_or, h j, Nat.testBit_two_pow]
        by_cases u : m = j
        · subst u
          rw [w]
          simp
        · rw [decide_eq_false u]
          simp
      · rw [if_neg q, if_neg q]
        by_cases u : x = m
        · rw [if_pos u, if_pos u]
          refine fstIn_filter (fun i hi => ?_) pre
          unfold agn at hi
          rw [Nat.testBit_and, bdf_tb (by have := hal m; omega), Bool.and_eq_true, Bool.and_eq_true] at hi
          exact hc m hm w i hi.1.1
        · rw [if_neg u, if_neg u]
          exact rfF_cut hal hc hx hL' h
    · rw [if_neg w]
      have u : x ≠ m := fun z => w (z ▸ hx)
      show _ = (if agn R H m = 0 then rfF R (pre ++ [m]) (H ||| 2 ^ m) L x else if x = m then fstIn (agn R H m) pre else rfF R (pre ++ [m]) H L x)
      have e2 := ep pre
      rw [if_neg w] at e2
      rw [← e2]
      split
      · refine rfF_cut hal hc hx hL' (fun j => ?_)
        rw [Nat.testBit_or, h j, Nat.testBit_two_pow]
        by_cases u : m = j
        · subst u
          rw [show s.testBit m = false by simpa using w]
          simp
        · rw [decide_eq_false u]
          simp
      · exact rfF_cut hal hc hx hL' h
/-! the group is closed; so are all marks -/
theorem gp_tb {n : Nat} {R : RR} {m : Nat} (hm : m < R 1) : ∀ t i, (rc (alS R) (R 1) (2 ^ m) t).testBit i = true → i < R 1
  | 0, i, h => by
    have h : (2 ^ m).testBit i = true := h
    rw [Nat.testBit_two_pow, decide_eq_true_eq] at h
    omega
  | t + 1, i, h => by
    rcases wd_tb.mp h with h | ⟨c, a, b, d⟩
    · exact gp_tb (n := n) hm t i h
    · unfold alS at d
      rw [bset_tb, Bool.and_eq_true, decide_eq_true_eq] at d
      exact d.1
theorem gp_clo {n : Nat} {R : RR} (hV : VR n R) (hn : n ≤ 13) {m : Nat} (hm : m < R 1) : clo R (gpS R m) := by
  have h13 := Nat.le_trans hV.mk hn
  obtain ⟨hb1, hb2⟩ := bit13 (show m < 13 by omega)
  intro a ha hs i hi
  have := rc_stop (alS_lt hV hn) hb1 hb2
  unfold gpS at hs ⊢
  rw [← this]
  exact wd_tb.mpr (Or.inr ⟨a, ha, hs, hi⟩)
theorem gp_lt {n : Nat} {R : RR} (hV : VR n R) (hn : n ≤ 13) {m : Nat} (hm : m < R 1) : gpS R m < 8192 := by
  have h13 := Nat.le_trans hV.mk hn
  obtain ⟨hb1, hb2⟩ := bit13 (show m < 13 by omega)
  exact rc_lt (alS_lt hV hn) hb1 13
theorem gp_self {R : RR} {m : Nat} : (gpS R m).testBit m = true := rc_le (t := 0) (by omega) (show (2 ^ m).testBit m = true from Nat.testBit_two_pow_self)
theorem all_clo (R : RR) : clo R (2 ^ R 1 - 1) := by
  intro m _ _ i hi
  unfold alS at hi
  rw [bset_tb, Bool.and_eq_true] at hi
  rw [Nat.testBit_two_pow_sub_one]
  exact hi.1
